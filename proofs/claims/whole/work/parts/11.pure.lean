/-! the words of the model's methods, as its code has them -/
theorem rvI {a b : Int32} (h : a = b) : some (Value.int a) = some (Value.int b) := by rw [h]
theorem rvJ {a b : Int64} (h : a = b) : some (Value.long a) = some (Value.long b) := by rw [h]
abbrev inL (v lo hi : Int64) : Prop := lo ≤ v ∧ v ≤ hi
theorem inL_1 {v lo hi : Int64} (h : v < lo) : z (inL v lo hi) = nI 0 := if_neg (fun q => absurd q.1 (Int64.not_le.mpr h))
theorem inL_2 {v lo hi : Int64} (h : hi < v) : z (inL v lo hi) = nI 0 := if_neg (fun q => absurd q.2 (Int64.not_le.mpr h))
theorem inL_3 {v lo hi : Int64} (h : ¬ v < lo) (h2 : ¬ hi < v) : z (inL v lo hi) = nI 1 := if_pos ⟨Int64.not_lt.mp h, Int64.not_lt.mp h2⟩
def hTo (v hi : Int32) : Int32 := if v ≤ hi then v else hi
def mostF (q : Int32) : Int32 := if q = nI 1 then nI 12 else if q = nI 2 then nI 1 else if q = nI 3 then nI 9 else if q = nI 4 then nI 99 else if q = nI 5 then nI 12 else if q = nI 6 then nI 999999 else nI 1
def undP (kd o : Int32) : Bool := decide (o = 0) || (decide (kd = o) || ((decide (kd = nI 4) && decide (o = nI 1)) || (decide (kd = nI 5) && decide (o = nI 3))))
theorem fnd_ix (t : Nat) : (-1000000001 : Int32) - (-1000000001 - nI t) = nI t := by
  rw [Int32.sub_eq_add_neg, Int32.neg_sub, Int32.sub_eq_add_neg, ← Int32.add_assoc, Int32.add_comm (-1000000001) (nI t), Int32.add_assoc, Int32.add_right_neg, Int32.add_zero]
/-- a number within bounds -/
def rg (lo hi : Int) (q : Int32) : Bool := decide (lo ≤ q.toInt ∧ q.toInt ≤ hi)
theorem rg_iff {lo hi : Int} {q : Int32} : rg lo hi q = true ↔ lo ≤ q.toInt ∧ q.toInt ≤ hi := by unfold rg; exact decide_eq_true_iff
theorem z_iff {P Q : Prop} [Decidable P] [Decidable Q] (h : P ↔ Q) : z P = z Q := by
  unfold z
  by_cases hp : P
  · rw [if_pos hp, if_pos (h.mp hp)]
  · rw [if_neg hp, if_neg (fun q => hp (h.mpr q))]
theorem inL_rg {q : Int32} {lo hi : Int64} : inL q.toInt64 lo hi ↔ rg lo.toInt hi.toInt q = true := by
  unfold inL
  rw [rg_iff, Int64.le_iff_toInt_le, Int64.le_iff_toInt_le, Int32.toInt_toInt64]
def isN (N : Nat) (q : Int32) : Bool := rg 0 ((N : Int) - 1) q
def twoP (N : Nat) (q o : Int32) : Bool := isN N q && (isN N o && !decide (q = o))
theorem many_1 {N : Nat} (h : N ≤ 8) : ((nI N - nI 1).toInt64).toInt = (N : Int) - 1 := by
  rw [Int32.toInt_toInt64, pk_sub_toInt (by omega) (by omega)]
  rfl
theorem isN_ix {N : Nat} {q : Int32} (h8 : N ≤ 8) (h : isN N q = true) : ∃ i : Nat, i < N ∧ q = nI i := by
  have h := rg_iff.mp h
  refine ⟨q.toInt.toNat, by omega, ?_⟩
  apply Int32.toInt_inj.mp
  rw [nI_toInt (by omega)]
  omega
theorem rg_ix {a b : Nat} {q : Int32} (hb : b < 2 ^ 31) (h : rg a b q = true) : ∃ i : Nat, a ≤ i ∧ i ≤ b ∧ q = nI i := by
  have h := rg_iff.mp h
  refine ⟨q.toInt.toNat, by omega, by omega, ?_⟩
  apply Int32.toInt_inj.mp
  rw [nI_toInt (by omega)]
  omega
theorem upd_0 {f : Nat → Int32} {k : Nat} {x : Int32} (h : k ≠ 0) : upd f k x 0 = f 0 := by simp [upd, Ne.symm h]
theorem upd_n {f : Nat → Int32} {k j : Nat} {x : Int32} (h : j ≠ k) : upd f k x j = f j := by simp [upd, h]
theorem upd_s {f : Nat → Int32} {k : Nat} {x : Int32} : upd f k x k = x := by simp [upd]
def cpn (j : Nat) (f g : Nat → Int32) : Nat → Int32 := fun k => if k < j then f k else g k
theorem cpn_0 {f g : Nat → Int32} : cpn 0 f g = g := by funext k; simp [cpn]
theorem cpn_s {j : Nat} {f g : Nat → Int32} : upd (cpn j f g) j (f j) = cpn (j + 1) f g := by
  funext k
  unfold upd cpn
  by_cases h : k = j
  · subst h; simp
  · by_cases h2 : k < j
    · simp [h, h2, Nat.lt_succ_of_lt h2]
    · have h3 : ¬ k < j + 1 := by omega
      simp [h, h2, h3]
theorem cpn_in {n k : Nat} {f g : Nat → Int32} (h : k < n) : cpn n f g k = f k := by simp [cpn, h]
def thoseL (sr : Nat → Int32) (q : Int32) : Nat → Nat → Int32 → Int32
  | 0, _, acc => acc
  | n + 1, j, acc => thoseL sr q n (j + 1) (acc ||| (if sr (5 + 8 * j + 1) = q then nI 1 <<< (nI j &&& 31) else nI 0))
def zrn (sr : Nat → Int32) (N j : Nat) : Nat → Int32 := fun k => if 5 + 8 * N ≤ k ∧ k < 5 + 8 * N + j then nI 0 else sr k
theorem zrn_0 {sr : Nat → Int32} {N : Nat} : zrn sr N 0 = sr := by funext k; unfold zrn; rw [if_neg (by omega)]
theorem zrn_s {sr : Nat → Int32} {N j : Nat} : upd (zrn sr N j) (5 + 8 * N + j) (nI 0) = zrn sr N (j + 1) := by
  funext k
  unfold upd zrn
  by_cases h : k = 5 + 8 * N + j
  · rw [if_pos h, if_pos (by omega)]
  · rw [if_neg h]
    by_cases h2 : 5 + 8 * N ≤ k ∧ k < 5 + 8 * N + j
    · rw [if_pos h2, if_pos (by omega)]
    · rw [if_neg h2, if_neg (by omega)]
theorem zrn_m {sr : Nat → Int32} {N j : Nat} : zrn sr N j 0 = sr 0 := by unfold zrn; rw [if_neg (by omega)]
def addF (sr : Nat → Int32) (N : Nat) (kd ml : Int32) : Nat → Int32 := upd (upd (upd (upd (upd (zrn sr N 8) (5 + 8 * N + 0) kd) (5 + 8 * N + 1) ml) (5 + 8 * N + 2) (nI 1)) (5 + 8 * N + 3) (nI 5)) 0 (nI (N + 1))
def plainF (sr : Nat → Int32) (i : Nat) : Int32 := if sr (5 + 8 * i + 4) ≤ nI 9 then nI 3 else nI 2
def paceF (sr : Nat → Int32) (N i : Nat) : Int32 :=
  if sr (5 + 8 * i + 0) = nI 2 then (if thoseL sr (sr (5 + 8 * i + 1)) N 0 (nI 0) = nI 1 <<< (nI i &&& 31) then plainF sr i else plainF sr i + nI 1)
  else if sr (5 + 8 * i + 0) = nI 3 then plainF sr i / nI 2
  else if sr (5 + 8 * i + 0) = nI 4 then (if sr (5 + 8 * i + 3) = 0 then plainF sr i + nI 1 else plainF sr i)
  else if sr (5 + 8 * i + 0) = nI 5 then plainF sr i / nI 2 + sr 4 else plainF sr i
def payP (sr : Nat → Int32) (i : Nat) : Int32 := sr (5 + 8 * i + 5) * sr 3 + sr (5 + 8 * i + 5) * sr 4
def payF (sr : Nat → Int32) (i : Nat) : Int32 :=
  if sr (5 + 8 * i + 0) = nI 1 then payP sr i + nI 2 else if sr (5 + 8 * i + 0) = nI 2 then nI 2 * payP sr i
  else if sr (5 + 8 * i + 0) = nI 3 then payP sr i + sr (5 + 8 * i + 5) / nI 2 else if sr (5 + 8 * i + 0) = nI 4 then payP sr i + nI 2
  else if sr (5 + 8 * i + 0) = nI 5 then nI 0 else payP sr i
def pedF (sr : Nat → Int32) : Int32 := if sr 1 - sr 1 / nI 5 * nI 5 = 0 then nI 0 else nI 1
def wearF (sr : Nat → Int32) (i : Nat) : Int32 :=
  if sr (5 + 8 * i + 0) = nI 1 then pedF sr else if sr (5 + 8 * i + 0) = nI 2 then nI 1 else if sr (5 + 8 * i + 0) = nI 3 then nI 0
  else if sr (5 + 8 * i + 0) = nI 4 then nI 2 * pedF sr + nI 1 else if sr (5 + 8 * i + 0) = nI 5 then nI 0 else nI 1
def paidF (sr : Nat → Int32) (i : Nat) : Nat → Int32 :=
  let pays := hTo (payF sr i) (sr 2)
  let s1 := upd sr 2 (sr 2 - pays)
  let s2 := upd s1 (5 + 8 * i + 6) (hTo (s1 (5 + 8 * i + 6) + pays) (nI 999999))
  let left := s2 (5 + 8 * i + 3) - wearF s2 i
  upd s2 (5 + 8 * i + 3) (if 0 ≤ left then left else nI 0)
def arrF (sr : Nat → Int32) (i : Nat) : Nat → Int32 :=
  let a1 := if sr (5 + 8 * i + 3) ≤ 0 then sr else paidF sr i
  let a2 := upd a1 (5 + 8 * i + 5) (nI 0)
  upd a2 (5 + 8 * i + 2) (nI 1 - a2 (5 + 8 * i + 2))
def byF (sr : Nat → Int32) (N i : Nat) : Int32 := hTo (paceF sr N i) (if sr (5 + 8 * i + 2) = nI 1 then nI 12 - sr (5 + 8 * i + 1) else sr (5 + 8 * i + 1))
def goF (sr : Nat → Int32) (N i : Nat) : Nat → Int32 :=
  let s1 := upd sr (5 + 8 * i + 1) (sr (5 + 8 * i + 1) + (if sr (5 + 8 * i + 2) = nI 1 then byF sr N i else -byF sr N i))
  let s2 := upd s1 (5 + 8 * i + 5) (hTo (s1 (5 + 8 * i + 5) + byF sr N i) (nI 12))
  upd s2 (5 + 8 * i + 4) (if s2 (5 + 8 * i + 1) = nI 6 then nI 0 else hTo (s2 (5 + 8 * i + 4) + nI 1) (nI 99))
def goesF (sr : Nat → Int32) (N i : Nat) : Nat → Int32 :=
  if goF sr N i (5 + 8 * i + 1) = (if sr (5 + 8 * i + 2) = nI 1 then nI 12 else nI 0) then arrF (goF sr N i) i else goF sr N i
def hourL (N : Nat) : Nat → Nat → (Nat → Int32) → Nat → Int32
  | 0, _, sr => sr
  | n + 1, j, sr => hourL N n (j + 1) (if sr (5 + 8 * j + 7) = 0 then goesF sr N j else sr)
def hourF (N : Nat) (sr : Nat → Int32) : Nat → Int32 := upd (hourL N N 0 sr) 1 (hourL N N 0 sr 1 + nI 1)
def hrsF (N : Nat) : Nat → (Nat → Int32) → Nat → Int32
  | 0, sr => sr
  | q + 1, sr => hrsF N q (hourF N sr)
theorem arrF_0 {sr : Nat → Int32} {i : Nat} : arrF sr i 0 = sr 0 := by
  unfold arrF paidF
  dsimp only
  rw [upd_0 (by omega), upd_0 (by omega)]
  split
  · rfl
  · rw [upd_0 (by omega), upd_0 (by omega), upd_0 (by omega)]
theorem goF_0 {sr : Nat → Int32} {N i : Nat} : goF sr N i 0 = sr 0 := by
  unfold goF
  rw [upd_0 (by omega), upd_0 (by omega), upd_0 (by omega)]
theorem goesF_0 {sr : Nat → Int32} {N i : Nat} : goesF sr N i 0 = sr 0 := by
  unfold goesF
  by_cases h : goF sr N i (5 + 8 * i + 1) = (if sr (5 + 8 * i + 2) = nI 1 then nI 12 else nI 0)
  · rw [if_pos h, arrF_0, goF_0]
  · rw [if_neg h]; exact goF_0
theorem hourL_0 {N : Nat} : ∀ (n j : Nat) (sr : Nat → Int32), hourL N n j sr 0 = sr 0
  | 0, _, _ => rfl
  | n + 1, j, sr => by
    show hourL N n (j + 1) (if sr (5 + 8 * j + 7) = 0 then goesF sr N j else sr) 0 = sr 0
    rw [hourL_0 n (j + 1)]
    split
    · exact goesF_0
    · rfl
theorem hourF_0 {N : Nat} {sr : Nat → Int32} : hourF N sr 0 = sr 0 := by
  unfold hourF
  rw [upd_0 (by omega), hourL_0]
theorem hrsF_0 {N : Nat} : ∀ (q : Nat) (sr : Nat → Int32), hrsF N q sr 0 = sr 0
  | 0, _ => rfl
  | q + 1, sr => by
    show hrsF N q (hourF N sr) 0 = sr 0
    rw [hrsF_0 q, hourF_0]
theorem arr_ext {cA : ClassId} {n : Nat} {f g : Nat → Int32} (h : ∀ k, k < n → f k = g k) : vp_cell cA (n, .inl f) = vp_cell cA (n, .inl g) := by
  unfold vp_cell
  dsimp only
  unfold arrV
  congr 1
  apply Array.ext
  · simp
  · intro i h1 h2
    simp at h1 ⊢
    exact h i h1
theorem m_ext {D : va_G} {cy : Nat → ClassId} {ad : Nat → Nat} {sr kS ot asd stt sr' kS' ot' asd' : Nat → Int32} {ik : Int32} {tp : Nat → Int32} {td fr tt vl wr : Int32} {bo so : Nat → Int32} {nu mv : Nat → Int64} {H : Heap} (hP : va_P D vwCl (mw cy ad sr kS ot asd stt ik tp td fr tt vl wr bo so nu mv) H)
    (h1 : ∀ k, k < 69 → sr k = sr' k) (h2 : ∀ k, k < 69 → kS k = kS' k) (h3 : ∀ k, k < 69 → ot k = ot' k) (h4 : ∀ k, k < 69 → asd k = asd' k) : va_P D vwCl (mw cy ad sr' kS' ot' asd' stt ik tp td fr tt vl wr bo so nu mv) H := by
  intro k q hk
  match k, hk with
  | 0, hk => exact hP 0 q hk
  | 1, hk => cases hk; exact (hP 1 _ rfl).trans (congrArg some (arr_ext h1))
  | 2, hk => cases hk; exact (hP 2 _ rfl).trans (congrArg some (arr_ext h2))
  | 3, hk => cases hk; exact (hP 3 _ rfl).trans (congrArg some (arr_ext h3))
  | 4, hk => cases hk; exact (hP 4 _ rfl).trans (congrArg some (arr_ext h4))
  | 5, hk => exact hP 5 q hk
  | 6, hk => exact hP 6 q hk
  | 7, hk => exact hP 7 q hk
  | 8, hk => exact hP 8 q hk
  | 9, hk => exact hP 9 q hk
  | 10, hk => exact hP 10 q hk
  | k + 11, hk => cases hk

/-! a public method's end: what is kept of the world, the rest is free -/
def mPub (D : va_G) (cy : Nat → ClassId) (ad : Nat → Nat) (rv : Option Value) (sr kS stt : Nat → Int32) (ik : Int32) (tp : Nat → Int32) (td : Int32) (bo so : Nat → Int32) (nu : Nat → Int64) : Array Value → State → Outcome → State → Prop := fun _ st oc t => oc = .returned rv ∧ (∃ (ot asd : Nat → Int32) (fr tt vl wr : Int32) (mv : Nat → Int64), va_P D vwCl (mw cy ad sr kS ot asd stt ik tp td fr tt vl wr bo so nu mv) t.heap) ∧ va_F (mA ad) st t
section MP
variable {p : Program} {l : Launch} {e : Env} {R : Room} {s : State} {m : MethodId} {args : Array Value} {below : List Frame} {meth : Method} {c : Code} {H : Heap} {locs : List Loc}
variable {cc : ByteArray} {pc : Nat} {ls : Array Slot} {D : va_G} {rv : Option Value}
variable {cy : Nat → ClassId} {ad : Nat → Nat} {sr kS ot asd stt sr' kS' stt' : Nat → Int32} {ik ik' : Int32} {tp tp' : Nat → Int32} {td fr tt vl wr td' : Int32} {bo so bo' so' : Nat → Int32} {nu mv nu' : Nat → Int64}
theorem mp_ri {v : Int32} (hx : p.tables.exec = Jvm.exec) (hb : c.code = cc) (hr : meth.sig.returnType = some .int) (hlocks : meth.locks = false) (hP : va_P D vwCl (mw cy ad sr kS ot asd stt ik tp td fr tt vl wr bo so nu mv) H) (hS : va_S (mA ad) s.heap H locs) (hdg : decode cc pc = .ok (.ireturn, 1)) (hv : rv = some (.int v)) (hw : (sr', kS', stt', ik', tp', td', bo', so', nu') = (sr, kS, stt, ik, tp, td, bo, so, nu)) : W p l e R s m args below meth c H locs 0 0 (MQ below (mPub D cy ad rv sr' kS' stt' ik' tp' td' bo' so' nu') args s 0 0 (mA ad)) (F0 m pc ls [.int v]) := by
  cases hw
  exact W.iret hx hb hr (fun t ht _ => ⟨by rw [hv], ⟨ot, asd, fr, tt, vl, wr, mv, by rw [ht]; exact hP⟩, hS.F ht⟩) hS.2.2 hdg hlocks
theorem mp_rl {v : Int64} (hx : p.tables.exec = Jvm.exec) (hb : c.code = cc) (hr : meth.sig.returnType = some .long) (hlocks : meth.locks = false) (hP : va_P D vwCl (mw cy ad sr kS ot asd stt ik tp td fr tt vl wr bo so nu mv) H) (hS : va_S (mA ad) s.heap H locs) (hdg : decode cc pc = .ok (.lreturn, 1)) (hv : rv = some (.long v)) (hw : (sr', kS', stt', ik', tp', td', bo', so', nu') = (sr, kS, stt, ik, tp, td, bo, so, nu)) : W p l e R s m args below meth c H locs 0 0 (MQ below (mPub D cy ad rv sr' kS' stt' ik' tp' td' bo' so' nu') args s 0 0 (mA ad)) (F0 m pc ls [.long v]) := by
  cases hw
  exact W.lret hx hb hr (fun t ht _ => ⟨by rw [hv], ⟨ot, asd, fr, tt, vl, wr, mv, by rw [ht]; exact hP⟩, hS.F ht⟩) hS.2.2 hdg hlocks
end MP
def fnd (stt : Nat → Int32) (t : Nat) : Nat → Int32 := upd stt t (stt t + nI 1)
def sumL (sr : Nat → Int32) (k : Nat) : Nat → Nat → Int32 → Int32
  | 0, _, acc => acc
  | n + 1, j, acc => sumL sr k n (j + 1) (acc + sr (5 + 8 * j + k))
def withL (sr : Nat → Int32) (k : Nat) : Nat → Nat → Int32 → Int32
  | 0, _, acc => acc
  | n + 1, j, acc => withL sr k n (j + 1) (acc ||| (if sr (5 + 8 * j + k) ≤ 0 then nI 0 else nI 1 <<< (nI j &&& 31)))
def roadM (q : Int32) : Int64 := if q = 0 then 999999 else if q = nI 1 then 20 else 1
def nowF (sr : Nat → Int32) (N : Nat) (q : Int32) : Int32 :=
  if q = nI 0 then sr (1 + 0) else if q = nI 1 then sr (1 + 1) else if q = nI 2 then sr (1 + 2) else if q = nI 3 then sr (1 + 3)
  else if q = nI 4 then sumL sr 6 N 0 (nI 0) else if q = nI 5 then withL sr 3 N 0 (nI 0) else if q = nI 6 then withL sr 7 N 0 (nI 0) else if q = nI 7 then sumL sr 5 N 0 (nI 0) else -1000000001
theorem rg07 {q : Int32} (h0 : ¬ q = nI 0) (h1 : ¬ q = nI 1) (h2 : ¬ q = nI 2) (h3 : ¬ q = nI 3) (h4 : ¬ q = nI 4) (h5 : ¬ q = nI 5) (h6 : ¬ q = nI 6) (h7 : ¬ q = nI 7) : ¬ rg 0 7 q = true := by
  intro h
  have h := rg_iff.mp h
  have e0 : q.toInt ≠ 0 := ne_int h0
  have e1 : q.toInt ≠ 1 := ne_int h1
  have e2 : q.toInt ≠ 2 := ne_int h2
  have e3 : q.toInt ≠ 3 := ne_int h3
  have e4 : q.toInt ≠ 4 := ne_int h4
  have e5 : q.toInt ≠ 5 := ne_int h5
  have e6 : q.toInt ≠ 6 := ne_int h6
  have e7 : q.toInt ≠ 7 := ne_int h7
  omega
def firstL (N wh : Nat) (v : Int32) : Nat → Nat → (Nat → Int32) → Nat
  | 0, n, _ => n
  | m + 1, n, ss => if ss wh = v then n else firstL N wh v m (n + 1) (hourF N ss)

theorem mw_sr {cy : Nat → ClassId} {ad : Nat → Nat} {sr sr' kS ot asd stt : Nat → Int32} {ik : Int32} {tp : Nat → Int32} {td fr tt vl wr : Int32} {bo so : Nat → Int32} {nu mv : Nat → Int64} (h : sr' = sr) : mw cy ad sr' kS ot asd stt ik tp td fr tt vl wr bo so nu mv = mw cy ad sr kS ot asd stt ik tp td fr tt vl wr bo so nu mv := by rw [h]

theorem upd_back {f : Nat → Int32} {k : Nat} {x : Int32} : upd (upd f k x) k (f k) = f := by
  funext j
  unfold upd
  by_cases h : j = k
  · rw [if_pos h, h]
  · rw [if_neg h, if_neg h]
theorem upd_id {f : Nat → Int32} {k : Nat} : upd f k (f k) = f := by
  funext j
  unfold upd
  by_cases h : j = k
  · rw [if_pos h, h]
  · rw [if_neg h]
theorem upd_upd {f : Nat → Int32} {k : Nat} {x y : Int32} : upd (upd f k x) k y = upd f k y := by
  funext j
  unfold upd
  by_cases h : j = k
  · rw [if_pos h, if_pos h]
  · rw [if_neg h, if_neg h, if_neg h]
theorem twoP_sp {N : Nat} {q o : Int32} (h : twoP N q o = true) : isN N q = true ∧ isN N o = true ∧ ¬ q = o := by
  unfold twoP at h
  simp only [Bool.and_eq_true, Bool.not_eq_true', decide_eq_false_iff_not] at h
  exact h
def meetL (N i k : Nat) : Nat → Nat → (Nat → Int32) → Nat
  | 0, n, _ => n
  | m + 1, n, ss => if ss (5 + 8 * i + 1) = ss (5 + 8 * k + 1) then n else meetL N i k m (n + 1) (hourF N ss)
def pm : Nat → Int32
  | 0 => -1
  | n + 1 => nI n
theorem pm_dec (n : Nat) : nI n + (-1) = pm n := by
  cases n with
  | zero => rfl
  | succ n => exact pk_m1 n
def pennyL (N q : Nat) (v : Int32) (sr : Nat → Int32) : Nat → Int32
  | 0 => -1
  | n + 1 => if hrsF N q (upd sr 3 (nI n)) 2 < v then pennyL N q v sr n else nI n
def reasonL (N i q : Nat) (v : Int32) (sr : Nat → Int32) : Nat → Nat → Int32
  | 0, _ => -1
  | n + 1, j => if hrsF N q (upd sr (5 + 8 * i + 3) (nI j)) (5 + 8 * i + 6) < v then reasonL N i q v sr n (j + 1) else nI j
theorem fnd_step {F A x : Int32} {n : Nat} {C : Prop} [Decidable C] (hn : n < 2 ^ 31) (hF : F = if C then A else nI n) (hx : x = if C then -1 else nI n) : F = if x < 0 then A else x := by
  by_cases c : C
  · rw [if_pos c] at hF hx
    rw [hx, if_pos (by decide), hF]
  · rw [if_neg c] at hF hx
    rw [hx, if_neg (nI_pos hn), hF]
theorem fnd_neg {x : Int32} {n : Nat} {C : Prop} [Decidable C] (hn : n < 2 ^ 31) (hx : x = if C then -1 else nI n) : x < 0 → -1 = x := by
  by_cases c : C
  · rw [if_pos c] at hx
    exact fun _ => hx.symm
  · rw [if_neg c] at hx
    rw [hx]
    exact fun h => absurd h (nI_pos hn)
def mostL (N wh i q : Nat) (sr : Nat → Int32) : Nat → Nat → Int32 → Int32 → Int32
  | 0, _, b, _ => b
  | n + 1, j, b, t => mostL N wh i q sr n (j + 1) (if hrsF N q (upd sr wh (nI j)) (5 + 8 * i + 6) ≤ t then b else nI j) (if hrsF N q (upd sr wh (nI j)) (5 + 8 * i + 6) ≤ t then t else hrsF N q (upd sr wh (nI j)) (5 + 8 * i + 6))
def richL (ss : Nat → Int32) : Nat → Nat → Nat → Nat
  | 0, _, b => b
  | n + 1, j, 0 => richL ss n (j + 1) (j + 1)
  | n + 1, j, b + 1 => richL ss n (j + 1) (if ss (5 + 8 * j + 6) ≤ ss (5 + 8 * b + 6) then b + 1 else j + 1)
