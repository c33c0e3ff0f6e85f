/-! class and model side by side -/
def Rel (p0 p2 : Nat → Int32) (ke : Int32) (tb : Nat → Int32) (t1 : Int32) (sb ss : Nat → Int32) (sw : Nat → Nat → Int64) (fd : Nat → Int32) (sr kS stt : Nat → Int32) (ik : Int32) (tp : Nat → Int32) (td : Int32) (bo so : Nat → Int32) (nu : Nat → Int64) : Prop :=
  (∃ N : Nat, N ≤ 8 ∧ p0 0 = nI N ∧ agr (5 + 8 * N) p0 sr ∧ okR N sr) ∧ (∃ N : Nat, N ≤ 8 ∧ p2 0 = nI N ∧ (¬ ke = 0 → agr (5 + 8 * N) p2 kS ∧ okR N kS)) ∧ ke = ik ∧ (∀ k, k < 7 → fd k = stt k) ∧ (∃ T : Nat, T ≤ 120 ∧ t1 = nI T ∧ td = nI T) ∧ tp = bu tb ∧ (∀ s, s < 4 → sb s = bo s ∧ ss s = so s ∧ ∃ z : Nat, z ≤ 40 ∧ ss s = nI z) ∧ ∀ s k, s < 4 → k < 40 → sw s k = nu (40 * s + k)
theorem cl_nI {n : Nat} (h : n < 2 ^ 31) : (nI n).toNatClampNeg = n := nI_clamp h
section REL
variable {p0 p2 : Nat → Int32} {ke : Int32} {tb : Nat → Int32} {t1 : Int32} {sb ss : Nat → Int32} {sw : Nat → Nat → Int64} {fd : Nat → Int32} {sr kS stt : Nat → Int32} {ik : Int32} {tp : Nat → Int32} {td : Int32} {bo so : Nat → Int32} {nu : Nat → Int64}
theorem Rel.fi (h : Rel p0 p2 ke tb t1 sb ss sw fd sr kS stt ik tp td bo so nu) (t : Nat) (ht : t < 7) : Rel p0 p2 ke tb t1 sb ss sw (fnd fd t) sr kS (fnd stt t) ik tp td bo so nu := by
  obtain ⟨a, b, c, d, e⟩ := h
  refine ⟨a, b, c, fun k hk => ?_, e⟩
  unfold fnd upd
  by_cases q : k = t
  · rw [if_pos q, if_pos q, d t ht]
  · rw [if_neg q, if_neg q, d k hk]
theorem Rel.row {p0' sr' : Nat → Int32} (h : Rel p0 p2 ke tb t1 sb ss sw fd sr kS stt ik tp td bo so nu) {N : Nat} (h8 : N ≤ 8) (h0 : p0' 0 = nI N) (hA : agr (5 + 8 * N) p0' sr') (hR : okR N sr') : Rel p0' p2 ke tb t1 sb ss sw fd sr' kS stt ik tp td bo so nu := ⟨⟨N, h8, h0, hA, hR⟩, h.2⟩
theorem Rel.sh {sb' ss' bo' so' : Nat → Int32} {sw' : Nat → Nat → Int64} {nu' : Nat → Int64} (h : Rel p0 p2 ke tb t1 sb ss sw fd sr kS stt ik tp td bo so nu) (h1 : ∀ s, s < 4 → sb' s = bo' s ∧ ss' s = so' s ∧ ∃ z : Nat, z ≤ 40 ∧ ss' s = nI z) (h2 : ∀ s k, s < 4 → k < 40 → sw' s k = nu' (40 * s + k)) : Rel p0 p2 ke tb t1 sb' ss' sw' fd sr kS stt ik tp td bo' so' nu' := by
  obtain ⟨a, b, c, d, e, f, -, -⟩ := h
  exact ⟨a, b, c, d, e, f, h1, h2⟩
theorem Rel.nums {sw' : Nat → Nat → Int64} {nu' : Nat → Int64} (h : Rel p0 p2 ke tb t1 sb ss sw fd sr kS stt ik tp td bo so nu) (h2 : ∀ s k, s < 4 → k < 40 → sw' s k = nu' (40 * s + k)) : Rel p0 p2 ke tb t1 sb ss sw' fd sr kS stt ik tp td bo so nu' := by
  obtain ⟨a, b, c, d, e, f, g, -⟩ := h
  exact ⟨a, b, c, d, e, f, g, h2⟩
theorem okR_rd {N k : Nat} {s : Nat → Int32} {v : Int32} (h : okR N s) (hk : k < 3) (hv : rg 0 (mostR (nI k)).toInt v = true) : okR N (upd s (2 + k) v) := by
  rcases (show k = 0 ∨ k = 1 ∨ k = 2 by omega) with rfl | rfl | rfl
  · obtain ⟨i, _, i2, e⟩ := rg_ix (a := 0) (b := 999999) (by decide) hv
    exact okR_up h (fun _ => ⟨i, i2, e⟩) (by omega) (by omega) (fun j hj => ⟨by omega, by omega, by omega⟩)
  · obtain ⟨i, _, i2, e⟩ := rg_ix (a := 0) (b := 20) (by decide) hv
    exact okR_up h (by omega) (fun _ => ⟨i, i2, e⟩) (by omega) (fun j hj => ⟨by omega, by omega, by omega⟩)
  · obtain ⟨i, _, i2, e⟩ := rg_ix (a := 0) (b := 1) (by decide) hv
    exact okR_up h (by omega) (by omega) (fun _ => ⟨i, i2, e⟩) (fun j hj => ⟨by omega, by omega, by omega⟩)
theorem okR_st {N i k : Nat} {s : Nat → Int32} {v : Int32} (h : okR N s) (h1 : 1 ≤ k) (h7 : k ≤ 7) (hv : rg 0 (mostF (nI k)).toInt v = true) : okR N (upd s (5 + 8 * i + k) v) := by
  rcases (show k = 1 ∨ k = 2 ∨ k = 3 ∨ k = 4 ∨ k = 5 ∨ k = 6 ∨ k = 7 by omega) with rfl | rfl | rfl | rfl | rfl | rfl | rfl
  · obtain ⟨n, _, n2, e⟩ := rg_ix (a := 0) (b := 12) (by decide) hv
    exact okR_up h (by omega) (by omega) (by omega) (fun j hj => ⟨fun _ => ⟨n, n2, e⟩, by omega, by omega⟩)
  · exact okR_up h (by omega) (by omega) (by omega) (fun j hj => ⟨by omega, by omega, by omega⟩)
  · exact okR_up h (by omega) (by omega) (by omega) (fun j hj => ⟨by omega, by omega, by omega⟩)
  · exact okR_up h (by omega) (by omega) (by omega) (fun j hj => ⟨by omega, by omega, by omega⟩)
  · obtain ⟨n, _, n2, e⟩ := rg_ix (a := 0) (b := 12) (by decide) hv
    exact okR_up h (by omega) (by omega) (by omega) (fun j hj => ⟨by omega, fun _ => ⟨n, n2, e⟩, by omega⟩)
  · exact okR_up h (by omega) (by omega) (by omega) (fun j hj => ⟨by omega, by omega, by omega⟩)
  · obtain ⟨n, _, n2, e⟩ := rg_ix (a := 0) (b := 1) (by decide) hv
    exact okR_up h (by omega) (by omega) (by omega) (fun j hj => ⟨by omega, by omega, fun _ => ⟨n, n2, e⟩⟩)
theorem stat_c {a b : Nat → Int32} {q : Int32} (h : ∀ k, k < 7 → a k = b k) : ∀ (n j : Nat) (acc : Int32), j + n ≤ 7 → statL a q n j acc = statL b q n j acc
  | 0, _, _, _ => rfl
  | n + 1, j, acc, hj => by
    unfold statL
    rw [h j (by omega)]
    exact stat_c h n (j + 1) _ (by omega)
theorem feed_f {b : Int32} : ∀ (n t : Nat) (tb : Nat → Int32), bu (feedC b n t tb) = feedL b n t (bu tb)
  | 0, _, _ => rfl
  | n + 1, t, tb => by
    show bu (feedC b n (t + 1) _) = feedL b n (t + 1) _
    rw [feed_f n (t + 1)]
    congr 1
    funext k
    unfold bu upd
    by_cases c : k = t
    · rw [if_pos c, if_pos c]
      exact b8_I _
    · rw [if_neg c, if_neg c]
theorem lays_r {N i : Nat} {nu : Nat → Int64} : ∀ (n k : Nat) (s : Nat → Int32) (c : Int32), okR N s → okR N (laysL nu i n k s c).1
  | 0, _, _, _, h => h
  | n + 1, k, s, c, h => lays_r n (k + 1) _ _ (okR_up h (by omega) (by omega) (by omega) (fun j hj => ⟨by omega, by omega, by omega⟩))
theorem lays_0 {i : Nat} {nu : Nat → Int64} : ∀ (n k : Nat) (s : Nat → Int32) (c : Int32), (laysL nu i n k s c).1 0 = s 0
  | 0, _, _, _ => rfl
  | n + 1, k, s, c => (lays_0 n (k + 1) _ _).trans (upd_0 (by omega))
theorem now_c {N : Nat} {a b : Nat → Int32} {q : Int32} (h : agr (5 + 8 * N) a b) : nowF a N q = nowF b N q := by
  unfold nowF
  rw [h (1 + 0) (by omega), h (1 + 1) (by omega), h (1 + 2) (by omega), h (1 + 3) (by omega), sum_c h (by decide) N 0 _ (by omega), with_c h (by decide) N 0 _ (by omega), with_c h (by decide) N 0 _ (by omega), sum_c h (by decide) N 0 _ (by omega)]
theorem count_c {N : Nat} {a b : Nat → Int32} {q t : Int32} (h : agr (5 + 8 * N) a b) : countF a N t q = countF b N t q := by
  unfold countF
  rw [sum_c h (by decide) N 0 _ (by omega), sum_c h (by decide) N 0 _ (by omega)]
end REL
