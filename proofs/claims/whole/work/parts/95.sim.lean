theorem neg_f : ∀ f, f < 121 → (-1 - nI f : Int32) < 0 := by decide
theorem rg_z {z : Nat} {o : Int32} (hz : z ≤ 40) (h : rg 0 (nI z - nI 1).toInt o = true) : ∃ j : Nat, j < z ∧ o = nI j := by
  have h := rg_iff.mp h
  rw [pk_sub_toInt (by omega) (by omega)] at h
  refine ⟨o.toInt.toNat, by omega, ?_⟩
  apply Int32.toInt_inj.mp
  rw [nI_toInt (by omega)]
  omega
section SIM
variable {p0 p2 : Nat → Int32} {ke : Int32} {tb : Nat → Int32} {t1 : Int32} {sb ss : Nat → Int32} {sw : Nat → Nat → Int64} {fd : Nat → Int32} {sr kS stt : Nat → Int32} {ik : Int32} {tp : Nat → Int32} {td : Int32} {bo so : Nat → Int32} {nu : Nat → Int64}
theorem sim_road {q : Int32} {v : Int32} (h : Rel p0 p2 ke tb t1 sb ss sw fd sr kS stt ik tp td bo so nu) {N : Nat} (h8 : N ≤ 8) (hN : p0 0 = nI N) (hA : agr (5 + 8 * N) p0 sr) (hR : okR N sr) : (some (Value.int (if rg 0 2 q ∧ rg 0 (mostR q).toInt v then p0 (2 + q.toNatClampNeg) else -1000000001))) = (some (Value.int (if rg 0 2 q ∧ rg 0 (roadM q).toInt v then sr (2 + q.toNatClampNeg) else -1000000001))) ∧ Rel (if rg 0 2 q ∧ rg 0 (mostR q).toInt v then upd p0 (2 + q.toNatClampNeg) v else p0) p2 ke tb t1 sb ss sw (if rg 0 2 q ∧ rg 0 (mostR q).toInt v then fd else fnd fd 0) (if rg 0 2 q ∧ rg 0 (roadM q).toInt v then upd sr (2 + q.toNatClampNeg) v else sr) kS (if rg 0 2 q ∧ rg 0 (roadM q).toInt v then stt else fnd stt 0) ik tp td bo so nu := by
  simp only [roadM_b]
  by_cases c : rg 0 2 q = true ∧ rg 0 (mostR q).toInt v = true
  · simp only [if_pos c]
    obtain ⟨k, k1, hk, rfl⟩ := rg_ix (a := 0) (b := 2) (by decide) c.1
    simp only [cl_nI (show k < 2 ^ 31 by omega)]
    exact ⟨rvI (hA (2 + k) (by omega)), h.row h8 ((upd_0 (by omega)).trans hN) (hA.up rfl) (okR_rd hR (by omega) c.2)⟩
  · simp only [if_neg c]
    exact ⟨by first | exact trivial | rfl, h.fi 0 (by decide)⟩
theorem sim_at {q : Int32} (h : Rel p0 p2 ke tb t1 sb ss sw fd sr kS stt ik tp td bo so nu) {N : Nat} (h8 : N ≤ 8) (hN : p0 0 = nI N) (hA : agr (5 + 8 * N) p0 sr) (hR : okR N sr) : (some (Value.int (if rg 0 12 q then thoseL p0 q N 0 (nI 0) else -1000000001))) = (some (Value.int (if rg 0 12 q then thoseL sr q N 0 (nI 0) else -1000000001))) ∧ Rel p0 p2 ke tb t1 sb ss sw (if rg 0 12 q then fd else fnd fd 0) sr kS (if rg 0 12 q then stt else fnd stt 0) ik tp td bo so nu := by
  by_cases c : rg 0 12 q = true
  · simp only [if_pos c]
    exact ⟨rvI (those_c hA q N 0 (nI 0) (by omega)), h⟩
  · simp only [if_neg c]
    exact ⟨by first | exact trivial | rfl, h.fi 0 (by decide)⟩
theorem sim_walker {q : Int32} {o : Int32} (h : Rel p0 p2 ke tb t1 sb ss sw fd sr kS stt ik tp td bo so nu) {N : Nat} (h8 : N ≤ 8) (hN : p0 0 = nI N) (hA : agr (5 + 8 * N) p0 sr) (hR : okR N sr) : (some (Value.int (if rg 0 5 q ∧ rg 0 12 o then (if N = 8 then -1000000002 else nI N) else -1000000001))) = (some (Value.int (if rg 0 5 q ∧ rg 0 12 o then (if N = 8 then -1000000002 else nI N) else -1000000001))) ∧ Rel (if rg 0 5 q ∧ rg 0 12 o then (if N = 8 then p0 else addF p0 N q o) else p0) p2 ke tb t1 sb ss sw (if rg 0 5 q ∧ rg 0 12 o then (if N = 8 then fnd fd 1 else fd) else fnd fd 0) (if rg 0 5 q ∧ rg 0 12 o then (if N = 8 then sr else addF sr N q o) else sr) kS (if rg 0 5 q ∧ rg 0 12 o then (if N = 8 then fnd stt 1 else stt) else fnd stt 0) ik tp td bo so nu := by
  by_cases c : rg 0 5 q = true ∧ rg 0 12 o = true
  · simp only [if_pos c]
    by_cases e : N = 8
    · simp only [if_pos e]
      exact ⟨by first | exact trivial | rfl, h.fi 1 (by decide)⟩
    · simp only [if_neg e]
      obtain ⟨j, _, hj, ej⟩ := rg_ix (a := 0) (b := 12) (by decide) c.2
      exact ⟨by first | exact trivial | rfl, h.row (N := N + 1) (by omega) (by unfold addF; exact upd_s) (add_c hA) (okR_add hR ⟨j, hj, ej⟩)⟩
  · simp only [if_neg c]
    exact ⟨by first | exact trivial | rfl, h.fi 0 (by decide)⟩
theorem sim_of {q : Int32} {o : Int32} (h : Rel p0 p2 ke tb t1 sb ss sw fd sr kS stt ik tp td bo so nu) {N : Nat} (h8 : N ≤ 8) (hN : p0 0 = nI N) (hA : agr (5 + 8 * N) p0 sr) (hR : okR N sr) : (some (Value.int (if isN N q ∧ rg 0 9 o then (if 7 < o.toNatClampNeg then (if o.toNatClampNeg = 8 then paceF p0 N q.toNatClampNeg else payF p0 q.toNatClampNeg) else p0 (5 + 8 * q.toNatClampNeg + o.toNatClampNeg)) else -1000000001))) = (some (Value.int (if isN N q ∧ rg 0 9 o then (if 7 < o.toNatClampNeg then (if o.toNatClampNeg = 8 then paceF sr N q.toNatClampNeg else payF sr q.toNatClampNeg) else sr (5 + 8 * q.toNatClampNeg + o.toNatClampNeg)) else -1000000001))) ∧ Rel p0 p2 ke tb t1 sb ss sw (if isN N q ∧ rg 0 9 o then fd else fnd fd 0) sr kS (if isN N q ∧ rg 0 9 o then stt else fnd stt 0) ik tp td bo so nu := by
  by_cases c : isN N q = true ∧ rg 0 9 o = true
  · simp only [if_pos c]
    obtain ⟨i, hi, rfl⟩ := isN_ix h8 c.1
    simp only [cl_nI (show i < 2 ^ 31 by omega)]
    obtain ⟨k, k1, hk, rfl⟩ := rg_ix (a := 0) (b := 9) (by decide) c.2
    simp only [cl_nI (show k < 2 ^ 31 by omega)]
    refine ⟨rvI ?_, h⟩
    by_cases d : 7 < k
    · by_cases e : k = 8
      · simp only [if_pos d, if_pos e]
        exact pace_c hA hi
      · simp only [if_pos d, if_neg e]
        exact pay_c hA hi
    · simp only [if_neg d]
      exact hA _ (by omega)
  · simp only [if_neg c]
    exact ⟨by first | exact trivial | rfl, h.fi 0 (by decide)⟩
theorem sim_set {q : Int32} {o : Int32} {v : Int32} (h : Rel p0 p2 ke tb t1 sb ss sw fd sr kS stt ik tp td bo so nu) {N : Nat} (h8 : N ≤ 8) (hN : p0 0 = nI N) (hA : agr (5 + 8 * N) p0 sr) (hR : okR N sr) : (some (Value.int (if isN N q ∧ rg 1 7 o ∧ rg 0 (mostF o).toInt v then p0 (5 + 8 * q.toNatClampNeg + o.toNatClampNeg) else -1000000001))) = (some (Value.int (if isN N q ∧ rg 1 7 o ∧ rg 0 ((mostF o).toInt64).toInt v then sr (5 + 8 * q.toNatClampNeg + o.toNatClampNeg) else -1000000001))) ∧ Rel (if isN N q ∧ rg 1 7 o ∧ rg 0 (mostF o).toInt v then upd p0 (5 + 8 * q.toNatClampNeg + o.toNatClampNeg) v else p0) p2 ke tb t1 sb ss sw (if isN N q ∧ rg 1 7 o ∧ rg 0 (mostF o).toInt v then fd else fnd fd 0) (if isN N q ∧ rg 1 7 o ∧ rg 0 ((mostF o).toInt64).toInt v then upd sr (5 + 8 * q.toNatClampNeg + o.toNatClampNeg) v else sr) kS (if isN N q ∧ rg 1 7 o ∧ rg 0 ((mostF o).toInt64).toInt v then stt else fnd stt 0) ik tp td bo so nu := by
  simp only [mostF_b]
  by_cases c : isN N q = true ∧ rg 1 7 o = true ∧ rg 0 (mostF o).toInt v = true
  · simp only [if_pos c]
    obtain ⟨i, hi, rfl⟩ := isN_ix h8 c.1
    simp only [cl_nI (show i < 2 ^ 31 by omega)]
    obtain ⟨k, k1, hk, rfl⟩ := rg_ix (a := 1) (b := 7) (by decide) c.2.1
    simp only [cl_nI (show k < 2 ^ 31 by omega)]
    exact ⟨rvI (hA _ (by omega)), h.row h8 ((upd_0 (by omega)).trans hN) (hA.up rfl) (okR_st hR k1 hk c.2.2)⟩
  · simp only [if_neg c]
    exact ⟨by first | exact trivial | rfl, h.fi 0 (by decide)⟩
theorem sim_turn {q : Int32} {o : Int32} (h : Rel p0 p2 ke tb t1 sb ss sw fd sr kS stt ik tp td bo so nu) {N : Nat} (h8 : N ≤ 8) (hN : p0 0 = nI N) (hA : agr (5 + 8 * N) p0 sr) (hR : okR N sr) : (some (Value.int (if isN N q ∧ rg 0 5 o then p0 (5 + 8 * q.toNatClampNeg + 0) else -1000000001))) = (some (Value.int (if isN N q ∧ rg 0 5 o then sr (5 + 8 * q.toNatClampNeg + 0) else -1000000001))) ∧ Rel (if isN N q ∧ rg 0 5 o then upd p0 (5 + 8 * q.toNatClampNeg + 0) o else p0) p2 ke tb t1 sb ss sw (if isN N q ∧ rg 0 5 o then fd else fnd fd 0) (if isN N q ∧ rg 0 5 o then upd sr (5 + 8 * q.toNatClampNeg + 0) o else sr) kS (if isN N q ∧ rg 0 5 o then stt else fnd stt 0) ik tp td bo so nu := by
  by_cases c : isN N q = true ∧ rg 0 5 o = true
  · simp only [if_pos c]
    obtain ⟨i, hi, rfl⟩ := isN_ix h8 c.1
    simp only [cl_nI (show i < 2 ^ 31 by omega)]
  
    exact ⟨rvI (hA _ (by omega)), h.row h8 ((upd_0 (by omega)).trans hN) (hA.up rfl) (okR_up hR (by omega) (by omega) (by omega) (fun j hj => ⟨by omega, by omega, by omega⟩))⟩
  · simp only [if_neg c]
    exact ⟨by first | exact trivial | rfl, h.fi 0 (by decide)⟩
theorem sim_as {q : Int32} {o : Int32} (h : Rel p0 p2 ke tb t1 sb ss sw fd sr kS stt ik tp td bo so nu) {N : Nat} (h8 : N ≤ 8) (hN : p0 0 = nI N) (hA : agr (5 + 8 * N) p0 sr) (hR : okR N sr) : (some (Value.int (if isN N q ∧ rg 0 5 o then (if undP (p0 (5 + 8 * q.toNatClampNeg + 0)) o then p0 (5 + 8 * q.toNatClampNeg + 3) else -1000000003) else -1000000001))) = (some (Value.int (if isN N q ∧ rg 0 5 o then (if undP (sr (5 + 8 * q.toNatClampNeg + 0)) o then sr (5 + 8 * q.toNatClampNeg + 3) else -1000000003) else -1000000001))) ∧ Rel p0 p2 ke tb t1 sb ss sw (if isN N q ∧ rg 0 5 o then (if undP (p0 (5 + 8 * q.toNatClampNeg + 0)) o then fd else fnd fd 2) else fnd fd 0) sr kS (if isN N q ∧ rg 0 5 o then (if undP (sr (5 + 8 * q.toNatClampNeg + 0)) o then stt else fnd stt 2) else fnd stt 0) ik tp td bo so nu := by
  by_cases c : isN N q = true ∧ rg 0 5 o = true
  · simp only [if_pos c]
    obtain ⟨i, hi, rfl⟩ := isN_ix h8 c.1
    simp only [cl_nI (show i < 2 ^ 31 by omega)]
  
    simp only [hA (5 + 8 * i + 0) (show 5 + 8 * i + 0 < 5 + 8 * N by omega), hA (5 + 8 * i + 3) (show 5 + 8 * i + 3 < 5 + 8 * N by omega)]
    by_cases d : undP (sr (5 + 8 * i + 0)) o = true
    · simp only [if_pos d]
      exact ⟨by first | exact trivial | rfl, h⟩
    · simp only [if_neg d]
      exact ⟨by first | exact trivial | rfl, h.fi 2 (by decide)⟩
  · simp only [if_neg c]
    exact ⟨by first | exact trivial | rfl, h.fi 0 (by decide)⟩
theorem sim_hours {q : Int32} (h : Rel p0 p2 ke tb t1 sb ss sw fd sr kS stt ik tp td bo so nu) {N : Nat} (h8 : N ≤ 8) (hN : p0 0 = nI N) (hA : agr (5 + 8 * N) p0 sr) (hR : okR N sr) : (some (Value.int (if rg 1 200 q then (if p0 1 + q ≤ nI 99999 then hrsF N q.toNatClampNeg p0 2 else -1000000005) else -1000000001))) = (some (Value.int (if rg 1 200 q then (if sr 1 + q ≤ nI 99999 then hrsF N q.toNatClampNeg sr 2 else -1000000005) else -1000000001))) ∧ Rel (if rg 1 200 q then (if p0 1 + q ≤ nI 99999 then hrsF N q.toNatClampNeg p0 else p0) else p0) p2 ke tb t1 sb ss sw (if rg 1 200 q then (if p0 1 + q ≤ nI 99999 then fd else fnd fd 4) else fnd fd 0) (if rg 1 200 q then (if sr 1 + q ≤ nI 99999 then hrsF N q.toNatClampNeg sr else sr) else sr) kS (if rg 1 200 q then (if sr 1 + q ≤ nI 99999 then stt else fnd stt 4) else fnd stt 0) ik tp td bo so nu := by
  by_cases c : rg 1 200 q = true
  · simp only [if_pos c]
    obtain ⟨k, k1, hk, rfl⟩ := rg_ix (a := 1) (b := 200) (by decide) c
    simp only [cl_nI (show k < 2 ^ 31 by omega)]
    simp only [hA 1 (show 1 < 5 + 8 * N by omega)]
    by_cases d : sr 1 + nI k ≤ nI 99999
    · simp only [if_pos d]
      exact ⟨rvI (hrs_c k _ _ hA 2 (by omega)), h.row h8 ((hrsF_0 _ _).trans hN) (hrs_c k _ _ hA) (hrs_r k _ hR)⟩
    · simp only [if_neg d]
      exact ⟨by first | exact trivial | rfl, h.fi 4 (by decide)⟩
  · simp only [if_neg c]
    exact ⟨by first | exact trivial | rfl, h.fi 0 (by decide)⟩
theorem sim_now {q : Int32} (h : Rel p0 p2 ke tb t1 sb ss sw fd sr kS stt ik tp td bo so nu) {N : Nat} (h8 : N ≤ 8) (hN : p0 0 = nI N) (hA : agr (5 + 8 * N) p0 sr) (hR : okR N sr) : (some (Value.int (nowF p0 N q))) = (some (Value.int (nowF sr N q))) ∧ Rel p0 p2 ke tb t1 sb ss sw (if rg 0 7 q then fd else fnd fd 0) sr kS (if rg 0 7 q then stt else fnd stt 0) ik tp td bo so nu := by
  by_cases c : rg 0 7 q = true
  · simp only [if_pos c]
    exact ⟨rvI (now_c hA), h⟩
  · simp only [if_neg c]
    exact ⟨rvI (now_c hA), h.fi 0 (by decide)⟩
theorem sim_on {q : Int32} {n : Int32} {o : Int32} (h : Rel p0 p2 ke tb t1 sb ss sw fd sr kS stt ik tp td bo so nu) {N : Nat} (h8 : N ≤ 8) (hN : p0 0 = nI N) (hA : agr (5 + 8 * N) p0 sr) (hR : okR N sr) : (some (Value.int (if isN N q ∧ rg 0 200 n ∧ rg 0 2 o then hrsF N n.toNatClampNeg p0 (5 + 8 * q.toNatClampNeg + (if o = 0 then 1 else if o = nI 1 then 6 else 3)) else -1000000001))) = (some (Value.int (if isN N q ∧ rg 0 200 n ∧ rg 0 2 o then hrsF N n.toNatClampNeg sr (5 + 8 * q.toNatClampNeg + (if o = 0 then 1 else if o = nI 1 then 6 else 3)) else -1000000001))) ∧ Rel p0 p2 ke tb t1 sb ss sw (if isN N q ∧ rg 0 200 n ∧ rg 0 2 o then fd else fnd fd 0) sr kS (if isN N q ∧ rg 0 200 n ∧ rg 0 2 o then stt else fnd stt 0) ik tp td bo so nu := by
  by_cases c : isN N q = true ∧ rg 0 200 n = true ∧ rg 0 2 o = true
  · simp only [if_pos c]
    obtain ⟨i, hi, rfl⟩ := isN_ix h8 c.1
    simp only [cl_nI (show i < 2 ^ 31 by omega)]
    obtain ⟨k, k1, hk, rfl⟩ := rg_ix (a := 0) (b := 200) (by decide) c.2.1
    simp only [cl_nI (show k < 2 ^ 31 by omega)]
    exact ⟨rvI (hrs_c k _ _ hA _ (by split <;> (try split) <;> omega)), h⟩
  · simp only [if_neg c]
    exact ⟨by first | exact trivial | rfl, h.fi 0 (by decide)⟩
theorem sim_fund {q : Int32} (h : Rel p0 p2 ke tb t1 sb ss sw fd sr kS stt ik tp td bo so nu) {N : Nat} (h8 : N ≤ 8) (hN : p0 0 = nI N) (hA : agr (5 + 8 * N) p0 sr) (hR : okR N sr) : (some (Value.int (if rg 0 200 q then hrsF N q.toNatClampNeg p0 2 else -1000000001))) = (some (Value.int (if rg 0 200 q then hrsF N q.toNatClampNeg sr 2 else -1000000001))) ∧ Rel p0 p2 ke tb t1 sb ss sw (if rg 0 200 q then fd else fnd fd 0) sr kS (if rg 0 200 q then stt else fnd stt 0) ik tp td bo so nu := by
  by_cases c : rg 0 200 q = true
  · simp only [if_pos c]
    obtain ⟨k, k1, hk, rfl⟩ := rg_ix (a := 0) (b := 200) (by decide) c
    simp only [cl_nI (show k < 2 ^ 31 by omega)]
    exact ⟨rvI (hrs_c k _ _ hA 2 (by omega)), h⟩
  · simp only [if_neg c]
    exact ⟨by first | exact trivial | rfl, h.fi 0 (by decide)⟩
theorem sim_empty (h : Rel p0 p2 ke tb t1 sb ss sw fd sr kS stt ik tp td bo so nu) {N : Nat} (h8 : N ≤ 8) (hN : p0 0 = nI N) (hA : agr (5 + 8 * N) p0 sr) (hR : okR N sr) : (some (Value.int (if firstL N 2 (nI 0) 201 0 p0 ≤ 200 then nI (firstL N 2 (nI 0) 201 0 p0) else -1000000004))) = (some (Value.int (if firstL N 2 (nI 0) 201 0 sr ≤ 200 then nI (firstL N 2 (nI 0) 201 0 sr) else -1000000004))) ∧ Rel p0 p2 ke tb t1 sb ss sw (if firstL N 2 (nI 0) 201 0 p0 ≤ 200 then fd else fnd fd 3) sr kS (if firstL N 2 (nI 0) 201 0 sr ≤ 200 then stt else fnd stt 3) ik tp td bo so nu := by
  rw [first_c (show 2 < 5 + 8 * N by omega) 201 0 p0 sr hA]
  by_cases d : firstL N 2 (nI 0) 201 0 sr ≤ 200
  · simp only [if_pos d]
    exact ⟨by first | exact trivial | rfl, h⟩
  · simp only [if_neg d]
    exact ⟨by first | exact trivial | rfl, h.fi 3 (by decide)⟩
theorem sim_comes {q : Int32} {o : Int32} (h : Rel p0 p2 ke tb t1 sb ss sw fd sr kS stt ik tp td bo so nu) {N : Nat} (h8 : N ≤ 8) (hN : p0 0 = nI N) (hA : agr (5 + 8 * N) p0 sr) (hR : okR N sr) : (some (Value.int (if isN N q ∧ rg 0 12 o then (if firstL N (5 + 8 * q.toNatClampNeg + 1) o 201 0 p0 ≤ 200 then nI (firstL N (5 + 8 * q.toNatClampNeg + 1) o 201 0 p0) else -1000000004) else -1000000001))) = (some (Value.int (if isN N q ∧ rg 0 12 o then (if firstL N (5 + 8 * q.toNatClampNeg + 1) o 201 0 sr ≤ 200 then nI (firstL N (5 + 8 * q.toNatClampNeg + 1) o 201 0 sr) else -1000000004) else -1000000001))) ∧ Rel p0 p2 ke tb t1 sb ss sw (if isN N q ∧ rg 0 12 o then (if firstL N (5 + 8 * q.toNatClampNeg + 1) o 201 0 p0 ≤ 200 then fd else fnd fd 3) else fnd fd 0) sr kS (if isN N q ∧ rg 0 12 o then (if firstL N (5 + 8 * q.toNatClampNeg + 1) o 201 0 sr ≤ 200 then stt else fnd stt 3) else fnd stt 0) ik tp td bo so nu := by
  by_cases c : isN N q = true ∧ rg 0 12 o = true
  · simp only [if_pos c]
    obtain ⟨i, hi, rfl⟩ := isN_ix h8 c.1
    simp only [cl_nI (show i < 2 ^ 31 by omega)]
  
    rw [first_c (show 5 + 8 * i + 1 < 5 + 8 * N by omega) 201 0 p0 sr hA]
    by_cases d : firstL N (5 + 8 * i + 1) o 201 0 sr ≤ 200
    · simp only [if_pos d]
      exact ⟨by first | exact trivial | rfl, h⟩
    · simp only [if_neg d]
      exact ⟨by first | exact trivial | rfl, h.fi 3 (by decide)⟩
  · simp only [if_neg c]
    exact ⟨by first | exact trivial | rfl, h.fi 0 (by decide)⟩
theorem sim_meet {q : Int32} {o : Int32} (h : Rel p0 p2 ke tb t1 sb ss sw fd sr kS stt ik tp td bo so nu) {N : Nat} (h8 : N ≤ 8) (hN : p0 0 = nI N) (hA : agr (5 + 8 * N) p0 sr) (hR : okR N sr) : (some (Value.int (if twoP N q o then (if meetL N q.toNatClampNeg o.toNatClampNeg 201 0 p0 ≤ 200 then nI (meetL N q.toNatClampNeg o.toNatClampNeg 201 0 p0) else -1000000004) else -1000000001))) = (some (Value.int (if twoP N q o then (if meetL N q.toNatClampNeg o.toNatClampNeg 201 0 sr ≤ 200 then nI (meetL N q.toNatClampNeg o.toNatClampNeg 201 0 sr) else -1000000004) else -1000000001))) ∧ Rel p0 p2 ke tb t1 sb ss sw (if twoP N q o then (if meetL N q.toNatClampNeg o.toNatClampNeg 201 0 p0 ≤ 200 then fd else fnd fd 3) else fnd fd 0) sr kS (if twoP N q o then (if meetL N q.toNatClampNeg o.toNatClampNeg 201 0 sr ≤ 200 then stt else fnd stt 3) else fnd stt 0) ik tp td bo so nu := by
  by_cases c : twoP N q o = true
  · simp only [if_pos c]
    obtain ⟨c1, c2, -⟩ := twoP_sp c
    obtain ⟨i, hi, rfl⟩ := isN_ix h8 c1
    simp only [cl_nI (show i < 2 ^ 31 by omega)]
    obtain ⟨j, hj, rfl⟩ := isN_ix h8 c2
    simp only [cl_nI (show j < 2 ^ 31 by omega)]
  
    rw [meet_c hi hj 201 0 p0 sr hA]
    by_cases d : meetL N i j 201 0 sr ≤ 200
    · simp only [if_pos d]
      exact ⟨by first | exact trivial | rfl, h⟩
    · simp only [if_neg d]
      exact ⟨by first | exact trivial | rfl, h.fi 3 (by decide)⟩
  · simp only [if_neg c]
    exact ⟨by first | exact trivial | rfl, h.fi 0 (by decide)⟩
theorem sim_worn {q : Int32} (h : Rel p0 p2 ke tb t1 sb ss sw fd sr kS stt ik tp td bo so nu) {N : Nat} (h8 : N ≤ 8) (hN : p0 0 = nI N) (hA : agr (5 + 8 * N) p0 sr) (hR : okR N sr) : (some (Value.int (if isN N q then (if firstL N (5 + 8 * q.toNatClampNeg + 3) (nI 0) 201 0 p0 ≤ 200 then nI (firstL N (5 + 8 * q.toNatClampNeg + 3) (nI 0) 201 0 p0) else -1000000004) else -1000000001))) = (some (Value.int (if isN N q then (if firstL N (5 + 8 * q.toNatClampNeg + 3) (nI 0) 201 0 sr ≤ 200 then nI (firstL N (5 + 8 * q.toNatClampNeg + 3) (nI 0) 201 0 sr) else -1000000004) else -1000000001))) ∧ Rel p0 p2 ke tb t1 sb ss sw (if isN N q then (if firstL N (5 + 8 * q.toNatClampNeg + 3) (nI 0) 201 0 p0 ≤ 200 then fd else fnd fd 3) else fnd fd 0) sr kS (if isN N q then (if firstL N (5 + 8 * q.toNatClampNeg + 3) (nI 0) 201 0 sr ≤ 200 then stt else fnd stt 3) else fnd stt 0) ik tp td bo so nu := by
  by_cases c : isN N q = true
  · simp only [if_pos c]
    obtain ⟨i, hi, rfl⟩ := isN_ix h8 c
    simp only [cl_nI (show i < 2 ^ 31 by omega)]
  
    rw [first_c (show 5 + 8 * i + 3 < 5 + 8 * N by omega) 201 0 p0 sr hA]
    by_cases d : firstL N (5 + 8 * i + 3) (nI 0) 201 0 sr ≤ 200
    · simp only [if_pos d]
      exact ⟨by first | exact trivial | rfl, h⟩
    · simp only [if_neg d]
      exact ⟨by first | exact trivial | rfl, h.fi 3 (by decide)⟩
  · simp only [if_neg c]
    exact ⟨by first | exact trivial | rfl, h.fi 0 (by decide)⟩
theorem sim_stop {q : Int32} (h : Rel p0 p2 ke tb t1 sb ss sw fd sr kS stt ik tp td bo so nu) {N : Nat} (h8 : N ≤ 8) (hN : p0 0 = nI N) (hA : agr (5 + 8 * N) p0 sr) (hR : okR N sr) : (some (Value.int (if rg 1 60 q then (sO N q.toNatClampNeg p0 (withL p0 7 N 0 (nI 0)) (2 ^ N) (N + 1) 0).elim (-1000000004) nI else -1000000001))) = (some (Value.int (if rg 1 60 q then (if 0 ≤ pm (stopF N q.toNatClampNeg sr (mayX sr N) ((mayX sr N).toNatClampNeg + 1) 0 0) then pm (stopF N q.toNatClampNeg sr (mayX sr N) ((mayX sr N).toNatClampNeg + 1) 0 0) else -1000000004) else -1000000001))) ∧ Rel p0 p2 ke tb t1 sb ss sw (if rg 1 60 q then (sO N q.toNatClampNeg p0 (withL p0 7 N 0 (nI 0)) (2 ^ N) (N + 1) 0).elim (fnd fd 3) (fun _ => fd) else fnd fd 0) sr kS (if rg 1 60 q then (if 0 ≤ pm (stopF N q.toNatClampNeg sr (mayX sr N) ((mayX sr N).toNatClampNeg + 1) 0 0) then stt else fnd stt 3) else fnd stt 0) ik tp td bo so nu := by
  by_cases c : rg 1 60 q = true
  · simp only [if_pos c]
    obtain ⟨k, k1, hk, rfl⟩ := rg_ix (a := 1) (b := 60) (by decide) c
    simp only [cl_nI (show k < 2 ^ 31 by omega)]
    obtain ⟨e, hb⟩ := stop_b (h := k) h8 hA hR
    generalize stopF N k sr (mayX sr N) ((mayX sr N).toNatClampNeg + 1) 0 0 = b at e
    rw [← e] at hb ⊢
    cases b with
    | zero =>
      have e0 : ¬ (0 : Int32) ≤ pm 0 := by decide
      simp only [if_neg e0]
      exact ⟨by first | exact trivial | rfl, h.fi 3 (by decide)⟩
    | succ b =>
      have hb2 := hb b rfl
      have e0 : (0 : Int32) ≤ pm (b + 1) := pos_le (by omega)
      simp only [if_pos e0]
      exact ⟨by first | exact trivial | rfl, h⟩
  · simp only [if_neg c]
    exact ⟨by first | exact trivial | rfl, h.fi 0 (by decide)⟩
theorem sim_penny {q : Int32} {v : Int32} (h : Rel p0 p2 ke tb t1 sb ss sw fd sr kS stt ik tp td bo so nu) {N : Nat} (h8 : N ≤ 8) (hN : p0 0 = nI N) (hA : agr (5 + 8 * N) p0 sr) (hR : okR N sr) : (some (Value.int (if rg 1 100 q ∧ rg 0 999999 v then (if 0 ≤ pennyL N q.toNatClampNeg v p0 21 then pennyL N q.toNatClampNeg v p0 21 else -1000000004) else -1000000001))) = (some (Value.int (if rg 1 100 q ∧ rg 0 999999 v then (if 0 ≤ pennyL N q.toNatClampNeg v sr 21 then pennyL N q.toNatClampNeg v sr 21 else -1000000004) else -1000000001))) ∧ Rel p0 p2 ke tb t1 sb ss sw (if rg 1 100 q ∧ rg 0 999999 v then (if 0 ≤ pennyL N q.toNatClampNeg v p0 21 then fd else fnd fd 3) else fnd fd 0) sr kS (if rg 1 100 q ∧ rg 0 999999 v then (if 0 ≤ pennyL N q.toNatClampNeg v sr 21 then stt else fnd stt 3) else fnd stt 0) ik tp td bo so nu := by
  by_cases c : rg 1 100 q = true ∧ rg 0 999999 v = true
  · simp only [if_pos c]
    obtain ⟨k, k1, hk, rfl⟩ := rg_ix (a := 1) (b := 100) (by decide) c.1
    simp only [cl_nI (show k < 2 ^ 31 by omega)]
    rw [penny_c (q := k) (v := v) hA 21]
    by_cases d : 0 ≤ pennyL N k v sr 21
    · simp only [if_pos d]
      exact ⟨by first | exact trivial | rfl, h⟩
    · simp only [if_neg d]
      exact ⟨by first | exact trivial | rfl, h.fi 3 (by decide)⟩
  · simp only [if_neg c]
    exact ⟨by first | exact trivial | rfl, h.fi 0 (by decide)⟩
theorem sim_reason {q : Int32} {n : Int32} {v : Int32} (h : Rel p0 p2 ke tb t1 sb ss sw fd sr kS stt ik tp td bo so nu) {N : Nat} (h8 : N ≤ 8) (hN : p0 0 = nI N) (hA : agr (5 + 8 * N) p0 sr) (hR : okR N sr) : (some (Value.int (if isN N q ∧ rg 1 100 n ∧ rg 0 999999 v then (if 0 ≤ reasonL N q.toNatClampNeg n.toNatClampNeg v p0 10 0 then reasonL N q.toNatClampNeg n.toNatClampNeg v p0 10 0 else -1000000004) else -1000000001))) = (some (Value.int (if isN N q ∧ rg 1 100 n ∧ rg 0 999999 v then (if 0 ≤ reasonL N q.toNatClampNeg n.toNatClampNeg v sr 10 0 then reasonL N q.toNatClampNeg n.toNatClampNeg v sr 10 0 else -1000000004) else -1000000001))) ∧ Rel p0 p2 ke tb t1 sb ss sw (if isN N q ∧ rg 1 100 n ∧ rg 0 999999 v then (if 0 ≤ reasonL N q.toNatClampNeg n.toNatClampNeg v p0 10 0 then fd else fnd fd 3) else fnd fd 0) sr kS (if isN N q ∧ rg 1 100 n ∧ rg 0 999999 v then (if 0 ≤ reasonL N q.toNatClampNeg n.toNatClampNeg v sr 10 0 then stt else fnd stt 3) else fnd stt 0) ik tp td bo so nu := by
  by_cases c : isN N q = true ∧ rg 1 100 n = true ∧ rg 0 999999 v = true
  · simp only [if_pos c]
    obtain ⟨i, hi, rfl⟩ := isN_ix h8 c.1
    simp only [cl_nI (show i < 2 ^ 31 by omega)]
    obtain ⟨k, k1, hk, rfl⟩ := rg_ix (a := 1) (b := 100) (by decide) c.2.1
    simp only [cl_nI (show k < 2 ^ 31 by omega)]
    rw [reason_c (q := k) (v := v) hA hi 10 0]
    by_cases d : 0 ≤ reasonL N i k v sr 10 0
    · simp only [if_pos d]
      exact ⟨by first | exact trivial | rfl, h⟩
    · simp only [if_neg d]
      exact ⟨by first | exact trivial | rfl, h.fi 3 (by decide)⟩
  · simp only [if_neg c]
    exact ⟨by first | exact trivial | rfl, h.fi 0 (by decide)⟩
theorem sim_kind {q : Int32} {n : Int32} (h : Rel p0 p2 ke tb t1 sb ss sw fd sr kS stt ik tp td bo so nu) {N : Nat} (h8 : N ≤ 8) (hN : p0 0 = nI N) (hA : agr (5 + 8 * N) p0 sr) (hR : okR N sr) : (some (Value.int (if isN N q ∧ rg 1 100 n then mostL N (5 + 8 * q.toNatClampNeg + 0) q.toNatClampNeg n.toNatClampNeg p0 (5 + 1) 0 (nI 0) (-1) else -1000000001))) = (some (Value.int (if isN N q ∧ rg 1 100 n then mostL N (5 + 8 * q.toNatClampNeg + 0) q.toNatClampNeg n.toNatClampNeg sr (5 + 1) 0 (nI 0) (-1) else -1000000001))) ∧ Rel p0 p2 ke tb t1 sb ss sw (if isN N q ∧ rg 1 100 n then fd else fnd fd 0) sr kS (if isN N q ∧ rg 1 100 n then stt else fnd stt 0) ik tp td bo so nu := by
  by_cases c : isN N q = true ∧ rg 1 100 n = true
  · simp only [if_pos c]
    obtain ⟨i, hi, rfl⟩ := isN_ix h8 c.1
    simp only [cl_nI (show i < 2 ^ 31 by omega)]
    obtain ⟨k, k1, hk, rfl⟩ := rg_ix (a := 1) (b := 100) (by decide) c.2
    simp only [cl_nI (show k < 2 ^ 31 by omega)]
    exact ⟨rvI (most_c hA hi _ _ _ _), h⟩
  · simp only [if_neg c]
    exact ⟨by first | exact trivial | rfl, h.fi 0 (by decide)⟩
theorem sim_begin {q : Int32} {n : Int32} (h : Rel p0 p2 ke tb t1 sb ss sw fd sr kS stt ik tp td bo so nu) {N : Nat} (h8 : N ≤ 8) (hN : p0 0 = nI N) (hA : agr (5 + 8 * N) p0 sr) (hR : okR N sr) : (some (Value.int (if isN N q ∧ rg 1 100 n then mostL N (5 + 8 * q.toNatClampNeg + 1) q.toNatClampNeg n.toNatClampNeg (upd p0 (5 + 8 * q.toNatClampNeg + 5) (nI 0)) (12 + 1) 0 (nI 0) (-1) else -1000000001))) = (some (Value.int (if isN N q ∧ rg 1 100 n then mostL N (5 + 8 * q.toNatClampNeg + 1) q.toNatClampNeg n.toNatClampNeg (upd sr (5 + 8 * q.toNatClampNeg + 5) (nI 0)) (12 + 1) 0 (nI 0) (-1) else -1000000001))) ∧ Rel p0 p2 ke tb t1 sb ss sw (if isN N q ∧ rg 1 100 n then fd else fnd fd 0) sr kS (if isN N q ∧ rg 1 100 n then stt else fnd stt 0) ik tp td bo so nu := by
  by_cases c : isN N q = true ∧ rg 1 100 n = true
  · simp only [if_pos c]
    obtain ⟨i, hi, rfl⟩ := isN_ix h8 c.1
    simp only [cl_nI (show i < 2 ^ 31 by omega)]
    obtain ⟨k, k1, hk, rfl⟩ := rg_ix (a := 1) (b := 100) (by decide) c.2
    simp only [cl_nI (show k < 2 ^ 31 by omega)]
    exact ⟨rvI (most_c (hA.up rfl) hi _ _ _ _), h⟩
  · simp only [if_neg c]
    exact ⟨by first | exact trivial | rfl, h.fi 0 (by decide)⟩
theorem sim_richest {q : Int32} (h : Rel p0 p2 ke tb t1 sb ss sw fd sr kS stt ik tp td bo so nu) {N : Nat} (h8 : N ≤ 8) (hN : p0 0 = nI N) (hA : agr (5 + 8 * N) p0 sr) (hR : okR N sr) : (some (Value.int (if rg 0 200 q then (if 0 ≤ pm (richL (hrsF N q.toNatClampNeg p0) N 0 0) then pm (richL (hrsF N q.toNatClampNeg p0) N 0 0) else -1000000004) else -1000000001))) = (some (Value.int (if rg 0 200 q then (if 0 ≤ pm (richL (hrsF N q.toNatClampNeg sr) N 0 0) then pm (richL (hrsF N q.toNatClampNeg sr) N 0 0) else -1000000004) else -1000000001))) ∧ Rel p0 p2 ke tb t1 sb ss sw (if rg 0 200 q then (if 0 ≤ pm (richL (hrsF N q.toNatClampNeg p0) N 0 0) then fd else fnd fd 3) else fnd fd 0) sr kS (if rg 0 200 q then (if 0 ≤ pm (richL (hrsF N q.toNatClampNeg sr) N 0 0) then stt else fnd stt 3) else fnd stt 0) ik tp td bo so nu := by
  by_cases c : rg 0 200 q = true
  · simp only [if_pos c]
    obtain ⟨k, k1, hk, rfl⟩ := rg_ix (a := 0) (b := 200) (by decide) c
    simp only [cl_nI (show k < 2 ^ 31 by omega)]
    rw [rich_c (hrs_c k _ _ hA) N 0 0 (by omega) (by omega)]
    by_cases d : 0 ≤ pm (richL (hrsF N k sr) N 0 0)
    · simp only [if_pos d]
      exact ⟨by first | exact trivial | rfl, h⟩
    · simp only [if_neg d]
      exact ⟨by first | exact trivial | rfl, h.fi 3 (by decide)⟩
  · simp only [if_neg c]
    exact ⟨by first | exact trivial | rfl, h.fi 0 (by decide)⟩
theorem sim_rival {q : Int32} {o : Int32} {n : Int32} (h : Rel p0 p2 ke tb t1 sb ss sw fd sr kS stt ik tp td bo so nu) {N : Nat} (h8 : N ≤ 8) (hN : p0 0 = nI N) (hA : agr (5 + 8 * N) p0 sr) (hR : okR N sr) : (some (Value.int (if twoP N q o ∧ rg 1 100 n then hrsF N n.toNatClampNeg (upd p0 (5 + 8 * o.toNatClampNeg + 7) (nI 1)) (5 + 8 * q.toNatClampNeg + 6) - hrsF N n.toNatClampNeg p0 (5 + 8 * q.toNatClampNeg + 6) else -1000000001))) = (some (Value.int (if twoP N q o ∧ rg 1 100 n then hrsF N n.toNatClampNeg (upd sr (5 + 8 * o.toNatClampNeg + 7) (nI 1)) (5 + 8 * q.toNatClampNeg + 6) - hrsF N n.toNatClampNeg sr (5 + 8 * q.toNatClampNeg + 6) else -1000000001))) ∧ Rel p0 p2 ke tb t1 sb ss sw (if twoP N q o ∧ rg 1 100 n then fd else fnd fd 0) sr kS (if twoP N q o ∧ rg 1 100 n then stt else fnd stt 0) ik tp td bo so nu := by
  by_cases c : twoP N q o = true ∧ rg 1 100 n = true
  · simp only [if_pos c]
    obtain ⟨c1, c2, -⟩ := twoP_sp c.1
    obtain ⟨i, hi, rfl⟩ := isN_ix h8 c1
    simp only [cl_nI (show i < 2 ^ 31 by omega)]
    obtain ⟨j, hj, rfl⟩ := isN_ix h8 c2
    simp only [cl_nI (show j < 2 ^ 31 by omega)]
    obtain ⟨k, k1, hk, rfl⟩ := rg_ix (a := 1) (b := 100) (by decide) c.2
    simp only [cl_nI (show k < 2 ^ 31 by omega)]
    rw [hrs_c k _ _ (hA.up (k := 5 + 8 * j + 7) (rfl : nI 1 = nI 1)) (5 + 8 * i + 6) (by omega), hrs_c k _ _ hA (5 + 8 * i + 6) (by omega)]
    exact ⟨by first | exact trivial | rfl, h⟩
  · simp only [if_neg c]
    exact ⟨by first | exact trivial | rfl, h.fi 0 (by decide)⟩
theorem sim_enough {q : Int32} (h : Rel p0 p2 ke tb t1 sb ss sw fd sr kS stt ik tp td bo so nu) {N : Nat} (h8 : N ≤ 8) (hN : p0 0 = nI N) (hA : agr (5 + 8 * N) p0 sr) (hR : okR N sr) : (some (Value.int (if rg 1 60 q then (if nI 999999 - hrsF N q.toNatClampNeg (upd p0 2 (nI 999999)) 2 + nI 1 ≤ nI 999 then nI 999999 - hrsF N q.toNatClampNeg (upd p0 2 (nI 999999)) 2 + nI 1 else -1000000004) else -1000000001))) = (some (Value.int (if rg 1 60 q then (if nI 999999 - hrsF N q.toNatClampNeg (upd sr 2 (nI 999999)) 2 + nI 1 ≤ nI 999 then nI 999999 - hrsF N q.toNatClampNeg (upd sr 2 (nI 999999)) 2 + nI 1 else -1000000004) else -1000000001))) ∧ Rel p0 p2 ke tb t1 sb ss sw (if rg 1 60 q then (if nI 999999 - hrsF N q.toNatClampNeg (upd p0 2 (nI 999999)) 2 + nI 1 ≤ nI 999 then fd else fnd fd 3) else fnd fd 0) sr kS (if rg 1 60 q then (if nI 999999 - hrsF N q.toNatClampNeg (upd sr 2 (nI 999999)) 2 + nI 1 ≤ nI 999 then stt else fnd stt 3) else fnd stt 0) ik tp td bo so nu := by
  by_cases c : rg 1 60 q = true
  · simp only [if_pos c]
    obtain ⟨k, k1, hk, rfl⟩ := rg_ix (a := 1) (b := 60) (by decide) c
    simp only [cl_nI (show k < 2 ^ 31 by omega)]
    rw [hrs_c k _ _ (hA.up (k := 2) (rfl : nI 999999 = nI 999999)) 2 (by omega)]
    by_cases d : nI 999999 - hrsF N k (upd sr 2 (nI 999999)) 2 + nI 1 ≤ nI 999
    · simp only [if_pos d]
      exact ⟨by first | exact trivial | rfl, h⟩
    · simp only [if_neg d]
      exact ⟨by first | exact trivial | rfl, h.fi 3 (by decide)⟩
  · simp only [if_neg c]
    exact ⟨by first | exact trivial | rfl, h.fi 0 (by decide)⟩
theorem sim_feed {q : Int32} {o : Int32} {T : Nat} (hT2 : T ≤ 120) (h : Rel p0 p2 ke tb (nI T) sb ss sw fd sr kS stt ik tp (nI T) bo so nu) {N : Nat} (h8 : N ≤ 8) (hN : p0 0 = nI N) (hA : agr (5 + 8 * N) p0 sr) (hR : okR N sr) : (some (Value.int (if rg 1 4 o then (if T + o.toNatClampNeg ≤ 120 then nI (T + o.toNatClampNeg) else -1000000002) else -1000000001))) = (some (Value.int (if rg 1 4 o then (if T + o.toNatClampNeg ≤ 120 then nI (T + o.toNatClampNeg) else -1000000002) else -1000000001))) ∧ Rel p0 p2 ke (if rg 1 4 o then (if T + o.toNatClampNeg ≤ 120 then feedC q o.toNatClampNeg T tb else tb) else tb) (if rg 1 4 o then (if T + o.toNatClampNeg ≤ 120 then nI (T + o.toNatClampNeg) else nI T) else nI T) sb ss sw (if rg 1 4 o then (if T + o.toNatClampNeg ≤ 120 then fd else fnd fd 1) else fnd fd 0) sr kS (if rg 1 4 o then (if T + o.toNatClampNeg ≤ 120 then stt else fnd stt 1) else fnd stt 0) ik (if rg 1 4 o then (if T + o.toNatClampNeg ≤ 120 then feedL q o.toNatClampNeg T tp else tp) else tp) (if rg 1 4 o then (if T + o.toNatClampNeg ≤ 120 then nI (T + o.toNatClampNeg) else (nI T)) else (nI T)) bo so nu := by
  by_cases c : rg 1 4 o = true
  · simp only [if_pos c]
    obtain ⟨k, k1, hk, rfl⟩ := rg_ix (a := 1) (b := 4) (by decide) c
    simp only [cl_nI (show k < 2 ^ 31 by omega)]
    by_cases d : T + k ≤ 120
    · simp only [if_pos d]
      obtain ⟨a, b, c1, d1, e1, f1, g1⟩ := h
      subst f1
      exact ⟨by first | exact trivial | rfl, a, b, c1, d1, ⟨T + k, d, rfl, rfl⟩, (feed_f _ _ _).symm, g1⟩
    · simp only [if_neg d]
      exact ⟨by first | exact trivial | rfl, h.fi 1 (by decide)⟩
  · simp only [if_neg c]
    exact ⟨by first | exact trivial | rfl, h.fi 0 (by decide)⟩
theorem sim_wipe {T : Nat} (hT2 : T ≤ 120) (h : Rel p0 p2 ke tb (nI T) sb ss sw fd sr kS stt ik tp (nI T) bo so nu) {N : Nat} (h8 : N ≤ 8) (hN : p0 0 = nI N) (hA : agr (5 + 8 * N) p0 sr) (hR : okR N sr) : (some (Value.int ((nI T)))) = (some (Value.int ((nI T)))) ∧ Rel p0 p2 ke tb (nI 0) sb ss sw fd sr kS stt ik tp (nI 0) bo so nu := by
  obtain ⟨a, b, c1, d1, e1, f1, g1⟩ := h
  exact ⟨by first | exact trivial | rfl, a, b, c1, d1, ⟨0, by omega, rfl, rfl⟩, f1, g1⟩
theorem sim_text {T : Nat} (hT2 : T ≤ 120) {p1 : Nat → Int32} {t5 vl : Int32} (h : Rel p0 p2 ke tb (nI T) sb ss sw fd sr kS stt ik tp (nI T) bo so nu) {N : Nat} (h8 : N ≤ 8) (hN : p0 0 = nI N) (hA : agr (5 + 8 * N) p0 sr) (hR : okR N sr) : (some (Value.int ((tellS (bu tb) T 120 (cpn (5 + 8 * N) p0 p1, advT (bu tb) T (0, 0, t5)) 0).2))) = (some (Value.int (if (textP tp T T (itemP tp T N (sr, tokA tp T 0, tokB tp T 0, false, vl)) 1).1.2.2.2.1 = true ∨ (textP tp T T (itemP tp T N (sr, tokA tp T 0, tokB tp T 0, false, vl)) 1).1.2.1 < T then -1 - nI (textP tp T T (itemP tp T N (sr, tokA tp T 0, tokB tp T 0, false, vl)) 1).1.2.1 else nI (textP tp T T (itemP tp T N (sr, tokA tp T 0, tokB tp T 0, false, vl)) 1).2))) ∧ Rel (if (tellS (bu tb) T 120 (cpn (5 + 8 * N) p0 p1, advT (bu tb) T (0, 0, t5)) 0).2 < 0 then p0 else cpn (5 + 8 * nW (tellS (bu tb) T 120 (cpn (5 + 8 * N) p0 p1, advT (bu tb) T (0, 0, t5)) 0).1.1) (tellS (bu tb) T 120 (cpn (5 + 8 * N) p0 p1, advT (bu tb) T (0, 0, t5)) 0).1.1 p0) p2 ke tb (nI 0) sb ss sw fd (if (textP tp T T (itemP tp T N (sr, tokA tp T 0, tokB tp T 0, false, vl)) 1).1.2.2.2.1 = true ∨ (textP tp T T (itemP tp T N (sr, tokA tp T 0, tokB tp T 0, false, vl)) 1).1.2.1 < T then sr else (textP tp T T (itemP tp T N (sr, tokA tp T 0, tokB tp T 0, false, vl)) 1).1.1) kS stt ik tp (nI 0) bo so nu := by
  obtain ⟨a, b, c1, d1, e1, f1, g1⟩ := id h
  subst f1
  have hr : relY (bu tb) T N (cpn (5 + 8 * N) p0 p1, advT (bu tb) T (0, 0, t5)) (sr, tokA (bu tb) T 0, tokB (bu tb) T 0, false, vl) := ⟨advT_wf (Nat.zero_le T), rfl, rfl, rfl, agr_cp.tr hA, cpn_0'.trans hN, h8, hR⟩
  have he : endY T (tellS (bu tb) T 120 (cpn (5 + 8 * N) p0 p1, advT (bu tb) T (0, 0, t5)) 0) (textP (bu tb) T T (itemP (bu tb) T N (sr, tokA (bu tb) T 0, tokB (bu tb) T 0, false, vl)) 1) := text_y 120 T 0 N _ _ hr rfl hT2 (Nat.zero_le _) (Nat.le_add_right _ _)
  generalize tellS (bu tb) T 120 (cpn (5 + 8 * N) p0 p1, advT (bu tb) T (0, 0, t5)) 0 = C at he ⊢
  generalize textP (bu tb) T T (itemP (bu tb) T N (sr, tokA (bu tb) T 0, tokB (bu tb) T 0, false, vl)) 1 = M at he ⊢
  obtain ⟨k1, k2, k3, k4⟩ := he
  by_cases c : M.1.2.2.2.1 = true ∨ M.1.2.1 < T
  · simp only [if_pos c] at k1 ⊢
    have hn : C.2 < 0 := by rw [k1]; exact neg_f _ (by omega)
    rw [if_pos hn, k1]
    exact ⟨by first | exact trivial | rfl, a, b, c1, d1, ⟨0, by omega, rfl, rfl⟩, rfl, g1⟩
  · simp only [if_neg c] at k1 ⊢
    obtain ⟨N', j8, j0, jA, jR⟩ := k2 c
    have hn : ¬ C.2 < 0 := by rw [k1]; exact nI_pos (by omega)
    rw [if_neg hn, k1, nW_of j8 j0]
    exact ⟨by first | exact trivial | rfl, ⟨N', j8, cpn_0'.trans j0, agr_cp.tr jA, jR⟩, b, c1, d1, ⟨0, by omega, rfl, rfl⟩, rfl, g1⟩
theorem sim_sheet {q : Int32} {o : Int32} {v : Int32} (h : Rel p0 p2 ke tb t1 sb ss sw fd sr kS stt ik tp td bo so nu) {N : Nat} (h8 : N ≤ 8) (hN : p0 0 = nI N) (hA : agr (5 + 8 * N) p0 sr) (hR : okR N sr) : (some (Value.int (if rg 0 3 q ∧ bitsOk o then (if 0 ≤ v then (if v ≤ nI 40 then (if o = 0 then nI 0 else v) else -1000000001) else -1000000007) else -1000000001))) = (some (Value.int (if rg 0 3 q ∧ bitsOk o then (if 0 ≤ v then (if v ≤ nI 40 then (if o = 0 then nI 0 else v) else -1000000001) else -1000000007) else -1000000001))) ∧ Rel p0 p2 ke tb t1 (if rg 0 3 q ∧ bitsOk o then (if 0 ≤ v then (if v ≤ nI 40 then upd sb q.toNatClampNeg o else sb) else sb) else sb) (if rg 0 3 q ∧ bitsOk o then (if 0 ≤ v then (if v ≤ nI 40 then upd ss q.toNatClampNeg (if o = 0 then nI 0 else v) else ss) else ss) else ss) (if rg 0 3 q ∧ bitsOk o then (if 0 ≤ v then (if v ≤ nI 40 then va_up sw q.toNatClampNeg (zrS (sw q.toNatClampNeg) 40) else sw) else sw) else sw) (if rg 0 3 q ∧ bitsOk o then (if 0 ≤ v then (if v ≤ nI 40 then fd else fnd fd 0) else fnd fd 6) else fnd fd 0) sr kS (if rg 0 3 q ∧ bitsOk o then (if 0 ≤ v then (if v ≤ nI 40 then stt else fnd stt 0) else fnd stt 6) else fnd stt 0) ik tp td (if rg 0 3 q ∧ bitsOk o then (if 0 ≤ v then (if v ≤ nI 40 then upd bo q.toNatClampNeg o else bo) else bo) else bo) (if rg 0 3 q ∧ bitsOk o then (if 0 ≤ v then (if v ≤ nI 40 then upd so q.toNatClampNeg (if o = 0 then nI 0 else v) else so) else so) else so) (if rg 0 3 q ∧ bitsOk o then (if 0 ≤ v then (if v ≤ nI 40 then zrJ nu q.toNatClampNeg 40 else nu) else nu) else nu) := by
  by_cases c : rg 0 3 q = true ∧ bitsOk o = true
  · simp only [if_pos c]
    obtain ⟨k, k1, hk, rfl⟩ := rg_ix (a := 0) (b := 3) (by decide) c.1
    simp only [cl_nI (show k < 2 ^ 31 by omega)]
    by_cases d : 0 ≤ v
    · simp only [if_pos d]
      by_cases e : v ≤ nI 40
      · simp only [if_pos e]
        obtain ⟨z, hz, ez⟩ : ∃ z : Nat, z ≤ 40 ∧ (if o = 0 then nI 0 else v) = nI z := by
          split
          · exact ⟨0, by omega, rfl⟩
          · obtain ⟨j, hj, ej⟩ := nI_of2 (M := nI 40) (n := 40) (by decide) (Int32.not_lt.mpr d) e
            exact ⟨j, hj, ej⟩
        refine ⟨by first | exact trivial | rfl, h.sh (fun s hs => ?_) (sw_zr h.2.2.2.2.2.2.2 (by omega))⟩
        obtain ⟨g1, g2, g3⟩ := h.2.2.2.2.2.2.1 s hs
        unfold upd
        by_cases w : s = k
        · simp only [if_pos w]
          exact ⟨by first | exact trivial | rfl, by first | exact trivial | rfl, z, hz, ez⟩
        · simp only [if_neg w]
          exact ⟨g1, g2, g3⟩
      · simp only [if_neg e]
        exact ⟨by first | exact trivial | rfl, h.fi 0 (by decide)⟩
    · simp only [if_neg d]
      exact ⟨by first | exact trivial | rfl, h.fi 6 (by decide)⟩
  · simp only [if_neg c]
    exact ⟨by first | exact trivial | rfl, h.fi 0 (by decide)⟩
theorem sim_write {q : Int32} {o : Int32} {x : Int64} (h : Rel p0 p2 ke tb t1 sb ss sw fd sr kS stt ik tp td bo so nu) {N : Nat} (h8 : N ≤ 8) (hN : p0 0 = nI N) (hA : agr (5 + 8 * N) p0 sr) (hR : okR N sr) : (some (Value.long (if rg 0 3 q then (if sb q.toNatClampNeg = 0 then (-1000000006 : Int32).toInt64 else if rg 0 ((ss q.toNatClampNeg) - (nI 1)).toInt o then sw q.toNatClampNeg o.toNatClampNeg else (-1000000001 : Int32).toInt64) else (-1000000001 : Int32).toInt64))) = (some (Value.long (if rg 0 3 q then (if bo q.toNatClampNeg = 0 then (-1000000006 : Int32).toInt64 else if rg 0 (((so q.toNatClampNeg) - (nI 1)).toInt64).toInt o then nu (40 * q.toNatClampNeg + o.toNatClampNeg) else (-1000000001 : Int32).toInt64) else (-1000000001 : Int32).toInt64))) ∧ Rel p0 p2 ke tb t1 sb ss (if rg 0 3 q then (if sb q.toNatClampNeg = 0 then sw else if rg 0 ((ss q.toNatClampNeg) - (nI 1)).toInt o then va_up sw q.toNatClampNeg (vp_updL (sw q.toNatClampNeg) o.toNatClampNeg (narF (sb q.toNatClampNeg) x)) else sw) else sw) (if rg 0 3 q then (if sb q.toNatClampNeg = 0 then fnd fd 5 else if rg 0 ((ss q.toNatClampNeg) - (nI 1)).toInt o then fd else fnd fd 0) else fnd fd 0) sr kS (if rg 0 3 q then (if bo q.toNatClampNeg = 0 then fnd stt 5 else if rg 0 (((so q.toNatClampNeg) - (nI 1)).toInt64).toInt o then stt else fnd stt 0) else fnd stt 0) ik tp td bo so (if rg 0 3 q then (if bo q.toNatClampNeg = 0 then nu else if rg 0 (((so q.toNatClampNeg) - (nI 1)).toInt64).toInt o then vp_updL nu (40 * q.toNatClampNeg + o.toNatClampNeg) (narF (bo q.toNatClampNeg) x) else nu) else nu) := by
  by_cases c : rg 0 3 q = true
  · simp only [if_pos c]
    obtain ⟨k, k1, hk, rfl⟩ := rg_ix (a := 0) (b := 3) (by decide) c
    simp only [cl_nI (show k < 2 ^ 31 by omega)]
    obtain ⟨g1, g2, z, hz, ez⟩ := h.2.2.2.2.2.2.1 k (by omega)
    simp only [← g1, ← g2, Int32.toInt_toInt64]
    by_cases d : sb k = 0
    · simp only [if_pos d]
      exact ⟨by first | exact trivial | rfl, h.fi 5 (by decide)⟩
    · simp only [if_neg d]
      by_cases e : rg 0 ((ss k) - (nI 1)).toInt o = true
      · simp only [if_pos e]
        obtain ⟨j, hj, rfl⟩ := rg_z hz (by rw [← ez]; exact e)
        simp only [cl_nI (show j < 2 ^ 31 by omega)]
        exact ⟨congrArg (fun y => some (Value.long y)) (h.2.2.2.2.2.2.2 k j (by omega) (by omega)), h.nums (sw_upd h.2.2.2.2.2.2.2 (by omega) (by omega))⟩
      · simp only [if_neg e]
        exact ⟨by first | exact trivial | rfl, h.fi 0 (by decide)⟩
  · simp only [if_neg c]
    exact ⟨by first | exact trivial | rfl, h.fi 0 (by decide)⟩
theorem sim_copy {q : Int32} {b : Int32} {o : Int32} {d : Int32} {n : Int32} (h : Rel p0 p2 ke tb t1 sb ss sw fd sr kS stt ik tp td bo so nu) {N : Nat} (h8 : N ≤ 8) (hN : p0 0 = nI N) (hA : agr (5 + 8 * N) p0 sr) (hR : okR N sr) : (some (Value.int (if rg 0 3 q ∧ rg 0 3 o then (if decide (sb q.toNatClampNeg = 0) || decide (sb o.toNatClampNeg = 0) then -1000000006 else if sb q.toNatClampNeg = sb o.toNatClampNeg then (if hpP (ss q.toNatClampNeg) b n ∧ hpP (ss o.toNatClampNeg) d n then n else -1000000001) else -1000000003) else -1000000001))) = (some (Value.int (if rg 0 3 q ∧ rg 0 3 o then (if decide (bo q.toNatClampNeg = 0) || decide (bo o.toNatClampNeg = 0) then -1000000006 else if bo q.toNatClampNeg = bo o.toNatClampNeg then (if cpOk (so q.toNatClampNeg) (so o.toNatClampNeg) b d n then n else -1000000001) else -1000000003) else -1000000001))) ∧ Rel p0 p2 ke tb t1 sb ss (if rg 0 3 q ∧ rg 0 3 o then (if decide (sb q.toNatClampNeg = 0) || decide (sb o.toNatClampNeg = 0) then sw else if sb q.toNatClampNeg = sb o.toNatClampNeg then (if hpP (ss q.toNatClampNeg) b n ∧ hpP (ss o.toNatClampNeg) d n then va_up sw o.toNatClampNeg (va_cpy (sw q.toNatClampNeg) (sw o.toNatClampNeg) b.toNatClampNeg d.toNatClampNeg n.toNatClampNeg) else sw) else sw) else sw) (if rg 0 3 q ∧ rg 0 3 o then (if decide (sb q.toNatClampNeg = 0) || decide (sb o.toNatClampNeg = 0) then fnd fd 5 else if sb q.toNatClampNeg = sb o.toNatClampNeg then (if hpP (ss q.toNatClampNeg) b n ∧ hpP (ss o.toNatClampNeg) d n then fd else fnd fd 0) else fnd fd 2) else fnd fd 0) sr kS (if rg 0 3 q ∧ rg 0 3 o then (if decide (bo q.toNatClampNeg = 0) || decide (bo o.toNatClampNeg = 0) then fnd stt 5 else if bo q.toNatClampNeg = bo o.toNatClampNeg then (if cpOk (so q.toNatClampNeg) (so o.toNatClampNeg) b d n then stt else fnd stt 0) else fnd stt 2) else fnd stt 0) ik tp td bo so (if rg 0 3 q ∧ rg 0 3 o then (if decide (bo q.toNatClampNeg = 0) || decide (bo o.toNatClampNeg = 0) then nu else if bo q.toNatClampNeg = bo o.toNatClampNeg then (if cpOk (so q.toNatClampNeg) (so o.toNatClampNeg) b d n then va_cpy nu nu (40 * q.toNatClampNeg + b.toNatClampNeg) (40 * o.toNatClampNeg + d.toNatClampNeg) n.toNatClampNeg else nu) else nu) else nu) := by
  by_cases c : rg 0 3 q = true ∧ rg 0 3 o = true
  · simp only [if_pos c]
    obtain ⟨i, i1, hi, rfl⟩ := rg_ix (a := 0) (b := 3) (by decide) c.1
    simp only [cl_nI (show i < 2 ^ 31 by omega)]
    obtain ⟨k, k1, hk, rfl⟩ := rg_ix (a := 0) (b := 3) (by decide) c.2
    simp only [cl_nI (show k < 2 ^ 31 by omega)]
    obtain ⟨g1, g2, z1, hz1, ez1⟩ := h.2.2.2.2.2.2.1 i (by omega)
    obtain ⟨f1, f2, z2, hz2, ez2⟩ := h.2.2.2.2.2.2.1 k (by omega)
    simp only [← g1, ← g2, ← f1, ← f2]
    by_cases e : (decide (sb i = 0) || decide (sb k = 0)) = true
    · simp only [if_pos e]
      exact ⟨by first | exact trivial | rfl, h.fi 5 (by decide)⟩
    · simp only [if_neg e]
      by_cases e2 : sb i = sb k
      · simp only [if_pos e2]
        have hc := cp_b (b := b) (d := d) (n := n) hz1 hz2 ez1 ez2
        by_cases w : hpP (ss i) b n = true ∧ hpP (ss k) d n = true
        · simp only [if_pos w, if_pos (hc.mpr w)]
          obtain ⟨b_, n_, rfl, rfl, hbn⟩ := hp_ix hz1 ez1 w.1
          obtain ⟨d_, n9, rfl, hn9, hdn⟩ := hp_ix hz2 ez2 w.2
          have hn8 : n9 = n_ := cp_nn hn9 (by omega) (by omega)
          subst hn8
          simp only [cl_nI (show b_ < 2 ^ 31 by omega), cl_nI (show d_ < 2 ^ 31 by omega), cl_nI (show n9 < 2 ^ 31 by omega)]
          exact ⟨by first | exact trivial | rfl, h.nums (sw_cpy h.2.2.2.2.2.2.2 (by omega) (by omega) (by omega) (by omega))⟩
        · simp only [if_neg w, if_neg (fun y => w (hc.mp y))]
          exact ⟨by first | exact trivial | rfl, h.fi 0 (by decide)⟩
      · simp only [if_neg e2]
        exact ⟨by first | exact trivial | rfl, h.fi 2 (by decide)⟩
  · simp only [if_neg c]
    exact ⟨by first | exact trivial | rfl, h.fi 0 (by decide)⟩
theorem sim_lays {q : Int32} (h : Rel p0 p2 ke tb t1 sb ss sw fd sr kS stt ik tp td bo so nu) {N : Nat} (h8 : N ≤ 8) (hN : p0 0 = nI N) (hA : agr (5 + 8 * N) p0 sr) (hR : okR N sr) : (some (Value.int (if rg 0 3 q then (if sb q.toNatClampNeg = 0 then -1000000006 else (laysC (sw q.toNatClampNeg) (min (ss q.toNatClampNeg).toNatClampNeg N) 0 p0 (nI 0)).2) else -1000000001))) = (some (Value.int (if rg 0 3 q then (if bo q.toNatClampNeg = 0 then -1000000006 else (laysL nu q.toNatClampNeg (min (so q.toNatClampNeg).toNatClampNeg N) 0 sr (nI 0)).2) else -1000000001))) ∧ Rel (if rg 0 3 q then (if sb q.toNatClampNeg = 0 then p0 else (laysC (sw q.toNatClampNeg) (min (ss q.toNatClampNeg).toNatClampNeg N) 0 p0 (nI 0)).1) else p0) p2 ke tb t1 sb ss sw (if rg 0 3 q then (if sb q.toNatClampNeg = 0 then fnd fd 5 else fd) else fnd fd 0) (if rg 0 3 q then (if bo q.toNatClampNeg = 0 then sr else (laysL nu q.toNatClampNeg (min (so q.toNatClampNeg).toNatClampNeg N) 0 sr (nI 0)).1) else sr) kS (if rg 0 3 q then (if bo q.toNatClampNeg = 0 then fnd stt 5 else stt) else fnd stt 0) ik tp td bo so nu := by
  by_cases c : rg 0 3 q = true
  · simp only [if_pos c]
    obtain ⟨k, k1, hk, rfl⟩ := rg_ix (a := 0) (b := 3) (by decide) c
    simp only [cl_nI (show k < 2 ^ 31 by omega)]
    obtain ⟨g1, g2, z, hz, ez⟩ := h.2.2.2.2.2.2.1 k (by omega)
    simp only [← g1, ← g2]
    by_cases d : sb k = 0
    · simp only [if_pos d]
      exact ⟨by first | exact trivial | rfl, h.fi 5 (by decide)⟩
    · simp only [if_neg d]
      have e := lays_b (i := k) h8 (fun j hj => h.2.2.2.2.2.2.2 k j (by omega) hj) (min (ss k).toNatClampNeg N) 0 p0 sr (nI 0) hA (by rw [Nat.zero_add]; exact Nat.min_le_right _ _)
      exact ⟨rvI e.2, h.row h8 ((e.1 0 (by omega)).trans ((lays_0 _ _ _ _).trans ((hA 0 (by omega)).symm.trans hN))) e.1 (lays_r _ _ _ _ hR)⟩
  · simp only [if_neg c]
    exact ⟨by first | exact trivial | rfl, h.fi 0 (by decide)⟩
theorem sim_book {q : Int32} {w : Int32} (h : Rel p0 p2 ke tb t1 sb ss sw fd sr kS stt ik tp td bo so nu) {N : Nat} (h8 : N ≤ 8) (hN : p0 0 = nI N) (hA : agr (5 + 8 * N) p0 sr) (hR : okR N sr) : (some (Value.int (if rg 0 3 q then (if sb q.toNatClampNeg = 0 then -1000000006 else if isN N w then ss q.toNatClampNeg else -1000000001) else -1000000001))) = (some (Value.int (if rg 0 3 q then (if bo q.toNatClampNeg = 0 then -1000000006 else if isN N w then nI (so q.toNatClampNeg).toNatClampNeg else -1000000001) else -1000000001))) ∧ Rel p0 p2 ke tb t1 sb ss (if rg 0 3 q then (if sb q.toNatClampNeg = 0 then sw else if isN N w then va_up sw q.toNatClampNeg (bookC N w.toNatClampNeg (sb q.toNatClampNeg) (ss q.toNatClampNeg).toNatClampNeg 0 p0 (sw q.toNatClampNeg)) else sw) else sw) (if rg 0 3 q then (if sb q.toNatClampNeg = 0 then fnd fd 5 else if isN N w then fd else fnd fd 0) else fnd fd 0) sr kS (if rg 0 3 q then (if bo q.toNatClampNeg = 0 then fnd stt 5 else if isN N w then stt else fnd stt 0) else fnd stt 0) ik tp td bo so (if rg 0 3 q then (if bo q.toNatClampNeg = 0 then nu else if isN N w then bookL N q.toNatClampNeg w.toNatClampNeg (bo q.toNatClampNeg) (so q.toNatClampNeg).toNatClampNeg 0 sr nu else nu) else nu) := by
  by_cases c : rg 0 3 q = true
  · simp only [if_pos c]
    obtain ⟨k, k1, hk, rfl⟩ := rg_ix (a := 0) (b := 3) (by decide) c
    simp only [cl_nI (show k < 2 ^ 31 by omega)]
    obtain ⟨g1, g2, z, hz, ez⟩ := h.2.2.2.2.2.2.1 k (by omega)
    simp only [← g1, ← g2]
    by_cases d : sb k = 0
    · simp only [if_pos d]
      exact ⟨by first | exact trivial | rfl, h.fi 5 (by decide)⟩
    · simp only [if_neg d]
      by_cases e : isN N w = true
      · simp only [if_pos e]
        obtain ⟨i, hi, rfl⟩ := isN_ix h8 e
        simp only [cl_nI (show i < 2 ^ 31 by omega)]
        have hzc : (ss k).toNatClampNeg = z := by rw [ez]; exact cl_nI (by omega)
        rw [hzc, ez, ← book_c (i := k) (x := sb k) hi z 0 p0 sr nu hA]
        have hb := book_b (N := N) (w := i) (i := k) (x := sb k) z 0 p0 (sw k) nu (by omega) (fun j hj => h.2.2.2.2.2.2.2 k j (by omega) hj)
        refine ⟨by first | exact trivial | rfl, h.nums (fun s j hs hj => ?_)⟩
        unfold va_up
        by_cases u : s = k
        · rw [if_pos u, u]
          exact hb.1 j hj
        · rw [if_neg u, hb.2 (40 * s + j) (by omega)]
          exact h.2.2.2.2.2.2.2 s j hs hj
      · simp only [if_neg e]
        exact ⟨by first | exact trivial | rfl, h.fi 0 (by decide)⟩
  · simp only [if_neg c]
    exact ⟨by first | exact trivial | rfl, h.fi 0 (by decide)⟩
theorem sim_read {q : Int32} {w : Int32} (h : Rel p0 p2 ke tb t1 sb ss sw fd sr kS stt ik tp td bo so nu) {N : Nat} (h8 : N ≤ 8) (hN : p0 0 = nI N) (hA : agr (5 + 8 * N) p0 sr) (hR : okR N sr) : (some (Value.int (if rg 0 3 q then (if sb q.toNatClampNeg = 0 then -1000000006 else if isN N w then rdO N w.toNatClampNeg (sw q.toNatClampNeg) (ss q.toNatClampNeg).toNatClampNeg p0 6 0 (nI 0) else -1000000001) else -1000000001))) = (some (Value.int (if rg 0 3 q then (if bo q.toNatClampNeg = 0 then -1000000006 else if isN N w then readL N q.toNatClampNeg w.toNatClampNeg (so q.toNatClampNeg).toNatClampNeg nu sr 66 0 (nI 0) else -1000000001) else -1000000001))) ∧ Rel p0 p2 ke tb t1 sb ss sw (if rg 0 3 q then (if sb q.toNatClampNeg = 0 then fnd fd 5 else if isN N w then fd else fnd fd 0) else fnd fd 0) sr kS (if rg 0 3 q then (if bo q.toNatClampNeg = 0 then fnd stt 5 else if isN N w then stt else fnd stt 0) else fnd stt 0) ik tp td bo so nu := by
  by_cases c : rg 0 3 q = true
  · simp only [if_pos c]
    obtain ⟨k, k1, hk, rfl⟩ := rg_ix (a := 0) (b := 3) (by decide) c
    simp only [cl_nI (show k < 2 ^ 31 by omega)]
    obtain ⟨g1, g2, z, hz, ez⟩ := h.2.2.2.2.2.2.1 k (by omega)
    simp only [← g1, ← g2]
    by_cases d : sb k = 0
    · simp only [if_pos d]
      exact ⟨by first | exact trivial | rfl, h.fi 5 (by decide)⟩
    · simp only [if_neg d]
      by_cases e : isN N w = true
      · simp only [if_pos e]
        obtain ⟨i, hi, rfl⟩ := isN_ix h8 e
        simp only [cl_nI (show i < 2 ^ 31 by omega)]
        have hzc : (ss k).toNatClampNeg = z := by rw [ez]; exact cl_nI (by omega)
        rw [hzc]
        have h1 := rdO_b (N := N) (w := i) (a := p0) hz (fun j hj => h.2.2.2.2.2.2.2 k j (by omega) hj) 6 0 (nI 0) (by omega)
        have h2 := read_c (i := k) (z := z) (nu := nu) hA hi 66 0 (nI 0)
        exact ⟨rvI (h1.symm.trans h2), h⟩
      · simp only [if_neg e]
        exact ⟨by first | exact trivial | rfl, h.fi 0 (by decide)⟩
  · simp only [if_neg c]
    exact ⟨by first | exact trivial | rfl, h.fi 0 (by decide)⟩
theorem sim_image (h : Rel p0 p2 ke tb t1 sb ss sw fd sr kS stt ik tp td bo so nu) {N : Nat} (h8 : N ≤ 8) (hN : p0 0 = nI N) (hA : agr (5 + 8 * N) p0 sr) (hR : okR N sr) : (some (Value.int (nI 1))) = (some (Value.int (nI 1))) ∧ Rel p0 (cpn (5 + 8 * N) p0 p2) (nI 1) tb t1 sb ss sw fd sr sr stt (nI 1) tp td bo so nu := by
  obtain ⟨a, b, c1, d1, e1, f1, g1⟩ := h
  exact ⟨by first | exact trivial | rfl, a, ⟨N, h8, cpn_0'.trans hN, fun _ => ⟨agr_cp.tr hA, hR⟩⟩, rfl, d1, e1, f1, g1⟩
theorem sim_undo (h : Rel p0 p2 ke tb t1 sb ss sw fd sr kS stt ik tp td bo so nu) {N : Nat} (h8 : N ≤ 8) (hN2 : p2 0 = nI N) (hk : ¬ ke = 0 → agr (5 + 8 * N) p2 kS ∧ okR N kS) : (some (Value.int (if ke = 0 then -1000000004 else nI N))) = (some (Value.int (if ik = 0 then -1000000004 else kS 0))) ∧ Rel (if ke = 0 then p0 else cpn (5 + 8 * N) p2 p0) p2 ke tb t1 sb ss sw (if ke = 0 then fnd fd 3 else fd) (if ik = 0 then sr else kS) kS (if ik = 0 then fnd stt 3 else stt) ik tp td bo so nu := by
  have c1 := h.2.2.1
  subst c1
  by_cases e : ke = 0
  · simp only [if_pos e]
    exact ⟨by first | exact trivial | rfl, h.fi 3 (by decide)⟩
  · simp only [if_neg e]
    obtain ⟨kA, kR⟩ := hk e
    exact ⟨rvI (hN2.symm.trans (kA 0 (by omega))), h.row h8 (cpn_0'.trans hN2) (agr_cp.tr kA) kR⟩
theorem sim_tear (h : Rel p0 p2 ke tb t1 sb ss sw fd sr kS stt ik tp td bo so nu) {N : Nat} (h8 : N ≤ 8) (hN : p0 0 = nI N) (hA : agr (5 + 8 * N) p0 sr) (hR : okR N sr) : (some (Value.int (if ke = 0 then nI 0 else nI 1))) = (some (Value.int (if ik = 0 then nI 0 else nI 1))) ∧ Rel p0 p2 (nI 0) tb t1 sb ss sw fd sr kS stt (nI 0) tp td bo so nu := by
  obtain ⟨a, ⟨N2, b1, b2, b3⟩, c1, d1, e1, f1, g1⟩ := h
  subst c1
  exact ⟨by first | exact trivial | rfl, a, ⟨N2, b1, b2, fun y => absurd nI_0 y⟩, rfl, d1, e1, f1, g1⟩
theorem sim_count {q : Int32} {T : Nat} (hT2 : T ≤ 120) (h : Rel p0 p2 ke tb (nI T) sb ss sw fd sr kS stt ik tp (nI T) bo so nu) {N : Nat} (h8 : N ≤ 8) (hN : p0 0 = nI N) (hA : agr (5 + 8 * N) p0 sr) (hR : okR N sr) : (some (Value.int (countF p0 N (nI T) q))) = (some (Value.int (countF sr N (nI T) q))) ∧ Rel p0 p2 ke tb (nI T) sb ss sw (if rg 0 3 q then fd else fnd fd 0) sr kS (if rg 0 3 q then stt else fnd stt 0) ik tp (nI T) bo so nu := by
  by_cases c : rg 0 3 q = true
  · simp only [if_pos c]
    exact ⟨rvI (count_c hA), h⟩
  · simp only [if_neg c]
    exact ⟨rvI (count_c hA), h.fi 0 (by decide)⟩
theorem sim_status {q : Int32} (h : Rel p0 p2 ke tb t1 sb ss sw fd sr kS stt ik tp td bo so nu) {N : Nat} (h8 : N ≤ 8) (hN : p0 0 = nI N) (hA : agr (5 + 8 * N) p0 sr) (hR : okR N sr) : (some (Value.int (if rg (-1) 6 q then statL fd q 7 0 (nI 0) else -1000000001))) = (some (Value.int (if rg (-1) 6 q then statL stt q 7 0 (nI 0) else -1000000001))) ∧ Rel p0 p2 ke tb t1 sb ss sw (if rg (-1) 6 q then fd else fnd fd 0) sr kS (if rg (-1) 6 q then stt else fnd stt 0) ik tp td bo so nu := by
  by_cases c : rg (-1) 6 q = true
  · simp only [if_pos c]
    exact ⟨rvI (stat_c h.2.2.2.1 7 0 (nI 0) (by omega)), h⟩
  · simp only [if_neg c]
    exact ⟨by first | exact trivial | rfl, h.fi 0 (by decide)⟩
end SIM
