/-! the class's world: its object, three roads of ten cells, the tape, the sheets, the findings; rows in the model's order -/
def nestW : List Cond := [.fieldLinkNest RX4 106 "PennyRoad$Walker" "kind" "I" "PennyRoad", .fieldLinkNest RX0 100 "PennyRoad$Walker" "kind" "I" "PennyRoad", .fieldLinkNest RX4 72 "PennyRoad$Walker" "mile" "I" "PennyRoad", .fieldLinkNest RX2 80 "PennyRoad$Walker" "mile" "I" "PennyRoad", .fieldLinkNest RX0 69 "PennyRoad$Walker" "mile" "I" "PennyRoad", .fieldLinkNest RX2 87 "PennyRoad$Walker" "up" "I" "PennyRoad", .fieldLinkNest RX0 72 "PennyRoad$Walker" "up" "I" "PennyRoad", .fieldLinkNest RX2 92 "PennyRoad$Walker" "reason" "I" "PennyRoad", .fieldLinkNest RX4 113 "PennyRoad$Walker" "reason" "I" "PennyRoad", .fieldLinkNest RX0 84 "PennyRoad$Walker" "reason" "I" "PennyRoad", .fieldLinkNest RX0 78 "PennyRoad$Walker" "tired" "I" "PennyRoad", .fieldLinkNest RX4 208 "PennyRoad$Walker" "tired" "I" "PennyRoad", .fieldLinkNest RX0 75 "PennyRoad$Walker" "walked" "I" "PennyRoad", .fieldLinkNest RX4 155 "PennyRoad$Walker" "walked" "I" "PennyRoad", .fieldLinkNest RX0 91 "PennyRoad$Walker" "purse" "I" "PennyRoad", .fieldLinkNest RX4 133 "PennyRoad$Walker" "purse" "I" "PennyRoad", .fieldLinkNest RX0 49 "PennyRoad$Walker" "stopped" "I" "PennyRoad", .fieldLinkNest RX4 158 "PennyRoad$Walker" "stopped" "I" "PennyRoad", .fieldLinkNest RX4 116 "PennyRoad$Road" "hour" "I" "PennyRoad", .fieldLinkNest RX4 55 "PennyRoad$Road" "fund" "I" "PennyRoad", .fieldLinkNest RX2 56 "PennyRoad$Road" "fund" "I" "PennyRoad", .fieldLinkNest RX4 59 "PennyRoad$Road" "penny" "I" "PennyRoad", .fieldLinkNest RX2 62 "PennyRoad$Road" "penny" "I" "PennyRoad", .fieldLinkNest RX4 62 "PennyRoad$Road" "rain" "I" "PennyRoad", .fieldLinkNest RX2 66 "PennyRoad$Road" "rain" "I" "PennyRoad", .fieldLinkNest RX4 65 "PennyRoad$Road" "size" "I" "PennyRoad", .fieldLinkNest RX4 68 "PennyRoad$Road" "all" "[LPennyRoad$Walker;" "PennyRoad", .fieldLinkNest RX4 161 "PennyRoad$Tape" "length" "I" "PennyRoad", .fieldLinkNest RX4 186 "PennyRoad$Sheet" "row" "[J" "PennyRoad", .fieldLinkNest RX4 194 "PennyRoad$Sheet" "bits" "I" "PennyRoad", .fieldLinkNest RX4 182 "PennyRoad$Sheet" "size" "I" "PennyRoad", .methodLinkNest RX4 9 yX0_init "PennyRoad", .methodLinkNest RX0 33 yX3_init "PennyRoad", .methodLinkNest RX4 28 yX2_init "PennyRoad", .methodLinkNest RX4 43 yX1_init "PennyRoad", .methodLinkNest RX4 77 yX0_isFull "PennyRoad", .methodLinkNest RX4 81 yX0_join "PennyRoad", .methodLinkNest RX0 38 yX3_startAs "PennyRoad", .methodLinkNest RX4 89 yX0_paceOf "PennyRoad", .methodLinkNest RX4 93 yX0_payOf "PennyRoad", .methodLinkNest RX4 96 yX3_trait "PennyRoad", .methodLinkNest RX4 102 yX3_giveTrait "PennyRoad", .methodLinkNest RX4 120 yX0_passHours "PennyRoad", .methodLinkNest RX0 59 yX3_milesToHatch "PennyRoad", .methodLinkNest RX4 124 yX0_sumOf "PennyRoad", .methodLinkNest RX0 42 yX3_trait "PennyRoad", .methodLinkNest RX4 127 yX0_setWith "PennyRoad", .methodLinkNest RX4 172 yX0_takeFrom "PennyRoad", .methodLinkNest RX0 34 yX3_becomeLike "PennyRoad", .methodLinkNest RX4 136 yX0_passHour "PennyRoad", .methodLinkNest RX4 164 yX2_append "PennyRoad", .methodLinkNest RX4 168 yX2_tellOnto "PennyRoad", .methodLinkNest RX2 70 yX0_isFull "PennyRoad", .methodLinkNest RX2 74 yX0_join "PennyRoad", .methodLinkNest RX4 179 yX1_rule "PennyRoad", .methodLinkNest RX4 183 yX1_isMissing "PennyRoad", .methodLinkNest RX4 190 yX1_put "PennyRoad", .methodLinkNest RX4 197 yX1_hasPart "PennyRoad"]
theorem nestW_warm : ∀ w ∈ nestW, (∃ a i b n d h, w = Cond.fieldLinkNest a i b n d h) ∨ ∃ a i x h, w = Cond.methodLinkNest a i x h := by
  unfold nestW
  intro w hw
  repeat (rcases List.mem_cons.mp hw with h | hw
          · subst h; first | exact Or.inl ⟨_, _, _, _, _, _, rfl⟩ | exact Or.inr ⟨_, _, _, _, rfl⟩)
  cases hw
def cFr (ad : Nat → Nat) (sg : Nat → Int32) (r : Nat) : List Value := [.int (sg 1), .int (sg 2), .int (sg 3), .int (sg 4), .int (sg 0), .ref (ad (2 + 10 * r))]
def cFw (sg : Nat → Int32) (i : Nat) : List Value := [.int (sg (5 + 8 * i + 0)), .int (sg (5 + 8 * i + 1)), .int (sg (5 + 8 * i + 2)), .int (sg (5 + 8 * i + 3)), .int (sg (5 + 8 * i + 4)), .int (sg (5 + 8 * i + 5)), .int (sg (5 + 8 * i + 6)), .int (sg (5 + 8 * i + 7))]
def cE (cy : Nat → ClassId) (ad : Nat → Nat) (rd : Nat → Nat → Int32) (ke : Int32) (tb : Nat → Int32) (t1 t2 t3 t4 t5 : Int32) (sb ss : Nat → Int32) (sw : Nat → Nat → Int64) (fd : Nat → Int32) (k : Nat) : va_E :=
  if k = 0 then .inr (4, [.ref (ad (1 + 10 * 0)), .ref (ad (1 + 10 * 1)), .ref (ad (1 + 10 * 2)), .int ke, .ref (ad 31), .ref (ad 33), .ref (ad 42)])
  else if k < 31 then (if (k - 1) % 10 = 0 then .inr (0, cFr ad (rd ((k - 1) / 10)) ((k - 1) / 10))
    else if (k - 1) % 10 = 1 then .inl (cy 2, (8, .inr (.inr (.inr (.inr (fun i => some (ad (3 + 10 * ((k - 1) / 10) + i))))))))
    else .inr (3, cFw (rd ((k - 1) / 10)) ((k - 1) % 10 - 2)))
  else if k = 31 then .inr (2, [.ref (ad 32), .int t1, .int t2, .int t3, .int t4, .int t5])
  else if k = 32 then .inl (cy 3, (120, .inl tb))
  else if k = 33 then .inl (cy 4, (4, .inr (.inr (.inr (.inr (fun i => some (ad (34 + 2 * i))))))))
  else if k = 42 then .inl (cy 0, (7, .inl fd))
  else if k % 2 = 0 then .inr (1, [.ref (ad (35 + 2 * ((k - 34) / 2))), .int (sb ((k - 34) / 2)), .int (ss ((k - 34) / 2))])
  else .inl (cy 1, (40, .inr (.inl (sw ((k - 34) / 2)))))
def cw (cy : Nat → ClassId) (ad : Nat → Nat) (rd : Nat → Nat → Int32) (ke : Int32) (tb : Nat → Int32) (t1 t2 t3 t4 t5 : Int32) (sb ss : Nat → Int32) (sw : Nat → Nat → Int64) (fd : Nat → Int32) : va_W := (List.range 43).map (fun k => (ad k, cE cy ad rd ke tb t1 t2 t3 t4 t5 sb ss sw fd k))
def cA (ad : Nat → Nat) : Nat → Prop := fun q => ∃ k, k < 43 ∧ q = ad k
def ctys (cy : Nat → ClassId) : List (ClassId × FieldType) := [(cy 0, .int), (cy 1, .long), (cy 2, .object RX3), (cy 3, .byte), (cy 4, .object RX1)]
def cK (D : va_G) (cy : Nat → ClassId) (ad : Nat → Nat) (U : State) : Prop := va_K D vwCl (ctys cy) U ∧ (∀ i j : Nat, i < 43 → j < 43 → ad i = ad j → i = j) ∧ ∀ w ∈ nestW, va_Nw w U
theorem nest_warm {w : Cond} (hw : w ∈ nestW) {s U : State} (hW : s.WarmedH U.vm) (h : va_Nw w s) : va_Nw w U := by
  rcases nestW_warm w hw with ⟨a, i, b, n, d, h9, rfl⟩ | ⟨a, i, x, h9, rfl⟩
  · exact va_Nw.warmF hW h
  · exact va_Nw.warmM hW h
theorem nest_same {w : Cond} (hw : w ∈ nestW) {s U : State} (hW : s.vm = U.vm) (h : va_Nw w s) : va_Nw w U := by
  rcases nestW_warm w hw with ⟨a, i, b, n, d, h9, rfl⟩ | ⟨a, i, x, h9, rfl⟩
  · exact va_Nw.same rfl hW h
  · exact va_Nw.same rfl hW h
theorem cK_ok {D : va_G} {cy : Nat → ClassId} {ad : Nat → Nat} : kOk (cK D cy ad) := ⟨fun s U hW h => ⟨va_K.moved hW.alike h.1, h.2.1, fun w hw => nest_warm hw hW (h.2.2 w hw)⟩, fun a U g mk h => ⟨va_K.moved (u := U) (U := U.calling g mk a) (Vm.Alike.refl U.vm) h.1, h.2.1, fun w hw => nest_same (s := U) (U := U.calling g mk a) hw rfl (h.2.2 w hw)⟩⟩
theorem c_nest {D : va_G} {cy : Nat → ClassId} {ad : Nat → Nat} {U : State} (h : cK D cy ad U) (k : Nat) {w : Cond} (hk : nestW[k]? = some w) : va_Nw w U := h.2.2 w (List.mem_of_getElem? hk)
section CW
variable {p : Program} {l : Launch} {e : Env} {R : Room} {s : State} {m : MethodId} {args : Array Value} {below : List Frame} {meth : Method} {c : Code} {H : Heap} {locs : List Loc} {cells slots : Nat} {Q : State → Prop}
variable {cc : ByteArray} {pc : Nat} {ls : Array Slot} {rest : List Value} {D : va_G} {H0 : Heap} {Ts : List Cond} {idx : Nat} {w' : va_W} {own : String}
variable {cy : Nat → ClassId} {ad : Nat → Nat} {rd : Nat → Nat → Int32} {ke : Int32} {tb : Nat → Int32} {t1 t2 t3 t4 t5 : Int32} {sb ss : Nat → Int32} {sw : Nat → Nat → Int64} {fd : Nat → Int32}
theorem c_at {k : Nat} (hk : k < 43) : (cw cy ad rd ke tb t1 t2 t3 t4 t5 sb ss sw fd)[k]? = some (ad k, cE cy ad rd ke tb t1 t2 t3 t4 t5 sb ss sw fd k) := by
  unfold cw
  rw [List.getElem?_map, List.getElem?_range hk]
  rfl
theorem c_at' {k : Nat} {q : Nat × va_E} (h : (cw cy ad rd ke tb t1 t2 t3 t4 t5 sb ss sw fd)[k]? = some q) : k < 43 ∧ q.1 = ad k := by
  have hl : k < 43 := by
    have := (List.getElem?_eq_some_iff.mp h).1
    simpa [cw] using this
  rw [c_at hl] at h
  cases h
  exact ⟨hl, rfl⟩
theorem c_D (hI : ∀ i j : Nat, i < 43 → j < 43 → ad i = ad j → i = j) : va_D (cA ad) (cw cy ad rd ke tb t1 t2 t3 t4 t5 sb ss sw fd) := by
  refine ⟨fun i j x y hi hj hxy => ?_, fun k q hk => ?_⟩
  · obtain ⟨h1, h2⟩ := c_at' hi
    obtain ⟨h3, h4⟩ := c_at' hj
    exact hI i j h1 h3 (by rw [← h2, ← h4]; exact hxy)
  · obtain ⟨h1, h2⟩ := c_at' hk
    exact ⟨k, h1, h2⟩
theorem c_set {rd' : Nat → Nat → Int32} {ke' : Int32} {tb' : Nat → Int32} {t1' t2' t3' t4' t5' : Int32} {sb' ss' : Nat → Int32} {sw' : Nat → Nat → Int64} {fd' : Nat → Int32} {k : Nat} {x : va_E} (hx : x = cE cy ad rd' ke' tb' t1' t2' t3' t4' t5' sb' ss' sw' fd' k) (h : ∀ j, j < 43 → j ≠ k → cE cy ad rd ke tb t1 t2 t3 t4 t5 sb ss sw fd j = cE cy ad rd' ke' tb' t1' t2' t3' t4' t5' sb' ss' sw' fd' j) :
    (cw cy ad rd ke tb t1 t2 t3 t4 t5 sb ss sw fd).set k (ad k, x) = cw cy ad rd' ke' tb' t1' t2' t3' t4' t5' sb' ss' sw' fd' := by
  apply List.ext_getElem?
  intro j
  by_cases hj : j < 43
  · rw [c_at hj]
    by_cases hjk : j = k
    · subst hjk
      rw [List.getElem?_set_self (by simpa [cw] using hj), hx]
    · rw [List.getElem?_set_ne (Ne.symm hjk), c_at hj, h j hj hjk]
  · rw [List.getElem?_eq_none (by simp [cw]; omega), List.getElem?_eq_none (by simp [cw]; omega)]
theorem cE_0 : cE cy ad rd ke tb t1 t2 t3 t4 t5 sb ss sw fd 0 = .inr (4, [.ref (ad (1 + 10 * 0)), .ref (ad (1 + 10 * 1)), .ref (ad (1 + 10 * 2)), .int ke, .ref (ad 31), .ref (ad 33), .ref (ad 42)]) := rfl
theorem cE_rd {r : Nat} (hr : r < 3) : cE cy ad rd ke tb t1 t2 t3 t4 t5 sb ss sw fd (1 + 10 * r) = .inr (0, cFr ad (rd r) r) := by
  unfold cE
  rw [if_neg (by omega), if_pos (by omega), if_pos (by omega), show (1 + 10 * r - 1) / 10 = r by omega]
theorem cE_ar {r : Nat} (hr : r < 3) : cE cy ad rd ke tb t1 t2 t3 t4 t5 sb ss sw fd (2 + 10 * r) = .inl (cy 2, (8, .inr (.inr (.inr (.inr (fun i => some (ad (3 + 10 * r + i)))))))) := by
  unfold cE
  rw [if_neg (by omega), if_pos (by omega), if_neg (by omega), if_pos (by omega), show (2 + 10 * r - 1) / 10 = r by omega]
theorem cE_wk {r i : Nat} (hr : r < 3) (hi : i < 8) : cE cy ad rd ke tb t1 t2 t3 t4 t5 sb ss sw fd (3 + 10 * r + i) = .inr (3, cFw (rd r) i) := by
  unfold cE
  rw [if_neg (by omega), if_pos (by omega), if_neg (by omega), if_neg (by omega), show (3 + 10 * r + i - 1) / 10 = r by omega, show (3 + 10 * r + i - 1) % 10 - 2 = i by omega]
theorem cE_tp : cE cy ad rd ke tb t1 t2 t3 t4 t5 sb ss sw fd 31 = .inr (2, [.ref (ad 32), .int t1, .int t2, .int t3, .int t4, .int t5]) := rfl
theorem cE_by : cE cy ad rd ke tb t1 t2 t3 t4 t5 sb ss sw fd 32 = .inl (cy 3, (120, .inl tb)) := rfl
theorem cE_sa : cE cy ad rd ke tb t1 t2 t3 t4 t5 sb ss sw fd 33 = .inl (cy 4, (4, .inr (.inr (.inr (.inr (fun i => some (ad (34 + 2 * i)))))))) := rfl
theorem cE_fd : cE cy ad rd ke tb t1 t2 t3 t4 t5 sb ss sw fd 42 = .inl (cy 0, (7, .inl fd)) := rfl
theorem cE_sh {x : Nat} (hx : x < 4) : cE cy ad rd ke tb t1 t2 t3 t4 t5 sb ss sw fd (34 + 2 * x) = .inr (1, [.ref (ad (35 + 2 * x)), .int (sb x), .int (ss x)]) := by
  unfold cE
  rw [if_neg (by omega), if_neg (by omega), if_neg (by omega), if_neg (by omega), if_neg (by omega), if_neg (by omega), if_pos (by omega), show (34 + 2 * x - 34) / 2 = x by omega]
theorem cE_sr {x : Nat} (hx : x < 4) : cE cy ad rd ke tb t1 t2 t3 t4 t5 sb ss sw fd (35 + 2 * x) = .inl (cy 1, (40, .inr (.inl (sw x)))) := by
  unfold cE
  rw [if_neg (by omega), if_neg (by omega), if_neg (by omega), if_neg (by omega), if_neg (by omega), if_neg (by omega), if_neg (by omega), show (35 + 2 * x - 34) / 2 = x by omega]
/-- a field, of one's own class or of a nest mate's -/
abbrev fLk (own : String) (idx : Nat) (ref nm ds : String) (args : Array Value) (s : State) : Prop := (Cond.fieldLink own idx ref nm ds).before args s = true ∨ va_Nw (.fieldLinkNest own idx ref nm ds "PennyRoad") s
theorem c_get {C : String} {T : u_T} {N ci : Nat} (hx : p.tables.exec = Jvm.exec) (hb : c.code = cc) (hts : ∀ w ∈ Ts, w.before args s = true) (hin : ∀ w ∈ u_ws C T N, w ∈ Ts) (hown : s.vm.findClass own = some m.cls) (hK : cK D cy ad s) (hP : va_P D vwCl (cw cy ad rd ke tb t1 t2 t3 t4 t5 sb ss sw fd) H) (k : Nat) (hk : k < 43) {fs : List Value} (he : cE cy ad rd ke tb t1 t2 t3 t4 t5 sb ss sw fd k = .inr (ci, fs)) (hc : vwCl[ci]? = some (C, T, N)) (j : Nat) (hj : j < N) (hlink : fLk own idx (T j).1 (T j).2.1 (T j).2.2.1 args s) {v : Value} (hv : fs[j]? = some v) (hdg : decode cc pc = .ok (.getfield idx, 3))
    (kk : W p l e R s m args below meth c H locs cells slots Q (F0 m (pc + 3) ls (v :: rest))) : W p l e R s m args below meth c H locs cells slots Q (F0 m pc ls (.ref (ad k) :: rest)) := by
  have hat := c_at (cy := cy) (ad := ad) (rd := rd) (ke := ke) (tb := tb) (t1 := t1) (t2 := t2) (t3 := t3) (t4 := t4) (t5 := t5) (sb := sb) (ss := ss) (sw := sw) (fd := fd) hk
  rw [he] at hat
  rcases hlink with h | h
  · exact va_get (D := D) (ci := ci) (C := C) (T := T) (N := N) hx hb hts hin hown hK.1 hP k hat hc j hj h (fun _ q => q) hv hdg kk
  · exact va_getN (D := D) (ci := ci) (C := C) (T := T) (N := N) hx hb hts hin hown hK.1 hP k hat hc j hj (va_Nw.use rfl h) (fun _ q => q) hv hdg kk
theorem c_put {C : String} {T : u_T} {N ci : Nat} (hx : p.tables.exec = Jvm.exec) (hb : c.code = cc) (hts : ∀ w ∈ Ts, w.before args s = true) (hin : ∀ w ∈ u_ws C T N, w ∈ Ts) (ty0 : Nat → FieldType) (hty : ∀ k, k < N → parseFieldDescriptor (T k).2.2.1 = some (ty0 k)) (hnm : ∀ a, a < N → ∀ b, b < N → a ≠ b → (T a).2.1 ≠ (T b).2.1) (hown : s.vm.findClass own = some m.cls) (hK : cK D cy ad s) (hP : va_P D vwCl (cw cy ad rd ke tb t1 t2 t3 t4 t5 sb ss sw fd) H) (hS : va_S (cA ad) H0 H locs) (k : Nat) (hk : k < 43) {fs : List Value} (he : cE cy ad rd ke tb t1 t2 t3 t4 t5 sb ss sw fd k = .inr (ci, fs)) (hc : vwCl[ci]? = some (C, T, N)) (j : Nat) (hj : j < N) (hlink : fLk own idx (T j).1 (T j).2.1 (T j).2.2.1 args s) {v : Value} {ty : FieldType} (hfin : (T j).2.2.2 = false) (hd : parseFieldDescriptor (T j).2.2.1 = some ty) (hn : narrow ty v = v) (hfit : fits ty v = true) (hl : j < fs.length)
    (hw : (cw cy ad rd ke tb t1 t2 t3 t4 t5 sb ss sw fd).set k (ad k, .inr (ci, fs.set j v)) = w') (hdg : decode cc pc = .ok (.putfield idx, 3))
    (kk : ∀ (H1 : Heap) (locs1 : List Loc), va_P D vwCl w' H1 → va_S (cA ad) H0 H1 locs1 → W p l e R s m args below meth c H1 locs1 cells slots Q (F0 m (pc + 3) ls rest)) : W p l e R s m args below meth c H locs cells slots Q (F0 m pc ls (v :: .ref (ad k) :: rest)) := by
  have hat := c_at (cy := cy) (ad := ad) (rd := rd) (ke := ke) (tb := tb) (t1 := t1) (t2 := t2) (t3 := t3) (t4 := t4) (t5 := t5) (sb := sb) (ss := ss) (sw := sw) (fd := fd) hk
  rw [he] at hat
  rcases hlink with h | h
  · exact va_put (D := D) (ci := ci) (C := C) (T := T) (N := N) (ty := ty) hx hb hts hin ty0 hty hnm hown hK.1 hP (c_D hK.2.1) hS k hat hc j hj h (fun _ q => q) hfin hd hn hfit hl hdg (fun H1 locs1 hP1 _ hS1 => kk H1 locs1 (hw ▸ hP1) hS1)
  · exact va_putN (D := D) (ci := ci) (C := C) (T := T) (N := N) (ty := ty) hx hb hts hin ty0 hty hnm hown hK.1 hP (c_D hK.2.1) hS k hat hc j hj (va_Nw.use rfl h) (fun _ q => q) hfin hd hn hfit hl hdg (fun H1 locs1 hP1 _ hS1 => kk H1 locs1 (hw ▸ hP1) hS1)
theorem c_rec {C : String} {T : u_T} {N ci : Nat} (hK : cK D cy ad s) (hP : va_P D vwCl (cw cy ad rd ke tb t1 t2 t3 t4 t5 sb ss sw fd) H) (k : Nat) (hk : k < 43) {fs : List Value} (he : cE cy ad rd ke tb t1 t2 t3 t4 t5 sb ss sw fd k = .inr (ci, fs)) (hc : vwCl[ci]? = some (C, T, N)) : ∃ cell : Cell, H[ad k]? = some cell ∧ cell.vm.isStatics = false ∧ s.vm.findClass C = some cell.cls := by
  have hat := c_at (cy := cy) (ad := ad) (rd := rd) (ke := ke) (tb := tb) (t1 := t1) (t2 := t2) (t3 := t3) (t4 := t4) (t5 := t5) (sb := sb) (ss := ss) (sw := sw) (fd := fd) hk
  rw [he] at hat
  exact va_recv hK.1 hP hc hat
theorem c_aldW (hx : p.tables.exec = Jvm.exec) (hb : c.code = cc) (hK : cK D cy ad s) (hP : va_P D vwCl (cw cy ad rd ke tb t1 t2 t3 t4 t5 sb ss sw fd) H) (r : Nat) {i : Nat} (hr : r < 3) (hi : i < 8) (hdg : decode cc pc = .ok (.aaload, 1))
    (kk : W p l e R s m args below meth c H locs cells slots Q (F0 m (pc + 1) ls (.ref (ad (3 + 10 * r + i)) :: rest))) : W p l e R s m args below meth c H locs cells slots Q (F0 m pc ls (.int (nI i) :: .ref (ad (2 + 10 * r)) :: rest)) := by
  have hat := c_at (cy := cy) (ad := ad) (rd := rd) (ke := ke) (tb := tb) (t1 := t1) (t2 := t2) (t3 := t3) (t4 := t4) (t5 := t5) (sb := sb) (ss := ss) (sw := sw) (fd := fd) (show 2 + 10 * r < 43 by omega)
  rw [cE_ar hr] at hat
  exact va_aldq hx hb hK.1 hP (2 + 10 * r) 2 hat rfl (vp_in_nI hi (by decide)) hdg (by rw [nI_clamp (by omega)]; exact kk)
theorem c_aldS (hx : p.tables.exec = Jvm.exec) (hb : c.code = cc) (hK : cK D cy ad s) (hP : va_P D vwCl (cw cy ad rd ke tb t1 t2 t3 t4 t5 sb ss sw fd) H) {i : Nat} (hi : i < 4) (hdg : decode cc pc = .ok (.aaload, 1))
    (kk : W p l e R s m args below meth c H locs cells slots Q (F0 m (pc + 1) ls (.ref (ad (34 + 2 * i)) :: rest))) : W p l e R s m args below meth c H locs cells slots Q (F0 m pc ls (.int (nI i) :: .ref (ad 33) :: rest)) :=
  va_aldq hx hb hK.1 hP 33 4 (c_at (by decide)) rfl (vp_in_nI hi (by decide)) hdg (by rw [nI_clamp (by omega)]; exact kk)
theorem c_aldF (hx : p.tables.exec = Jvm.exec) (hb : c.code = cc) (hK : cK D cy ad s) (hP : va_P D vwCl (cw cy ad rd ke tb t1 t2 t3 t4 t5 sb ss sw fd) H) {i : Nat} (hi : i < 7) (hdg : decode cc pc = .ok (.iaload, 1))
    (kk : W p l e R s m args below meth c H locs cells slots Q (F0 m (pc + 1) ls (.int (fd i) :: rest))) : W p l e R s m args below meth c H locs cells slots Q (F0 m pc ls (.int (nI i) :: .ref (ad 42) :: rest)) :=
  va_iald hx hb hK.1 hP 42 0 (c_at (by decide)) rfl (vp_in_nI hi (by decide)) hdg (by rw [nI_clamp (by omega)]; exact kk)
theorem c_aldB (hx : p.tables.exec = Jvm.exec) (hb : c.code = cc) (hK : cK D cy ad s) (hP : va_P D vwCl (cw cy ad rd ke tb t1 t2 t3 t4 t5 sb ss sw fd) H) {i : Nat} (hi : i < 120) (hdg : decode cc pc = .ok (.baload, 1))
    (kk : W p l e R s m args below meth c H locs cells slots Q (F0 m (pc + 1) ls (.int (tb i) :: rest))) : W p l e R s m args below meth c H locs cells slots Q (F0 m pc ls (.int (nI i) :: .ref (ad 32) :: rest)) :=
  va_bald hx hb hK.1 hP 32 3 (c_at (by decide)) rfl (vp_in_nI hi (by decide)) hdg (by rw [nI_clamp (by omega)]; exact kk)
theorem c_aldL (hx : p.tables.exec = Jvm.exec) (hb : c.code = cc) (hK : cK D cy ad s) (hP : va_P D vwCl (cw cy ad rd ke tb t1 t2 t3 t4 t5 sb ss sw fd) H) (x : Nat) {i : Nat} (hx4 : x < 4) (hi : i < 40) (hdg : decode cc pc = .ok (.laload, 1))
    (kk : W p l e R s m args below meth c H locs cells slots Q (F0 m (pc + 1) ls (.long (sw x i) :: rest))) : W p l e R s m args below meth c H locs cells slots Q (F0 m pc ls (.int (nI i) :: .ref (ad (35 + 2 * x)) :: rest)) := by
  have hat := c_at (cy := cy) (ad := ad) (rd := rd) (ke := ke) (tb := tb) (t1 := t1) (t2 := t2) (t3 := t3) (t4 := t4) (t5 := t5) (sb := sb) (ss := ss) (sw := sw) (fd := fd) (show 35 + 2 * x < 43 by omega)
  rw [cE_sr hx4] at hat
  exact va_lald hx hb hK.1 hP (35 + 2 * x) 1 hat rfl (vp_in_nI hi (by decide)) hdg (by rw [nI_clamp (by omega)]; exact kk)
end CW
