/-! the class's words: String constants, what the JDK's own methods answer of them -/
def tgL : List Nat := [6, 6, 5, 4, 5, 7, 2, 4, 6, 4, 5, 4, 3]
def tgB : List (List Int32) := [[119, 97, 108, 107, 101, 114], [112, 101, 100, 108, 97, 114], [108, 111, 118, 101, 114], [108, 97, 109, 101], [99, 104, 101, 97, 116], [112, 105, 108, 103, 114, 105, 109], [97, 116], [100, 111, 119, 110], [114, 101, 97, 115, 111, 110], [102, 117, 110, 100], [112, 101, 110, 110, 121], [114, 97, 105, 110], [100, 114, 121]]
def tgX : List Nat := [111, 101, 103, 105, 107, 109, 78, 85, 90, 46, 60, 64, 68]
def tgT : List String := ["walker", "pedlar", "lover", "lame", "cheat", "pilgrim", "at", "down", "reason", "fund", "penny", "rain", "dry"]
def tgC (i k : Nat) : Int32 := (tgB.getD i []).getD k 0 &&& 255
def tgN (i : Nat) : Nat := tgL.getD i 0
theorem tgN_le : ∀ i, i < 13 → tgN i ≤ 7 := by decide +kernel
def tG (A : Nat → Prop) (kS vS : Nat → Nat) (U : State) : Prop := vk_S 13 tgL tgB kS vS A U U.heap ∧ va_Z "java/lang/String" "COMPACT_STRINGS" "Z" (.int 1) A U U.heap ∧ va_Zq "jdk/internal/util/Preconditions" "SIOOBE_FORMATTER" "Ljava/util/function/BiFunction;" A U U.heap ∧ ∀ i, i < 13 → vk_R RX2 (tgX.getD i 0) (tgT.getD i "") (kS i) U
theorem tG_go {A : Nat → Prop} {kS vS : Nat → Nat} {s U : State} {locs : List Loc} (hW : s.WarmedH U.vm) (hS : va_S A s.heap U.heap locs) (h : tG A kS vS s) : tG A kS vS U :=
  ⟨(vk_S.moved hW.alike h.1).kept hS.2.1, (va_Z.moved hW.alike h.2.1).kept hS.2.1, (va_Zq.moved hW.alike h.2.2.1).kept hS.2.1, fun i hi => (h.2.2.2 i hi).warm hW⟩
theorem tG_calling {A : Nat → Prop} {kS vS : Nat → Nat} {U : State} {g : JFrame} {mk : MethodId} {a : Array Value} (h : tG A kS vS U) : tG A kS vS (U.calling g mk a) :=
  ⟨vk_S.moved (u := U) (U := U.calling g mk a) (Vm.Alike.refl U.vm) h.1, va_Z.moved (u := U) (U := U.calling g mk a) (Vm.Alike.refl U.vm) h.2.1, va_Zq.moved (u := U) (U := U.calling g mk a) (Vm.Alike.refl U.vm) h.2.2.1, fun i hi => (h.2.2.2 i hi).same (U := U.calling g mk a) rfl⟩
def jPre (A : Nat → Prop) (kS vS : Nat → Nat) (av : List Value) : Array Value → State → Prop := fun v U => v = av.toArray ∧ tG A kS vS U
theorem jPre_blind {A : Nat → Prop} {kS vS : Nat → Nat} {av : List Value} : FrameBlind (jPre A kS vS av) := fun _ _ _ _ h => ⟨h.1, tG_calling h.2⟩
def tPre (D : va_G) (cy : Nat → ClassId) (ad : Nat → Nat) (kS vS : Nat → Nat) (w : va_W) (av : List Value) : Array Value → State → Prop := fun v U => v = av.toArray ∧ va_P D vwCl w U.heap ∧ cK D cy ad U ∧ tG (cA ad) kS vS U
theorem tPre_blind {D : va_G} {cy : Nat → ClassId} {ad : Nat → Nat} {kS vS : Nat → Nat} {w : va_W} {av : List Value} : FrameBlind (tPre D cy ad kS vS w av) := fun a U g mk h => ⟨h.1, h.2.1, cK_ok.2 a U g mk h.2.2.1, tG_calling h.2.2.2⟩
section JQ
variable {p : Program} {l : Launch} {e : Env} {R : Room} {s : State} {m : MethodId} {args : Array Value} {below : List Frame} {meth : Method} {c : Code} {H : Heap} {locs : List Loc} {cells slots : Nat} {Q : State → Prop}
variable {cc bytes : ByteArray} {nL maxL index n f lo pc : Nat} {Ts ws : List Cond} {own host C : String} {y : MethodName} {ret : Option FieldType} {As rest st0 st1 : List Value} {rv : Option Value} {ls : Array Slot} {D : va_G} {w w' : va_W} {A : Nat → Prop} {H0 : Heap} {b : Nat} {kS vS : Nat → Nat} {cy : Nat → ClassId} {ad : Nat → Nat}
theorem jq_S (S : CallFix p m c cc nL s args Ts own) (hT : tG A kS vS s) (hS : va_S A s.heap H locs) (hM : Met l y ws (rmz f lo) (jPre A kS vS As) (sPost rv) 0 0 (fun _ => False)) (hG : GoodIn Ts (va_wsS own index y ws)) (hc : ciOk y bytes maxL ret ws n)
    (hR : f + 1 ≤ R.frames ∧ 8 + (maxL + 11) + lo ≤ R.locals) (hn : As.length = n) (hsz : ls.size = nL) (hst : st0 = As.reverse ++ rest) (hst1 : rv.toList ++ rest = st1) (hcat : (rest.map fun v => v.category).sum ≤ 8) (hf : cells ≤ R.cells ∧ slots ≤ R.slots) (hdg : decode cc pc = .ok (.invokestatic index, 3))
    (kk : W p l e R s m args below meth c H locs cells slots Q (F0 m (pc + 3) ls st1)) : W p l e R s m args below meth c H locs cells slots Q (F0 m pc ls st0) := by
  obtain ⟨⟨ws', hw⟩, hd⟩ := hc
  subst hst1
  have hr := va_runS (H := H) (locs := locs) (cells := cells) (slots := slots) (below := below) (meth := meth) (e := e) (R := R) S hM (va_cwS n S.2.2.2.2 hG hw rfl rfl hd hR) ⟨jPre_blind, fun U hU hW => ⟨rfl, tG_go hW (by rw [hU]; exact hS) hT⟩⟩ (g := F0 m pc ls st0) rfl hn hsz hst (lv_room hcat) hdg hf
  intro T hT X
  obtain ⟨v, st₀, t, T', L, h0, X', hL, e1, e2, ⟨hv, hh⟩, st⟩ := hr T hT X
  cases hv
  obtain ⟨t2, a1, b1⟩ := kk T' (by rw [e1, hh, h0]) (Stand.forget X' (fun q h => (hL q h).elim))
  exact ⟨t2, st t2 a1, b1⟩
theorem jq_V (S : CallFix p m c cc nL s args Ts own) (hT : tG A kS vS s) (hS : va_S A s.heap H locs) (hM : Met l y ws (rmz f lo) (jPre A kS vS (.ref b :: As)) (sPost rv) 0 0 (fun _ => False)) (hG : GoodIn Ts (wsV own index C y ws)) (hc : ciOk y bytes maxL ret ws n) (hy : y.cls = C)
    (hrec : ∃ cell : Cell, H[b]? = some cell ∧ cell.vm.isStatics = false ∧ s.vm.findClass C = some cell.cls)
    (hR : f + 1 ≤ R.frames ∧ 8 + (maxL + 11) + lo ≤ R.locals) (hn : As.length = n) (hsz : ls.size = nL) (hst : st0 = As.reverse ++ .ref b :: rest) (hst1 : rv.toList ++ rest = st1) (hcat : (rest.map fun v => v.category).sum ≤ 8) (hf : cells ≤ R.cells ∧ slots ≤ R.slots) (hdg : decode cc pc = .ok (.invokevirtual index, 3))
    (kk : W p l e R s m args below meth c H locs cells slots Q (F0 m (pc + 3) ls st1)) : W p l e R s m args below meth c H locs cells slots Q (F0 m pc ls st0) := by
  obtain ⟨⟨ws', hw⟩, hd⟩ := hc
  subst hst1
  have hr := va_runV (H := H) (locs := locs) (cells := cells) (slots := slots) (below := below) (meth := meth) (e := e) (R := R) S hM (cwV n S.2.2.2.2 hG hw rfl rfl ⟨hy, hd⟩ hR) ⟨jPre_blind, hrec, fun U hU hW => ⟨rfl, tG_go hW (by rw [hU]; exact hS) hT⟩⟩ (g := F0 m pc ls st0) rfl hn hsz hst (lv_room hcat) hdg hf
  intro T hT X
  obtain ⟨v, st₀, t, T', L, h0, X', hL, e1, e2, ⟨hv, hh⟩, st⟩ := hr T hT X
  cases hv
  obtain ⟨t2, a1, b1⟩ := kk T' (by rw [e1, hh, h0]) (Stand.forget X' (fun q h => (hL q h).elim))
  exact ⟨t2, st t2 a1, b1⟩
theorem tq_V (S : CallFix p m c cc nL s args Ts own) (hK : cK D cy ad s) (hT : tG (cA ad) kS vS s) (hP : va_P D vwCl w H) (hS : va_S (cA ad) s.heap H locs) (hM : Met l y ws (rmz f lo) (tPre D cy ad kS vS w (.ref b :: As)) (wPost D w' rv (cA ad)) 0 0 (cA ad)) (hG : GoodIn Ts (wsV own index C y ws)) (hc : ciOk y bytes maxL ret ws n) (hy : y.cls = C)
    (hrec : ∃ cell : Cell, H[b]? = some cell ∧ cell.vm.isStatics = false ∧ s.vm.findClass C = some cell.cls)
    (hR : f + 1 ≤ R.frames ∧ 8 + (maxL + 11) + lo ≤ R.locals) (hn : As.length = n) (hsz : ls.size = nL) (hst : st0 = As.reverse ++ .ref b :: rest) (hst1 : rv.toList ++ rest = st1) (hcat : (rest.map fun v => v.category).sum ≤ 8) (hf : cells ≤ R.cells ∧ slots ≤ R.slots) (hdg : decode cc pc = .ok (.invokevirtual index, 3))
    (kk : ∀ (H1 : Heap) (locs1 : List Loc), va_P D vwCl w' H1 → va_S (cA ad) s.heap H1 locs1 → W p l e R s m args below meth c H1 locs1 cells slots Q (F0 m (pc + 3) ls st1)) : W p l e R s m args below meth c H locs cells slots Q (F0 m pc ls st0) := by
  obtain ⟨⟨ws', hw⟩, hd⟩ := hc
  subst hst1
  exact wq_run (va_runV S hM (cwV n S.2.2.2.2 hG hw rfl rfl ⟨hy, hd⟩ hR) ⟨tPre_blind, hrec, fun U hU hW => ⟨rfl, by rw [hU]; exact hP, cK_ok.1 s U hW hK, tG_go hW (by rw [hU]; exact hS) hT⟩⟩ (g := F0 m pc ls st0) rfl hn hsz hst (lv_room hcat) hdg hf) hS kk
theorem tq_VN (S : CallFix p m c cc nL s args Ts own) (hK : cK D cy ad s) (hT : tG (cA ad) kS vS s) (hP : va_P D vwCl w H) (hS : va_S (cA ad) s.heap H locs) (hM : Met l y ws (rmz f lo) (tPre D cy ad kS vS w (.ref b :: As)) (wPost D w' rv (cA ad)) 0 0 (cA ad)) (hG : GoodIn Ts ws) (hc : ciOk y bytes maxL ret ws n)
    (hN : va_Nw (.methodLinkNest own index y host) s) (hini : (Cond.initialized y.cls).before args s = true) (hins : (Cond.instanceMethod y).before args s = true) (hsel : (Cond.selects C y y).before args s = true)
    (hrec : ∃ cell : Cell, H[b]? = some cell ∧ cell.vm.isStatics = false ∧ s.vm.findClass C = some cell.cls)
    (hR : f + 1 ≤ R.frames ∧ 8 + (maxL + 11) + lo ≤ R.locals) (hn : As.length = n) (hsz : ls.size = nL) (hst : st0 = As.reverse ++ .ref b :: rest) (hst1 : rv.toList ++ rest = st1) (hcat : (rest.map fun v => v.category).sum ≤ 8) (hf : cells ≤ R.cells ∧ slots ≤ R.slots) (hdg : decode cc pc = .ok (.invokevirtual index, 3))
    (kk : ∀ (H1 : Heap) (locs1 : List Loc), va_P D vwCl w' H1 → va_S (cA ad) s.heap H1 locs1 → W p l e R s m args below meth c H1 locs1 cells slots Q (F0 m (pc + 3) ls st1)) : W p l e R s m args below meth c H locs cells slots Q (F0 m pc ls st0) := by
  obtain ⟨⟨ws', hw⟩, hd⟩ := hc
  subst hst1
  exact wq_run (va_runVN S hM ⟨va_cnB n S.2.2.2.2 hG hw rfl rfl hN hini hd hR, hins, hsel⟩ ⟨tPre_blind, hrec, fun U hU hW => ⟨rfl, by rw [hU]; exact hP, cK_ok.1 s U hW hK, tG_go hW (by rw [hU]; exact hS) hT⟩⟩ (g := F0 m pc ls st0) rfl hn hsz hst (lv_room hcat) hdg hf) hS kk
theorem sq_rt {v : Int32} {ty : FieldType} (hx : p.tables.exec = Jvm.exec) (hb : c.code = cc) (hr : meth.sig.returnType = some ty) (hlocks : meth.locks = false) (hdg : decode cc pc = .ok (.ireturn, 1)) (hn : narrow ty (.int v) = .int v) (hv : rv = some (.int v)) : W p l e R s m args below meth c s.heap [] 0 0 (MQ below (sPost rv) args s 0 0 (fun _ => False)) (F0 m pc ls [.int v]) :=
  W.zret hx hb hr hn (fun t ht _ => ⟨by rw [hv], ht⟩) (fun _ h => by cases h) hdg hlocks
theorem sq_rv (hx : p.tables.exec = Jvm.exec) (hb : c.code = cc) (hr : meth.sig.returnType = none) (hlocks : meth.locks = false) (hdg : decode cc pc = .ok (.return_, 1)) (hv : rv = none) : W p l e R s m args below meth c s.heap [] 0 0 (MQ below (sPost rv) args s 0 0 (fun _ => False)) (F0 m pc ls []) :=
  W.vret hx hb hr (fun t ht _ => ⟨by rw [hv], ht⟩) (fun _ h => by cases h) hdg hlocks
theorem sq_ra {v : Nat} {C : String} (hx : p.tables.exec = Jvm.exec) (hb : c.code = cc) (hr : meth.sig.returnType = some (.object C)) (hlocks : meth.locks = false) (hdg : decode cc pc = .ok (.areturn, 1)) (hv : rv = some (.ref v)) : W p l e R s m args below meth c s.heap [] 0 0 (MQ below (sPost rv) args s 0 0 (fun _ => False)) (F0 m pc ls [.ref v]) :=
  W.aret hx hb hr (Or.inl ⟨_, rfl⟩) (Or.inr ⟨_, rfl⟩) (fun t ht _ => ⟨by rw [hv], ht⟩) (fun _ h => by cases h) hdg hlocks
end JQ
theorem jq_entry {l : Launch} {y : MethodName} {ws : List Cond} {rm : Room} {cc : ByteArray} {maxL : Nat} {ret : Option FieldType} {ws' : List Cond} {av : List Value} {Qc : Array Value → State → Outcome → State → Prop} {free : Addr → Prop} {A : Nat → Prop} {kS vS : Nat → Nat} (hy : plainName y.cls = true) (hw : ws = Cond.code y cc maxL ret :: ws') (hlen : (lg_sl av).length ≤ maxL)
    (body : ∀ (p : Program) (e : Env) (s : State) (m : MethodId) (args : Array Value) (below : List Frame) (meth : Method) (c : Code), CallFix p m c cc maxL s args ws y.cls → meth.sig.returnType = ret → meth.locks = false → tG A kS vS s → ∀ ls : Array Slot, lv_has ls maxL (lv_args 0 av) → W p l e rm s m args below meth c s.heap [] 0 0 (MQ below Qc args s 0 0 free) (F0 m 0 ls [])) : Met l y ws rm (jPre A kS vS av) Qc 0 0 free := by
  refine Met.ofW hy hw ?_
  intro p e s m args below meth c s₁ B hml hv
  obtain ⟨hv, hT⟩ := hv
  subst hv
  rw [lg_entry_eq]
  exact body p e s m _ below meth c ⟨B.exec, B.bytes, hml, findClass_of_methodNamed B.named, atoms_spec (ws := ws) B.pre⟩ B.returns B.notSynchronized hT _ (lv_entry av hlen)
theorem tq_entry {l : Launch} {y : MethodName} {ws : List Cond} {rm : Room} {cc : ByteArray} {maxL : Nat} {ret : Option FieldType} {ws' : List Cond} {av : List Value} {Qc : Array Value → State → Outcome → State → Prop} {free : Addr → Prop} {D : va_G} {cy : Nat → ClassId} {ad : Nat → Nat} {kS vS : Nat → Nat} {w : va_W} (hy : plainName y.cls = true) (hw : ws = Cond.code y cc maxL ret :: ws') (hlen : (lg_sl av).length ≤ maxL)
    (body : ∀ (p : Program) (e : Env) (s : State) (m : MethodId) (args : Array Value) (below : List Frame) (meth : Method) (c : Code), CallFix p m c cc maxL s args ws y.cls → meth.sig.returnType = ret → meth.locks = false → cK D cy ad s → tG (cA ad) kS vS s → va_P D vwCl w s.heap → ∀ ls : Array Slot, lv_has ls maxL (lv_args 0 av) → W p l e rm s m args below meth c s.heap [] 0 0 (MQ below Qc args s 0 0 free) (F0 m 0 ls [])) : Met l y ws rm (tPre D cy ad kS vS w av) Qc 0 0 free := by
  refine Met.ofW hy hw ?_
  intro p e s m args below meth c s₁ B hml hv
  obtain ⟨hv, hP, hK, hT⟩ := hv
  subst hv
  rw [lg_entry_eq]
  exact body p e s m _ below meth c ⟨B.exec, B.bytes, hml, findClass_of_methodNamed B.named, atoms_spec (ws := ws) B.pre⟩ B.returns B.notSynchronized hK hT hP _ (lv_entry av hlen)
section JDK
variable {l : Launch} {A : Nat → Prop} {kS vS : Nat → Nat}
theorem i_J0_coder : ciOk yJ0_coder_7d493 cJ0_coder_7d493 1 (some .byte) wsJ0_coder_7d493 0 := ⟨⟨_, rfl⟩, by decide +kernel⟩
theorem i_J0_isLatin1 : ciOk yJ0_isLatin1_aae02 cJ0_isLatin1_aae02 1 (some .boolean) wsJ0_isLatin1_aae02 0 := ⟨⟨_, rfl⟩, by decide +kernel⟩
theorem i_J0_length : ciOk yJ0_length_8abf5 cJ0_length_8abf5 1 (some .int) wsJ0_length_8abf5 0 := ⟨⟨_, rfl⟩, by decide +kernel⟩
theorem i_J0_charAt : ciOk yJ0_charAt_5068e cJ0_charAt_5068e 2 (some .char) wsJ0_charAt_5068e 1 := ⟨⟨_, rfl⟩, by decide +kernel⟩
theorem i_J0_checkIndex : ciOk yJ0_checkIndex_df160 cJ0_checkIndex_df160 2 none wsJ0_checkIndex_df160 2 := ⟨⟨_, rfl⟩, by decide +kernel⟩
theorem i_J1_charAt : ciOk yJ1_charAt_3b067 cJ1_charAt_3b067 2 (some .char) wsJ1_charAt_3b067 2 := ⟨⟨_, rfl⟩, by decide +kernel⟩
theorem i_J3_checkIndex : ciOk yJ3_checkIndex_8e157 cJ3_checkIndex_8e157 3 (some .int) wsJ3_checkIndex_8e157 3 := ⟨⟨_, rfl⟩, by decide +kernel⟩
set_option maxRecDepth 100000 in
theorem c_J0_coder {i : Nat} (hi : i < 13) : Met l yJ0_coder_7d493 wsJ0_coder_7d493 (rmz 0 0) (jPre A kS vS [.ref (kS i)]) (sPost (some (.int (nI 0)))) 0 0 (fun _ => False) := by
  refine jq_entry rfl rfl (Nat.le_of_ble_eq_true rfl) ?_
  intro p e s0 m args below meth c S hr hlocks hT ls hl
  have S : CallFix p m c cJ0_coder_7d493 1 s0 args wsJ0_coder_7d493 RJ0 := S
  obtain ⟨hx, hb, hml, hown, hts⟩ := id S
  have hS : va_S A s0.heap s0.heap [] := va_S.rf
  have hl : lv_has ls 1 [(0, .ref (kS i))] := hl
  refine va_gets hx hb hT.2.1 hS hown (hts (.fieldLink RJ0 38 "java/lang/String" "COMPACT_STRINGS" "Z") (by decide +kernel)) (fun _ h => h) dJ0_coder_7d493_0 ?_
  refine lv_if_eq (tgt := 13) hx hb dJ0_coder_7d493_3 (by decide) (fun h => absurd h (by decide)) (fun _ => ?_)
  refine lv_aload_n hx hb dJ0_coder_7d493_6 rfl (lv_at hl 0 rfl) ?_
  refine vk_getf hx hb (hT.1.1 i hi).2.1 hS hown (hts (.fieldLink RJ0 15 "java/lang/String" "coder" "B") (by decide +kernel)) (fun _ h => h) dJ0_coder_7d493_7 ?_
  refine lv_goto (tgt := 14) hx hb dJ0_coder_7d493_10 (by decide) ?_
  exact sq_rt hx hb hr hlocks dJ0_coder_7d493_14 rfl rfl
set_option maxRecDepth 100000 in
theorem c_J0_isLatin1 {i : Nat} (hi : i < 13) : Met l yJ0_isLatin1_aae02 wsJ0_isLatin1_aae02 (rmz 0 0) (jPre A kS vS [.ref (kS i)]) (sPost (some (.int (nI 1)))) 0 0 (fun _ => False) := by
  refine jq_entry rfl rfl (Nat.le_of_ble_eq_true rfl) ?_
  intro p e s0 m args below meth c S hr hlocks hT ls hl
  have S : CallFix p m c cJ0_isLatin1_aae02 1 s0 args wsJ0_isLatin1_aae02 RJ0 := S
  obtain ⟨hx, hb, hml, hown, hts⟩ := id S
  have hS : va_S A s0.heap s0.heap [] := va_S.rf
  have hl : lv_has ls 1 [(0, .ref (kS i))] := hl
  refine va_gets hx hb hT.2.1 hS hown (hts (.fieldLink RJ0 38 "java/lang/String" "COMPACT_STRINGS" "Z") (by decide +kernel)) (fun _ h => h) dJ0_isLatin1_aae02_0 ?_
  refine lv_if_eq (tgt := 17) hx hb dJ0_isLatin1_aae02_3 (by decide) (fun h => absurd h (by decide)) (fun _ => ?_)
  refine lv_aload_n hx hb dJ0_isLatin1_aae02_6 rfl (lv_at hl 0 rfl) ?_
  refine vk_getf hx hb (hT.1.1 i hi).2.1 hS hown (hts (.fieldLink RJ0 15 "java/lang/String" "coder" "B") (by decide +kernel)) (fun _ h => h) dJ0_isLatin1_aae02_7 ?_
  refine lv_if_ne (tgt := 17) hx hb dJ0_isLatin1_aae02_10 (by decide) (fun h => absurd rfl h) (fun _ => ?_)
  refine lv_iconst (v := nI 1) hx hb dJ0_isLatin1_aae02_13 (by decide) ?_
  refine lv_goto (tgt := 18) hx hb dJ0_isLatin1_aae02_14 (by decide) ?_
  exact sq_rt hx hb hr hlocks dJ0_isLatin1_aae02_18 rfl rfl
set_option maxRecDepth 100000 in
theorem c_J0_length {i : Nat} (hi : i < 13) : Met l yJ0_length_8abf5 wsJ0_length_8abf5 (rmz 1 20) (jPre A kS vS [.ref (kS i)]) (sPost (some (.int (nI (tgN i))))) 0 0 (fun _ => False) := by
  refine jq_entry rfl rfl (Nat.le_of_ble_eq_true rfl) ?_
  intro p e s0 m args below meth c S hr hlocks hT ls hl
  have S : CallFix p m c cJ0_length_8abf5 1 s0 args wsJ0_length_8abf5 RJ0 := S
  obtain ⟨hx, hb, hml, hown, hts⟩ := id S
  have hS : va_S A s0.heap s0.heap [] := va_S.rf
  have hl : lv_has ls 1 [(0, .ref (kS i))] := hl
  refine lv_aload_n hx hb dJ0_length_8abf5_0 rfl (lv_at hl 0 rfl) ?_
  refine vk_getf hx hb (hT.1.1 i hi).2.2.1 hS hown (hts (.fieldLink RJ0 9 "java/lang/String" "value" "[B") (by decide +kernel)) (fun _ h => h) dJ0_length_8abf5_1 ?_
  refine va_tlen hx hb (hT.1.1 i hi).2.2.2 hS (v := nI (tgN i)) rfl dJ0_length_8abf5_4 ?_
  refine lv_aload_n hx hb dJ0_length_8abf5_5 rfl (lv_at hl 0 rfl) ?_
  refine jq_V S hT hS (c_J0_coder hi) gJ0_length_8abf5_J0_coder_7d493 i_J0_coder rfl (vk_recv hT.1 hi hS) ⟨Nat.le_of_ble_eq_true rfl, Nat.le_of_ble_eq_true rfl⟩ rfl hl.1 (As := []) (rest := [.int (nI (tgN i))]) (st1 := [.int (nI 0), .int (nI (tgN i))]) rfl rfl (Nat.le_of_ble_eq_true rfl) ⟨Nat.le_of_ble_eq_true rfl, Nat.le_of_ble_eq_true rfl⟩ dJ0_length_8abf5_6 ?_
  refine lv_ishr hx hb dJ0_length_8abf5_9 ?_
  refine lv_top (show nI (tgN i) >>> (nI 0 &&& 31) = nI (tgN i) from sc_shr0 (by have := tgN_le i hi; omega)) ?_
  exact sq_ri hx hb hr hlocks dJ0_length_8abf5_10 rfl
set_option maxRecDepth 100000 in
theorem c_J3_checkIndex {k n : Nat} {v : Value} (hv : (v = .null) ∨ ∃ t, v = .ref t) (hk : k < n) (hn : n < 2 ^ 31) : Met l yJ3_checkIndex_8e157 wsJ3_checkIndex_8e157 (rmz 0 0) (sPre [.int (nI k), .int (nI n), v]) (sPost (some (.int (nI k)))) 0 0 (fun _ => False) := by
  refine sq_entry rfl rfl (by rcases hv with rfl | ⟨t, rfl⟩ <;> exact Nat.le_of_ble_eq_true rfl) ?_
  intro p e s0 m args below meth c S hr hlocks ls hl
  have S : CallFix p m c cJ3_checkIndex_8e157 3 s0 args wsJ3_checkIndex_8e157 RJ3 := S
  obtain ⟨hx, hb, hml, hown, hts⟩ := id S
  have hl : lv_has ls 3 [(0, .int (nI k)), (1, .int (nI n)), (2, v)] := hl
  refine lv_iload_n hx hb dJ3_checkIndex_8e157_0 rfl (lv_at hl 0 rfl) ?_
  refine lv_if_lt (tgt := 9) hx hb dJ3_checkIndex_8e157_1 (by decide) (fun h => absurd h (nI_pos (by omega))) (fun _ => ?_)
  refine lv_iload_n hx hb dJ3_checkIndex_8e157_4 rfl (lv_at hl 0 rfl) ?_
  refine lv_iload_n hx hb dJ3_checkIndex_8e157_5 rfl (lv_at hl 1 rfl) ?_
  refine lvn_icmp_lt (tgt := 16) hx hb dJ3_checkIndex_8e157_6 (by decide) (by omega) (by omega) (fun _ => ?_) (fun h => absurd hk h)
  refine lv_iload_n hx hb dJ3_checkIndex_8e157_16 rfl (lv_at hl 0 rfl) ?_
  exact sq_ri hx hb hr hlocks dJ3_checkIndex_8e157_17 rfl
set_option maxRecDepth 100000 in
theorem c_J0_checkIndex {k n : Nat} (hk : k < n) (hn : n < 2 ^ 31) : Met l yJ0_checkIndex_df160 wsJ0_checkIndex_df160 (rmz 1 22) (jPre A kS vS [.int (nI k), .int (nI n)]) (sPost none) 0 0 (fun _ => False) := by
  refine jq_entry rfl rfl (Nat.le_of_ble_eq_true rfl) ?_
  intro p e s0 m args below meth c S hr hlocks hT ls hl
  have S : CallFix p m c cJ0_checkIndex_df160 2 s0 args wsJ0_checkIndex_df160 RJ0 := S
  obtain ⟨hx, hb, hml, hown, hts⟩ := id S
  have hS : va_S A s0.heap s0.heap [] := va_S.rf
  have hl : lv_has ls 2 [(0, .int (nI k)), (1, .int (nI n))] := hl
  refine lv_iload_n hx hb dJ0_checkIndex_df160_0 rfl (lv_at hl 0 rfl) ?_
  refine lv_iload_n hx hb dJ0_checkIndex_df160_1 rfl (lv_at hl 1 rfl) ?_
  obtain ⟨v, hv, hZ⟩ : ∃ v : Value, ((v = .null) ∨ ∃ t, v = .ref t) ∧ va_Z "jdk/internal/util/Preconditions" "SIOOBE_FORMATTER" "Ljava/util/function/BiFunction;" v A s0 s0.heap := by
    rcases hT.2.2.1 with h | ⟨t, h⟩
    · exact ⟨_, Or.inl rfl, h⟩
    · exact ⟨_, Or.inr ⟨t, rfl⟩, h⟩
  refine va_gets hx hb hZ hS hown (hts (.fieldLink RJ0 1053 "jdk/internal/util/Preconditions" "SIOOBE_FORMATTER" "Ljava/util/function/BiFunction;") (by decide +kernel)) (fun _ h => h) dJ0_checkIndex_df160_2 ?_
  refine sq_S S (c_J3_checkIndex hv hk hn) gJ0_checkIndex_df160_J3_checkIndex_8e157 i_J3_checkIndex ⟨Nat.le_of_ble_eq_true rfl, Nat.le_of_ble_eq_true rfl⟩ rfl hl.1 (As := [.int (nI k), .int (nI n), v]) (rest := []) (st1 := [.int (nI k)]) rfl rfl (Nat.le_of_ble_eq_true rfl) ⟨Nat.le_of_ble_eq_true rfl, Nat.le_of_ble_eq_true rfl⟩ dJ0_checkIndex_df160_5 ?_
  refine lv_pop hx hb dJ0_checkIndex_df160_8 rfl ?_
  exact sq_rv hx hb hr hlocks dJ0_checkIndex_df160_9 rfl
set_option maxRecDepth 100000 in
theorem c_J1_charAt {i k : Nat} (hi : i < 13) (hk : k < tgN i) : Met l yJ1_charAt_3b067 wsJ1_charAt_3b067 (rmz 2 43) (jPre A kS vS [.ref (vS i), .int (nI k)]) (sPost (some (.int (tgC i k)))) 0 0 (fun _ => False) := by
  refine jq_entry rfl rfl (Nat.le_of_ble_eq_true rfl) ?_
  intro p e s0 m args below meth c S hr hlocks hT ls hl
  have S : CallFix p m c cJ1_charAt_3b067 2 s0 args wsJ1_charAt_3b067 RJ1 := S
  obtain ⟨hx, hb, hml, hown, hts⟩ := id S
  have hS : va_S A s0.heap s0.heap [] := va_S.rf
  have hl : lv_has ls 2 [(0, .ref (vS i)), (1, .int (nI k))] := hl
  have h7 := tgN_le i hi
  refine lv_iload_n hx hb dJ1_charAt_3b067_0 rfl (lv_at hl 1 rfl) ?_
  refine lv_aload_n hx hb dJ1_charAt_3b067_1 rfl (lv_at hl 0 rfl) ?_
  refine va_tlen hx hb (hT.1.1 i hi).2.2.2 hS (v := nI (tgN i)) rfl dJ1_charAt_3b067_2 ?_
  refine jq_S S hT hS (c_J0_checkIndex hk (by omega)) gJ1_charAt_3b067_J0_checkIndex_df160 i_J0_checkIndex ⟨Nat.le_of_ble_eq_true rfl, Nat.le_of_ble_eq_true rfl⟩ rfl hl.1 (As := [.int (nI k), .int (nI (tgN i))]) (rest := []) (st1 := []) rfl rfl (Nat.le_of_ble_eq_true rfl) ⟨Nat.le_of_ble_eq_true rfl, Nat.le_of_ble_eq_true rfl⟩ dJ1_charAt_3b067_3 ?_
  refine lv_aload_n hx hb dJ1_charAt_3b067_6 rfl (lv_at hl 0 rfl) ?_
  refine lv_iload_n hx hb dJ1_charAt_3b067_7 rfl (lv_at hl 1 rfl) ?_
  refine va_tb hx hb (hT.1.1 i hi).2.2.2 hS (vp_in_nI hk (show tgN i < 2 ^ 31 by omega)) (v := .int ((tgB.getD i []).getD k 0)) (by rw [nI_clamp (by omega)]) dJ1_charAt_3b067_8 ?_
  refine lv_sipush (v := 255) hx hb dJ1_charAt_3b067_9 (by decide) ?_
  refine lv_iand hx hb dJ1_charAt_3b067_12 ?_
  refine lv_i2c hx hb dJ1_charAt_3b067_13 (v := tgC i k) (sc_c2 _) ?_
  exact sq_rt hx hb hr hlocks dJ1_charAt_3b067_14 (sc_nar _) rfl
set_option maxRecDepth 100000 in
theorem c_J0_charAt {i k : Nat} (hi : i < 13) (hk : k < tgN i) : Met l yJ0_charAt_5068e wsJ0_charAt_5068e (rmz 3 64) (jPre A kS vS [.ref (kS i), .int (nI k)]) (sPost (some (.int (tgC i k)))) 0 0 (fun _ => False) := by
  refine jq_entry rfl rfl (Nat.le_of_ble_eq_true rfl) ?_
  intro p e s0 m args below meth c S hr hlocks hT ls hl
  have S : CallFix p m c cJ0_charAt_5068e 2 s0 args wsJ0_charAt_5068e RJ0 := S
  obtain ⟨hx, hb, hml, hown, hts⟩ := id S
  have hS : va_S A s0.heap s0.heap [] := va_S.rf
  have hl : lv_has ls 2 [(0, .ref (kS i)), (1, .int (nI k))] := hl
  refine lv_aload_n hx hb dJ0_charAt_5068e_0 rfl (lv_at hl 0 rfl) ?_
  refine jq_V S hT hS (c_J0_isLatin1 hi) gJ0_charAt_5068e_J0_isLatin1_aae02 i_J0_isLatin1 rfl (vk_recv hT.1 hi hS) ⟨Nat.le_of_ble_eq_true rfl, Nat.le_of_ble_eq_true rfl⟩ rfl hl.1 (As := []) (rest := []) (st1 := [.int (nI 1)]) rfl rfl (Nat.le_of_ble_eq_true rfl) ⟨Nat.le_of_ble_eq_true rfl, Nat.le_of_ble_eq_true rfl⟩ dJ0_charAt_5068e_1 ?_
  refine lv_if_eq (tgt := 16) hx hb dJ0_charAt_5068e_4 (by decide) (fun h => absurd h (by decide)) (fun _ => ?_)
  refine lv_aload_n hx hb dJ0_charAt_5068e_7 rfl (lv_at hl 0 rfl) ?_
  refine vk_getf hx hb (hT.1.1 i hi).2.2.1 hS hown (hts (.fieldLink RJ0 9 "java/lang/String" "value" "[B") (by decide +kernel)) (fun _ h => h) dJ0_charAt_5068e_8 ?_
  refine lv_iload_n hx hb dJ0_charAt_5068e_11 rfl (lv_at hl 1 rfl) ?_
  refine jq_S S hT hS (c_J1_charAt hi hk) gJ0_charAt_5068e_J1_charAt_3b067 i_J1_charAt ⟨Nat.le_of_ble_eq_true rfl, Nat.le_of_ble_eq_true rfl⟩ rfl hl.1 (As := [.ref (vS i), .int (nI k)]) (rest := []) (st1 := [.int (tgC i k)]) rfl rfl (Nat.le_of_ble_eq_true rfl) ⟨Nat.le_of_ble_eq_true rfl, Nat.le_of_ble_eq_true rfl⟩ dJ0_charAt_5068e_12 ?_
  exact sq_rt hx hb hr hlocks dJ0_charAt_5068e_15 (sc_nar _) rfl
theorem i_X2_nameOf : ciOk yX2_nameOf cX2_nameOf 1 (some (.object "java/lang/String")) wsX2_nameOf 1 := ⟨⟨_, rfl⟩, by decide +kernel⟩
set_option maxRecDepth 100000 in
theorem c_X2_nameOf {k : Nat} (hk : k < 6) : Met l yX2_nameOf wsX2_nameOf (rmz 0 0) (jPre A kS vS [.int (nI k)]) (sPost (some (.ref (kS k)))) 0 0 (fun _ => False) := by
  refine jq_entry rfl rfl (Nat.le_of_ble_eq_true rfl) ?_
  intro p e s0 m args below meth c S hr hlocks hT ls hl
  have S : CallFix p m c cX2_nameOf 1 s0 args wsX2_nameOf RX2 := S
  obtain ⟨hx, hb, hml, hown, hts⟩ := id S
  have hl : lv_has ls 1 [(0, .int (nI k))] := hl
  refine lv_iload_n hx hb dX2_nameOf_0 rfl (lv_at hl 0 rfl) ?_
  rcases (show k = 0 ∨ k = 1 ∨ k = 2 ∨ k = 3 ∨ k = 4 ∨ k = 5 by omega) with rfl | rfl | rfl | rfl | rfl | rfl
  · refine lv_tableOut (tgt := 51) hx hb dX2_nameOf_1 (Or.inl (by decide)) (by decide) ?_
    refine va_ldcS hx hb hown (show vk_R RX2 111 "walker" (kS 0) s0 from hT.2.2.2 0 (by decide)) dX2_nameOf_51 ?_
    exact sq_ra hx hb hr hlocks dX2_nameOf_53 rfl
  · refine lv_tableIn (tgt := 36) hx hb dX2_nameOf_1 (by decide) (by decide) rfl (by decide) ?_
    refine va_ldcS hx hb hown (show vk_R RX2 101 "pedlar" (kS 1) s0 from hT.2.2.2 1 (by decide)) dX2_nameOf_36 ?_
    exact sq_ra hx hb hr hlocks dX2_nameOf_38 rfl
  · refine lv_tableIn (tgt := 39) hx hb dX2_nameOf_1 (by decide) (by decide) rfl (by decide) ?_
    refine va_ldcS hx hb hown (show vk_R RX2 103 "lover" (kS 2) s0 from hT.2.2.2 2 (by decide)) dX2_nameOf_39 ?_
    exact sq_ra hx hb hr hlocks dX2_nameOf_41 rfl
  · refine lv_tableIn (tgt := 42) hx hb dX2_nameOf_1 (by decide) (by decide) rfl (by decide) ?_
    refine va_ldcS hx hb hown (show vk_R RX2 105 "lame" (kS 3) s0 from hT.2.2.2 3 (by decide)) dX2_nameOf_42 ?_
    exact sq_ra hx hb hr hlocks dX2_nameOf_44 rfl
  · refine lv_tableIn (tgt := 45) hx hb dX2_nameOf_1 (by decide) (by decide) rfl (by decide) ?_
    refine va_ldcS hx hb hown (show vk_R RX2 107 "cheat" (kS 4) s0 from hT.2.2.2 4 (by decide)) dX2_nameOf_45 ?_
    exact sq_ra hx hb hr hlocks dX2_nameOf_47 rfl
  · refine lv_tableIn (tgt := 48) hx hb dX2_nameOf_1 (by decide) (by decide) rfl (by decide) ?_
    refine va_ldcS hx hb hown (show vk_R RX2 109 "pilgrim" (kS 5) s0 from hT.2.2.2 5 (by decide)) dX2_nameOf_48 ?_
    exact sq_ra hx hb hr hlocks dX2_nameOf_50 rfl
end JDK
