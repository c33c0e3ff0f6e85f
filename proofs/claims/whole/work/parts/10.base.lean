abbrev vwCl : List vw_C := [(RX0, TX0, 6), (RX1, TX1, 3), (RX2, TX2, 6), (RX3, TX3, 8), (RX4, TX4, 7), (RX5, TX5, 16)]
/-! own rows: contracts in functional form. A static method that touches nothing: its answer; a method over a world: its answer and the new world -/
abbrev rmz (f lo : Nat) : Room := { frames := f, cells := 0, slots := 0, locals := lo }
def sPre (av : List Value) : Array Value → State → Prop := fun v _ => v = av.toArray
def sPost (rv : Option Value) : Array Value → State → Outcome → State → Prop := fun _ st oc t => oc = .returned rv ∧ t.heap = st.heap
def wPre (D : va_G) (K : State → Prop) (w : va_W) (av : List Value) : Array Value → State → Prop := fun v U => v = av.toArray ∧ va_P D vwCl w U.heap ∧ K U
def wPost (D : va_G) (w : va_W) (rv : Option Value) (A : Nat → Prop) : Array Value → State → Outcome → State → Prop := fun _ st oc t => oc = .returned rv ∧ va_P D vwCl w t.heap ∧ va_F A st t
def kOk (K : State → Prop) : Prop := (∀ s U : State, s.WarmedH U.vm → K s → K U) ∧ ∀ (a : Array Value) (U : State) (g : JFrame) (mk : MethodId), K U → K (U.calling g mk a)
def ciOk (y : MethodName) (bytes : ByteArray) (maxL : Nat) (ret : Option FieldType) (ws : List Cond) (n : Nat) : Prop := (∃ ws', ws = Cond.code y bytes maxL ret :: ws') ∧ y.cls ≠ "java/lang/invoke/MethodHandle" ∧ y.cls ≠ "java/lang/invoke/VarHandle" ∧ (parseMethodDescriptor y.desc).map (fun d => d.parameters.length) = some n
theorem sPre_blind {av : List Value} : FrameBlind (sPre av) := fun _ _ _ _ h => h
theorem wPre_blind {D : va_G} {K : State → Prop} {w : va_W} {av : List Value} (hK : kOk K) : FrameBlind (wPre D K w av) := fun a U g mk h => ⟨h.1, h.2.1, hK.2 a U g mk h.2.2⟩
section SQ
variable {p : Program} {l : Launch} {e : Env} {R : Room} {s : State} {m : MethodId} {args : Array Value} {below : List Frame} {meth : Method} {c : Code} {H : Heap} {locs : List Loc} {cells slots : Nat} {Q : State → Prop}
variable {cc bytes : ByteArray} {nL maxL index n f lo pc : Nat} {Ts ws : List Cond} {own host C : String} {y : MethodName} {ret : Option FieldType} {As rest st0 st1 : List Value} {rv : Option Value} {ls : Array Slot} {D : va_G} {K : State → Prop} {w w' : va_W} {A : Nat → Prop} {H0 : Heap} {b : Nat}
theorem sq_S (S : CallFix p m c cc nL s args Ts own) (hM : Met l y ws (rmz f lo) (sPre As) (sPost rv) 0 0 (fun _ => False)) (hG : GoodIn Ts (va_wsS own index y ws)) (hc : ciOk y bytes maxL ret ws n)
    (hR : f + 1 ≤ R.frames ∧ 8 + (maxL + 11) + lo ≤ R.locals) (hn : As.length = n) (hsz : ls.size = nL) (hst : st0 = As.reverse ++ rest) (hst1 : rv.toList ++ rest = st1) (hcat : (rest.map fun v => v.category).sum ≤ 8) (hf : cells ≤ R.cells ∧ slots ≤ R.slots) (hdg : decode cc pc = .ok (.invokestatic index, 3))
    (kk : W p l e R s m args below meth c H locs cells slots Q (F0 m (pc + 3) ls st1)) : W p l e R s m args below meth c H locs cells slots Q (F0 m pc ls st0) := by
  obtain ⟨⟨ws', hw⟩, hd⟩ := hc
  subst hst1
  have hr := W.runS (H := H) (locs := locs) (cells := cells) (slots := slots) (below := below) (meth := meth) (e := e) (R := R) S hM (va_cwS n S.2.2.2.2 hG hw rfl rfl hd hR) ⟨sPre_blind, fun U _ _ => rfl⟩ (g := F0 m pc ls st0) rfl hn hsz hst (lv_room hcat) hdg hf
  intro T hT X
  obtain ⟨v, st₀, t, T', L, h0, X', hL, e1, ⟨hv, hh⟩, st⟩ := hr T hT X
  cases hv
  obtain ⟨t2, a1, b1⟩ := kk T' (by rw [e1, hh, h0]) (Stand.forget X' (fun q h => (hL q h).elim))
  exact ⟨t2, st t2 a1, b1⟩
theorem wq_run (hr : va_Run p l e R s m args below meth c H locs cells slots 0 0 (F0 m pc ls st0) rest (wPost D w' rv A (Value.ref b :: As).toArray) A) (hS : va_S A H0 H locs)
    (kk : ∀ (H1 : Heap) (locs1 : List Loc), va_P D vwCl w' H1 → va_S A H0 H1 locs1 → W p l e R s m args below meth c H1 locs1 cells slots Q (F0 m (pc + 3) ls (rv.toList ++ rest))) : W p l e R s m args below meth c H locs cells slots Q (F0 m pc ls st0) := by
  intro T hT X
  obtain ⟨v, st₀, t, T', L, h0, X', hL, e1, e2, ⟨hv, hp, hz, hk⟩, st⟩ := hr T hT X
  cases hv
  rw [h0] at hz hk
  obtain ⟨t2, a1, b1⟩ := kk T'.heap (locs ++ L) (by rw [e1]; exact hp)
    ⟨Nat.le_trans hS.1 (by rw [e1]; exact hz), fun q h1 h2 => by rw [e1, hk q (Nat.lt_of_lt_of_le h1 hS.1) h2]; exact hS.2.1 q h1 h2, fun q hq => by
      rcases List.mem_append.mp hq with h | h
      · exact hS.2.2 q h
      · exact hL q h⟩ T' rfl X'
  exact ⟨t2, st t2 a1, b1⟩
theorem wq_V (S : CallFix p m c cc nL s args Ts own) (hKo : kOk K) (hK : K s) (hP : va_P D vwCl w H) (hS : va_S A H0 H locs) (hM : Met l y ws (rmz f lo) (wPre D K w (.ref b :: As)) (wPost D w' rv A) 0 0 A) (hG : GoodIn Ts (wsV own index C y ws)) (hc : ciOk y bytes maxL ret ws n) (hy : y.cls = C)
    (hrec : ∃ cell : Cell, H[b]? = some cell ∧ cell.vm.isStatics = false ∧ s.vm.findClass C = some cell.cls)
    (hR : f + 1 ≤ R.frames ∧ 8 + (maxL + 11) + lo ≤ R.locals) (hn : As.length = n) (hsz : ls.size = nL) (hst : st0 = As.reverse ++ .ref b :: rest) (hst1 : rv.toList ++ rest = st1) (hcat : (rest.map fun v => v.category).sum ≤ 8) (hf : cells ≤ R.cells ∧ slots ≤ R.slots) (hdg : decode cc pc = .ok (.invokevirtual index, 3))
    (kk : ∀ (H1 : Heap) (locs1 : List Loc), va_P D vwCl w' H1 → va_S A H0 H1 locs1 → W p l e R s m args below meth c H1 locs1 cells slots Q (F0 m (pc + 3) ls st1)) : W p l e R s m args below meth c H locs cells slots Q (F0 m pc ls st0) := by
  obtain ⟨⟨ws', hw⟩, hd⟩ := hc
  subst hst1
  exact wq_run (va_runV S hM (cwV n S.2.2.2.2 hG hw rfl rfl ⟨hy, hd⟩ hR) ⟨wPre_blind hKo, hrec, fun U hU hW => ⟨rfl, by rw [hU]; exact hP, hKo.1 s U hW hK⟩⟩ (g := F0 m pc ls st0) rfl hn hsz hst (lv_room hcat) hdg hf) hS kk
theorem wq_VN (S : CallFix p m c cc nL s args Ts own) (hKo : kOk K) (hK : K s) (hP : va_P D vwCl w H) (hS : va_S A H0 H locs) (hM : Met l y ws (rmz f lo) (wPre D K w (.ref b :: As)) (wPost D w' rv A) 0 0 A) (hG : GoodIn Ts ws) (hc : ciOk y bytes maxL ret ws n)
    (hN : va_Nw (.methodLinkNest own index y host) s) (hini : (Cond.initialized y.cls).before args s = true) (hins : (Cond.instanceMethod y).before args s = true) (hsel : (Cond.selects C y y).before args s = true)
    (hrec : ∃ cell : Cell, H[b]? = some cell ∧ cell.vm.isStatics = false ∧ s.vm.findClass C = some cell.cls)
    (hR : f + 1 ≤ R.frames ∧ 8 + (maxL + 11) + lo ≤ R.locals) (hn : As.length = n) (hsz : ls.size = nL) (hst : st0 = As.reverse ++ .ref b :: rest) (hst1 : rv.toList ++ rest = st1) (hcat : (rest.map fun v => v.category).sum ≤ 8) (hf : cells ≤ R.cells ∧ slots ≤ R.slots) (hdg : decode cc pc = .ok (.invokevirtual index, 3))
    (kk : ∀ (H1 : Heap) (locs1 : List Loc), va_P D vwCl w' H1 → va_S A H0 H1 locs1 → W p l e R s m args below meth c H1 locs1 cells slots Q (F0 m (pc + 3) ls st1)) : W p l e R s m args below meth c H locs cells slots Q (F0 m pc ls st0) := by
  obtain ⟨⟨ws', hw⟩, hd⟩ := hc
  subst hst1
  exact wq_run (va_runVN S hM ⟨va_cnB n S.2.2.2.2 hG hw rfl rfl hN hini hd hR, hins, hsel⟩ ⟨wPre_blind hKo, hrec, fun U hU hW => ⟨rfl, by rw [hU]; exact hP, hKo.1 s U hW hK⟩⟩ (g := F0 m pc ls st0) rfl hn hsz hst (lv_room hcat) hdg hf) hS kk
theorem sq_ri {v : Int32} (hx : p.tables.exec = Jvm.exec) (hb : c.code = cc) (hr : meth.sig.returnType = some .int) (hlocks : meth.locks = false) (hdg : decode cc pc = .ok (.ireturn, 1)) (hv : rv = some (.int v)) : W p l e R s m args below meth c s.heap [] 0 0 (MQ below (sPost rv) args s 0 0 (fun _ => False)) (F0 m pc ls [.int v]) :=
  W.iret hx hb hr (fun t ht _ => ⟨by rw [hv], ht⟩) (fun _ h => by cases h) hdg hlocks
theorem sq_rz {v : Int32} (hx : p.tables.exec = Jvm.exec) (hb : c.code = cc) (hr : meth.sig.returnType = some .boolean) (hlocks : meth.locks = false) (hdg : decode cc pc = .ok (.ireturn, 1)) (hz : v = 0 ∨ v = 1) (hv : rv = some (.int v)) : W p l e R s m args below meth c s.heap [] 0 0 (MQ below (sPost rv) args s 0 0 (fun _ => False)) (F0 m pc ls [.int v]) :=
  W.zret hx hb hr (by rcases hz with rfl | rfl <;> rfl) (fun t ht _ => ⟨by rw [hv], ht⟩) (fun _ h => by cases h) hdg hlocks
theorem sq_rl {v : Int64} (hx : p.tables.exec = Jvm.exec) (hb : c.code = cc) (hr : meth.sig.returnType = some .long) (hlocks : meth.locks = false) (hdg : decode cc pc = .ok (.lreturn, 1)) (hv : rv = some (.long v)) : W p l e R s m args below meth c s.heap [] 0 0 (MQ below (sPost rv) args s 0 0 (fun _ => False)) (F0 m pc ls [.long v]) :=
  W.lret hx hb hr (fun t ht _ => ⟨by rw [hv], ht⟩) (fun _ h => by cases h) hdg hlocks
theorem wq_ri {v : Int32} (hx : p.tables.exec = Jvm.exec) (hb : c.code = cc) (hr : meth.sig.returnType = some .int) (hlocks : meth.locks = false) (hP : va_P D vwCl w H) (hS : va_S A s.heap H locs) (hdg : decode cc pc = .ok (.ireturn, 1)) (hv : rv = some (.int v)) (hw : w' = w) : W p l e R s m args below meth c H locs 0 0 (MQ below (wPost D w' rv A) args s 0 0 A) (F0 m pc ls [.int v]) :=
  W.iret hx hb hr (fun t ht _ => ⟨by rw [hv], by rw [ht, hw]; exact hP, hS.F ht⟩) hS.2.2 hdg hlocks
theorem wq_rz {v : Int32} (hx : p.tables.exec = Jvm.exec) (hb : c.code = cc) (hr : meth.sig.returnType = some .boolean) (hlocks : meth.locks = false) (hP : va_P D vwCl w H) (hS : va_S A s.heap H locs) (hdg : decode cc pc = .ok (.ireturn, 1)) (hz : v = 0 ∨ v = 1) (hv : rv = some (.int v)) (hw : w' = w) : W p l e R s m args below meth c H locs 0 0 (MQ below (wPost D w' rv A) args s 0 0 A) (F0 m pc ls [.int v]) :=
  W.zret hx hb hr (by rcases hz with rfl | rfl <;> rfl) (fun t ht _ => ⟨by rw [hv], by rw [ht, hw]; exact hP, hS.F ht⟩) hS.2.2 hdg hlocks
theorem wq_rl {v : Int64} (hx : p.tables.exec = Jvm.exec) (hb : c.code = cc) (hr : meth.sig.returnType = some .long) (hlocks : meth.locks = false) (hP : va_P D vwCl w H) (hS : va_S A s.heap H locs) (hdg : decode cc pc = .ok (.lreturn, 1)) (hv : rv = some (.long v)) (hw : w' = w) : W p l e R s m args below meth c H locs 0 0 (MQ below (wPost D w' rv A) args s 0 0 A) (F0 m pc ls [.long v]) :=
  W.lret hx hb hr (fun t ht _ => ⟨by rw [hv], by rw [ht, hw]; exact hP, hS.F ht⟩) hS.2.2 hdg hlocks
theorem wq_rv (hx : p.tables.exec = Jvm.exec) (hb : c.code = cc) (hr : meth.sig.returnType = none) (hlocks : meth.locks = false) (hP : va_P D vwCl w H) (hS : va_S A s.heap H locs) (hdg : decode cc pc = .ok (.return_, 1)) (hv : rv = none) (hw : w' = w) : W p l e R s m args below meth c H locs 0 0 (MQ below (wPost D w' rv A) args s 0 0 A) (F0 m pc ls []) :=
  W.vret hx hb hr (fun t ht _ => ⟨by rw [hv], by rw [ht, hw]; exact hP, hS.F ht⟩) hS.2.2 hdg hlocks
theorem wq_ra {v : Nat} {C : String} (hx : p.tables.exec = Jvm.exec) (hb : c.code = cc) (hr : meth.sig.returnType = some (.object C)) (hlocks : meth.locks = false) (hP : va_P D vwCl w H) (hS : va_S A s.heap H locs) (hdg : decode cc pc = .ok (.areturn, 1)) (hv : rv = some (.ref v)) (hw : w' = w) : W p l e R s m args below meth c H locs 0 0 (MQ below (wPost D w' rv A) args s 0 0 A) (F0 m pc ls [.ref v]) :=
  W.aret hx hb hr (Or.inl ⟨_, rfl⟩) (Or.inr ⟨_, rfl⟩) (fun t ht _ => ⟨by rw [hv], by rw [ht, hw]; exact hP, hS.F ht⟩) hS.2.2 hdg hlocks
end SQ
theorem sq_entry {l : Launch} {y : MethodName} {ws : List Cond} {rm : Room} {cc : ByteArray} {maxL : Nat} {ret : Option FieldType} {ws' : List Cond} {av : List Value} {Qc : Array Value → State → Outcome → State → Prop} {free : Addr → Prop} (hy : plainName y.cls = true) (hw : ws = Cond.code y cc maxL ret :: ws') (hlen : (lg_sl av).length ≤ maxL)
    (body : ∀ (p : Program) (e : Env) (s : State) (m : MethodId) (args : Array Value) (below : List Frame) (meth : Method) (c : Code), CallFix p m c cc maxL s args ws y.cls → meth.sig.returnType = ret → meth.locks = false → ∀ ls : Array Slot, lv_has ls maxL (lv_args 0 av) → W p l e rm s m args below meth c s.heap [] 0 0 (MQ below Qc args s 0 0 free) (F0 m 0 ls [])) : Met l y ws rm (sPre av) Qc 0 0 free := by
  refine Met.ofW hy hw ?_
  intro p e s m args below meth c s₁ B hml hv
  have hv : args = av.toArray := hv
  subst hv
  rw [lg_entry_eq]
  exact body p e s m _ below meth c ⟨B.exec, B.bytes, hml, findClass_of_methodNamed B.named, atoms_spec (ws := ws) B.pre⟩ B.returns B.notSynchronized _ (lv_entry av hlen)
theorem wq_entry {l : Launch} {y : MethodName} {ws : List Cond} {rm : Room} {cc : ByteArray} {maxL : Nat} {ret : Option FieldType} {ws' : List Cond} {av : List Value} {Qc : Array Value → State → Outcome → State → Prop} {free : Addr → Prop} {D : va_G} {K : State → Prop} {w : va_W} (hy : plainName y.cls = true) (hw : ws = Cond.code y cc maxL ret :: ws') (hlen : (lg_sl av).length ≤ maxL)
    (body : ∀ (p : Program) (e : Env) (s : State) (m : MethodId) (args : Array Value) (below : List Frame) (meth : Method) (c : Code), CallFix p m c cc maxL s args ws y.cls → meth.sig.returnType = ret → meth.locks = false → K s → va_P D vwCl w s.heap → ∀ ls : Array Slot, lv_has ls maxL (lv_args 0 av) → W p l e rm s m args below meth c s.heap [] 0 0 (MQ below Qc args s 0 0 free) (F0 m 0 ls [])) : Met l y ws rm (wPre D K w av) Qc 0 0 free := by
  refine Met.ofW hy hw ?_
  intro p e s m args below meth c s₁ B hml hv
  obtain ⟨hv, hP, hK⟩ := hv
  subst hv
  rw [lg_entry_eq]
  exact body p e s m _ below meth c ⟨B.exec, B.bytes, hml, findClass_of_methodNamed B.named, atoms_spec (ws := ws) B.pre⟩ B.returns B.notSynchronized hK hP _ (lv_entry av hlen)

section LVN
variable {p : Program} {l : Launch} {e : Env} {R : Room} {s : State} {m : MethodId} {args : Array Value} {below : List Frame} {meth : Method} {c : Code} {H : Heap} {locs : List Loc} {cells slots : Nat} {Q : State → Prop}
variable {cc : ByteArray} {pc : Nat} {ls : Array Slot} {rest : List Value} {a b tgt : Nat} {off : Int}
theorem lvn_iadd (hx : p.tables.exec = Jvm.exec) (hb : c.code = cc) (hdg : decode cc pc = .ok (.iadd, 1)) (k : W p l e R s m args below meth c H locs cells slots Q (F0 m (pc + 1) ls (.int (nI (a + b)) :: rest))) : W p l e R s m args below meth c H locs cells slots Q (F0 m pc ls (.int (nI b) :: .int (nI a) :: rest)) := lv_iadd hx hb hdg (by rw [nI_add]; exact k)
theorem lvn_imul (hx : p.tables.exec = Jvm.exec) (hb : c.code = cc) (hdg : decode cc pc = .ok (.imul, 1)) (k : W p l e R s m args below meth c H locs cells slots Q (F0 m (pc + 1) ls (.int (nI (a * b)) :: rest))) : W p l e R s m args below meth c H locs cells slots Q (F0 m pc ls (.int (nI b) :: .int (nI a) :: rest)) := lv_imul hx hb hdg (by rw [pk_mul]; exact k)
theorem lv_top {x y : Int32} (h : x = y) (k : W p l e R s m args below meth c H locs cells slots Q (F0 m pc ls (.int y :: rest))) : W p l e R s m args below meth c H locs cells slots Q (F0 m pc ls (.int x :: rest)) := h ▸ k
theorem lv_topJ {x y : Int64} (h : x = y) (k : W p l e R s m args below meth c H locs cells slots Q (F0 m pc ls (.long y :: rest))) : W p l e R s m args below meth c H locs cells slots Q (F0 m pc ls (.long x :: rest)) := h ▸ k
theorem lv_stk {st st' : List Value} (h : st = st') (k : W p l e R s m args below meth c H locs cells slots Q (F0 m pc ls st')) : W p l e R s m args below meth c H locs cells slots Q (F0 m pc ls st) := h ▸ k
theorem lvn_icmp_eq (hx : p.tables.exec = Jvm.exec) (hb : c.code = cc) (hdg : decode cc pc = .ok (.if_icmp .eq off, 3)) (ht : (pc : Int) + off = (tgt : Int)) (h1 : a < 2 ^ 31) (h2 : b < 2 ^ 31)
    (kt : a = b → W p l e R s m args below meth c H locs cells slots Q (F0 m tgt ls rest)) (kf : ¬ a = b → W p l e R s m args below meth c H locs cells slots Q (F0 m (pc + 3) ls rest)) : W p l e R s m args below meth c H locs cells slots Q (F0 m pc ls (.int (nI b) :: .int (nI a) :: rest)) :=
  lv_icmp_eq hx hb hdg ht (fun h => kt ((nI_eq h1 h2).mp h)) (fun h => kf (fun z => h ((nI_eq h1 h2).mpr z)))
theorem lvn_icmp_ne (hx : p.tables.exec = Jvm.exec) (hb : c.code = cc) (hdg : decode cc pc = .ok (.if_icmp .ne off, 3)) (ht : (pc : Int) + off = (tgt : Int)) (h1 : a < 2 ^ 31) (h2 : b < 2 ^ 31)
    (kt : ¬ a = b → W p l e R s m args below meth c H locs cells slots Q (F0 m tgt ls rest)) (kf : a = b → W p l e R s m args below meth c H locs cells slots Q (F0 m (pc + 3) ls rest)) : W p l e R s m args below meth c H locs cells slots Q (F0 m pc ls (.int (nI b) :: .int (nI a) :: rest)) :=
  lv_icmp_ne hx hb hdg ht (fun h => kt (fun z => h ((nI_eq h1 h2).mpr z))) (fun h => kf ((nI_eq h1 h2).mp h))
theorem lvn_icmp_lt (hx : p.tables.exec = Jvm.exec) (hb : c.code = cc) (hdg : decode cc pc = .ok (.if_icmp .lt off, 3)) (ht : (pc : Int) + off = (tgt : Int)) (h1 : a < 2 ^ 31) (h2 : b < 2 ^ 31)
    (kt : a < b → W p l e R s m args below meth c H locs cells slots Q (F0 m tgt ls rest)) (kf : ¬ a < b → W p l e R s m args below meth c H locs cells slots Q (F0 m (pc + 3) ls rest)) : W p l e R s m args below meth c H locs cells slots Q (F0 m pc ls (.int (nI b) :: .int (nI a) :: rest)) :=
  lv_icmp_lt hx hb hdg ht (fun h => kt ((nI_ltI h1 h2).mp h)) (fun h => kf (fun z => h ((nI_ltI h1 h2).mpr z)))
theorem lvn_icmp_ge (hx : p.tables.exec = Jvm.exec) (hb : c.code = cc) (hdg : decode cc pc = .ok (.if_icmp .ge off, 3)) (ht : (pc : Int) + off = (tgt : Int)) (h1 : a < 2 ^ 31) (h2 : b < 2 ^ 31)
    (kt : b ≤ a → W p l e R s m args below meth c H locs cells slots Q (F0 m tgt ls rest)) (kf : ¬ b ≤ a → W p l e R s m args below meth c H locs cells slots Q (F0 m (pc + 3) ls rest)) : W p l e R s m args below meth c H locs cells slots Q (F0 m pc ls (.int (nI b) :: .int (nI a) :: rest)) :=
  lv_icmp_ge hx hb hdg ht (fun h => kt ((nI_leI h2 h1).mp h)) (fun h => kf (fun z => h ((nI_leI h2 h1).mpr z)))
theorem lvn_icmp_gt (hx : p.tables.exec = Jvm.exec) (hb : c.code = cc) (hdg : decode cc pc = .ok (.if_icmp .gt off, 3)) (ht : (pc : Int) + off = (tgt : Int)) (h1 : a < 2 ^ 31) (h2 : b < 2 ^ 31)
    (kt : b < a → W p l e R s m args below meth c H locs cells slots Q (F0 m tgt ls rest)) (kf : ¬ b < a → W p l e R s m args below meth c H locs cells slots Q (F0 m (pc + 3) ls rest)) : W p l e R s m args below meth c H locs cells slots Q (F0 m pc ls (.int (nI b) :: .int (nI a) :: rest)) :=
  lv_icmp_gt hx hb hdg ht (fun h => kt ((nI_ltI h2 h1).mp h)) (fun h => kf (fun z => h ((nI_ltI h2 h1).mpr z)))
theorem lvn_icmp_le (hx : p.tables.exec = Jvm.exec) (hb : c.code = cc) (hdg : decode cc pc = .ok (.if_icmp .le off, 3)) (ht : (pc : Int) + off = (tgt : Int)) (h1 : a < 2 ^ 31) (h2 : b < 2 ^ 31)
    (kt : a ≤ b → W p l e R s m args below meth c H locs cells slots Q (F0 m tgt ls rest)) (kf : ¬ a ≤ b → W p l e R s m args below meth c H locs cells slots Q (F0 m (pc + 3) ls rest)) : W p l e R s m args below meth c H locs cells slots Q (F0 m pc ls (.int (nI b) :: .int (nI a) :: rest)) :=
  lv_icmp_le hx hb hdg ht (fun h => kt ((nI_leI h1 h2).mp h)) (fun h => kf (fun z => h ((nI_leI h1 h2).mpr z)))
end LVN
theorem ne_int {x y : Int32} (h : ¬ x = y) : x.toInt ≠ y.toInt := fun e => h (Int32.toInt_inj.mp e)
theorem in_nI {i n : Nat} (h : i < n) (hn : n < 2 ^ 31) : vp_in (nI i) n := vp_in_nI h hn
/-! the model's world: its object and ten rows -/
def mwF (ad : Nat → Nat) (ik td fr tt vl wr : Int32) : List Value := [.ref (ad 1), .ref (ad 2), .ref (ad 3), .ref (ad 4), .ref (ad 5), .int ik, .ref (ad 6), .int td, .int fr, .int tt, .int vl, .int wr, .ref (ad 7), .ref (ad 8), .ref (ad 9), .ref (ad 10)]
def mw (cy : Nat → ClassId) (ad : Nat → Nat) (sr kS ot asd stt : Nat → Int32) (ik : Int32) (tp : Nat → Int32) (td fr tt vl wr : Int32) (bo so : Nat → Int32) (nu mv : Nat → Int64) : va_W :=
  [(ad 0, .inr (5, mwF ad ik td fr tt vl wr)), (ad 1, .inl (cy 0, 69, .inl sr)), (ad 2, .inl (cy 0, 69, .inl kS)), (ad 3, .inl (cy 0, 69, .inl ot)), (ad 4, .inl (cy 0, 69, .inl asd)), (ad 5, .inl (cy 0, 7, .inl stt)), (ad 6, .inl (cy 0, 120, .inl tp)), (ad 7, .inl (cy 0, 4, .inl bo)), (ad 8, .inl (cy 0, 4, .inl so)), (ad 9, .inl (cy 1, 160, .inr (.inl nu))), (ad 10, .inl (cy 1, 40, .inr (.inl mv)))]
def mA (ad : Nat → Nat) : Nat → Prop := fun q => ∃ k, k < 11 ∧ q = ad k
def mK (D : va_G) (cy : Nat → ClassId) (ad : Nat → Nat) (U : State) : Prop := va_K D vwCl [(cy 0, .int), (cy 1, .long)] U ∧ ∀ i j : Nat, i < 11 → j < 11 → ad i = ad j → i = j
theorem mK_ok {D : va_G} {cy : Nat → ClassId} {ad : Nat → Nat} : kOk (mK D cy ad) := ⟨fun s U hW h => ⟨va_K.moved hW.alike h.1, h.2⟩, fun a U g mk h => ⟨va_K.moved (u := U) (U := U.calling g mk a) (Vm.Alike.refl U.vm) h.1, h.2⟩⟩
section MW
variable {p : Program} {l : Launch} {e : Env} {R : Room} {s : State} {m : MethodId} {args : Array Value} {below : List Frame} {meth : Method} {c : Code} {H : Heap} {locs : List Loc} {cells slots : Nat} {Q : State → Prop}
variable {cc : ByteArray} {pc : Nat} {ls : Array Slot} {rest : List Value} {D : va_G} {H0 : Heap} {Ts : List Cond} {idx : Nat} {w' : va_W}
variable {cy : Nat → ClassId} {ad : Nat → Nat} {sr kS ot asd stt : Nat → Int32} {ik : Int32} {tp : Nat → Int32} {td fr tt vl wr : Int32} {bo so : Nat → Int32} {nu mv : Nat → Int64}
theorem m_at {k : Nat} {q : Nat × va_E} (h : (mw cy ad sr kS ot asd stt ik tp td fr tt vl wr bo so nu mv)[k]? = some q) : k < 11 ∧ q.1 = ad k := by
  match k, h with
  | 0, h => cases h; exact ⟨by decide, rfl⟩
  | 1, h => cases h; exact ⟨by decide, rfl⟩
  | 2, h => cases h; exact ⟨by decide, rfl⟩
  | 3, h => cases h; exact ⟨by decide, rfl⟩
  | 4, h => cases h; exact ⟨by decide, rfl⟩
  | 5, h => cases h; exact ⟨by decide, rfl⟩
  | 6, h => cases h; exact ⟨by decide, rfl⟩
  | 7, h => cases h; exact ⟨by decide, rfl⟩
  | 8, h => cases h; exact ⟨by decide, rfl⟩
  | 9, h => cases h; exact ⟨by decide, rfl⟩
  | 10, h => cases h; exact ⟨by decide, rfl⟩
  | k + 11, h => cases h
theorem m_D (hI : ∀ i j : Nat, i < 11 → j < 11 → ad i = ad j → i = j) : va_D (mA ad) (mw cy ad sr kS ot asd stt ik tp td fr tt vl wr bo so nu mv) := by
  refine ⟨fun i j x y hi hj hxy => ?_, fun k q hk => ?_⟩
  · obtain ⟨h1, h2⟩ := m_at hi
    obtain ⟨h3, h4⟩ := m_at hj
    exact hI i j h1 h3 (by rw [← h2, ← h4]; exact hxy)
  · obtain ⟨h1, h2⟩ := m_at hk
    exact ⟨k, h1, h2⟩
theorem m_rec (hK : mK D cy ad s) (hP : va_P D vwCl (mw cy ad sr kS ot asd stt ik tp td fr tt vl wr bo so nu mv) H) : ∃ cell : Cell, H[ad 0]? = some cell ∧ cell.vm.isStatics = false ∧ s.vm.findClass RX5 = some cell.cls := va_recv hK.1 hP (ci := 5) (q0 := 0) rfl rfl
theorem m_get (hx : p.tables.exec = Jvm.exec) (hb : c.code = cc) (hts : ∀ w ∈ Ts, w.before args s = true) (hin : ∀ w ∈ wsX50, w ∈ Ts) (hown : s.vm.findClass RX5 = some m.cls) (hK : mK D cy ad s) (hP : va_P D vwCl (mw cy ad sr kS ot asd stt ik tp td fr tt vl wr bo so nu mv) H) (k : Nat) (hk : k < 16) (hlink : (Cond.fieldLink RX5 idx (TX5 k).1 (TX5 k).2.1 (TX5 k).2.2.1).before args s = true) {v : Value} (hv : (mwF ad ik td fr tt vl wr)[k]? = some v) (hdg : decode cc pc = .ok (.getfield idx, 3))
    (kk : W p l e R s m args below meth c H locs cells slots Q (F0 m (pc + 3) ls (v :: rest))) : W p l e R s m args below meth c H locs cells slots Q (F0 m pc ls (.ref (ad 0) :: rest)) :=
  va_get (D := D) (ci := 5) (C := RX5) (T := TX5) (N := 16) hx hb hts hin hown hK.1 hP 0 rfl rfl k hk hlink (fun _ h => h) hv hdg kk
theorem m_put (hx : p.tables.exec = Jvm.exec) (hb : c.code = cc) (hts : ∀ w ∈ Ts, w.before args s = true) (hin : ∀ w ∈ wsX50, w ∈ Ts) (hown : s.vm.findClass RX5 = some m.cls) (hK : mK D cy ad s) (hP : va_P D vwCl (mw cy ad sr kS ot asd stt ik tp td fr tt vl wr bo so nu mv) H) (hS : va_S (mA ad) H0 H locs) (k : Nat) (hk : k < 16) (hlink : (Cond.fieldLink RX5 idx (TX5 k).1 (TX5 k).2.1 (TX5 k).2.2.1).before args s = true) {v : Value} {ty : FieldType} (hfin : (TX5 k).2.2.2 = false) (hd : parseFieldDescriptor (TX5 k).2.2.1 = some ty) (hn : narrow ty v = v) (hfit : fits ty v = true)
    (hw : (mw cy ad sr kS ot asd stt ik tp td fr tt vl wr bo so nu mv).set 0 (ad 0, .inr (5, (mwF ad ik td fr tt vl wr).set k v)) = w') (hdg : decode cc pc = .ok (.putfield idx, 3))
    (kk : ∀ (H1 : Heap) (locs1 : List Loc), va_P D vwCl w' H1 → va_S (mA ad) H0 H1 locs1 → W p l e R s m args below meth c H1 locs1 cells slots Q (F0 m (pc + 3) ls rest)) : W p l e R s m args below meth c H locs cells slots Q (F0 m pc ls (v :: .ref (ad 0) :: rest)) :=
  va_put (D := D) (ci := 5) (C := RX5) (T := TX5) (N := 16) (ty := ty) hx hb hts hin tyX5 tyX5_ok nmX5 hown hK.1 hP (m_D hK.2) hS 0 rfl rfl k hk hlink (fun _ h => h) hfin hd hn hfit hk hdg (fun H1 locs1 hP1 _ hS1 => kk H1 locs1 (hw ▸ hP1) hS1)
theorem m_ald (hx : p.tables.exec = Jvm.exec) (hb : c.code = cc) (hK : mK D cy ad s) (hP : va_P D vwCl (mw cy ad sr kS ot asd stt ik tp td fr tt vl wr bo so nu mv) H) (q : Nat) {n i : Nat} {f : Nat → Int32} (ha : (mw cy ad sr kS ot asd stt ik tp td fr tt vl wr bo so nu mv)[q]? = some (ad q, .inl (cy 0, n, .inl f))) (hn : n < 2 ^ 31) (hi : i < n) (hdg : decode cc pc = .ok (.iaload, 1))
    (kk : W p l e R s m args below meth c H locs cells slots Q (F0 m (pc + 1) ls (.int (f i) :: rest))) : W p l e R s m args below meth c H locs cells slots Q (F0 m pc ls (.int (nI i) :: .ref (ad q) :: rest)) :=
  va_iald hx hb hK.1 hP q 0 ha rfl (vp_in_nI hi hn) hdg (by rw [nI_clamp (Nat.lt_trans hi hn)]; exact kk)
theorem m_ast (hx : p.tables.exec = Jvm.exec) (hb : c.code = cc) (hK : mK D cy ad s) (hP : va_P D vwCl (mw cy ad sr kS ot asd stt ik tp td fr tt vl wr bo so nu mv) H) (hS : va_S (mA ad) H0 H locs) (q : Nat) {n i : Nat} {f : Nat → Int32} {x : Int32} (ha : (mw cy ad sr kS ot asd stt ik tp td fr tt vl wr bo so nu mv)[q]? = some (ad q, .inl (cy 0, n, .inl f))) (hn : n < 2 ^ 31) (hi : i < n)
    (hw : (mw cy ad sr kS ot asd stt ik tp td fr tt vl wr bo so nu mv).set q (ad q, .inl (cy 0, n, .inl (upd f i x))) = w') (hdg : decode cc pc = .ok (.iastore, 1))
    (kk : ∀ (H1 : Heap) (locs1 : List Loc), va_P D vwCl w' H1 → va_S (mA ad) H0 H1 locs1 → W p l e R s m args below meth c H1 locs1 cells slots Q (F0 m (pc + 1) ls rest)) : W p l e R s m args below meth c H locs cells slots Q (F0 m pc ls (.int x :: .int (nI i) :: .ref (ad q) :: rest)) :=
  va_iast hx hb hK.1 hP (m_D hK.2) hS q 0 ha rfl (vp_in_nI hi hn) hdg (by rw [nI_clamp (Nat.lt_trans hi hn), hw]; exact fun H1 locs1 hP1 _ hS1 => kk H1 locs1 hP1 hS1)
theorem m_lald (hx : p.tables.exec = Jvm.exec) (hb : c.code = cc) (hK : mK D cy ad s) (hP : va_P D vwCl (mw cy ad sr kS ot asd stt ik tp td fr tt vl wr bo so nu mv) H) (q : Nat) {n i : Nat} {f : Nat → Int64} (ha : (mw cy ad sr kS ot asd stt ik tp td fr tt vl wr bo so nu mv)[q]? = some (ad q, .inl (cy 1, n, .inr (.inl f)))) (hn : n < 2 ^ 31) (hi : i < n) (hdg : decode cc pc = .ok (.laload, 1))
    (kk : W p l e R s m args below meth c H locs cells slots Q (F0 m (pc + 1) ls (.long (f i) :: rest))) : W p l e R s m args below meth c H locs cells slots Q (F0 m pc ls (.int (nI i) :: .ref (ad q) :: rest)) :=
  va_lald hx hb hK.1 hP q 1 ha rfl (vp_in_nI hi hn) hdg (by rw [nI_clamp (Nat.lt_trans hi hn)]; exact kk)
theorem m_last (hx : p.tables.exec = Jvm.exec) (hb : c.code = cc) (hK : mK D cy ad s) (hP : va_P D vwCl (mw cy ad sr kS ot asd stt ik tp td fr tt vl wr bo so nu mv) H) (hS : va_S (mA ad) H0 H locs) (q : Nat) {n i : Nat} {f : Nat → Int64} {x : Int64} (ha : (mw cy ad sr kS ot asd stt ik tp td fr tt vl wr bo so nu mv)[q]? = some (ad q, .inl (cy 1, n, .inr (.inl f)))) (hn : n < 2 ^ 31) (hi : i < n)
    (hw : (mw cy ad sr kS ot asd stt ik tp td fr tt vl wr bo so nu mv).set q (ad q, .inl (cy 1, n, .inr (.inl (vp_updL f i x)))) = w') (hdg : decode cc pc = .ok (.lastore, 1))
    (kk : ∀ (H1 : Heap) (locs1 : List Loc), va_P D vwCl w' H1 → va_S (mA ad) H0 H1 locs1 → W p l e R s m args below meth c H1 locs1 cells slots Q (F0 m (pc + 1) ls rest)) : W p l e R s m args below meth c H locs cells slots Q (F0 m pc ls (.long x :: .int (nI i) :: .ref (ad q) :: rest)) :=
  va_last hx hb hK.1 hP (m_D hK.2) hS q 1 ha rfl (vp_in_nI hi hn) hdg (by rw [nI_clamp (Nat.lt_trans hi hn), hw]; exact fun H1 locs1 hP1 _ hS1 => kk H1 locs1 hP1 hS1)
end MW
def z (P : Prop) [Decidable P] : Int32 := if P then nI 1 else nI 0
theorem z_0 {P : Prop} [Decidable P] : z P = 0 ↔ ¬ P := by
  unfold z
  split
  · rename_i h; exact ⟨fun q => absurd q (by decide), fun q => absurd h q⟩
  · rename_i h; exact ⟨fun _ => h, fun _ => rfl⟩
theorem z_t {P : Prop} [Decidable P] (h : P) : z P = nI 1 := if_pos h
theorem z_f {P : Prop} [Decidable P] (h : ¬ P) : z P = nI 0 := if_neg h
theorem z_01 {P : Prop} [Decidable P] : z P = 0 ∨ z P = 1 := by
  unfold z
  split
  · exact Or.inr rfl
  · exact Or.inl rfl
section LVZ
variable {p : Program} {l : Launch} {e : Env} {R : Room} {s : State} {m : MethodId} {args : Array Value} {below : List Frame} {meth : Method} {c : Code} {H : Heap} {locs : List Loc} {cells slots : Nat} {Q : State → Prop}
variable {cc : ByteArray} {pc : Nat} {ls : Array Slot} {rest : List Value} {tgt : Nat} {off : Int}
theorem lvz_if_eq {P : Prop} [Decidable P] (hx : p.tables.exec = Jvm.exec) (hb : c.code = cc) (hdg : decode cc pc = .ok (.ifCond .eq off, 3)) (ht : (pc : Int) + off = (tgt : Int))
    (kt : ¬ P → W p l e R s m args below meth c H locs cells slots Q (F0 m tgt ls rest)) (kf : P → W p l e R s m args below meth c H locs cells slots Q (F0 m (pc + 3) ls rest)) : W p l e R s m args below meth c H locs cells slots Q (F0 m pc ls (.int (z P) :: rest)) :=
  lv_if_eq hx hb hdg ht (fun h => kt (z_0.mp h)) (fun h => kf (Classical.not_not.mp (fun z => h (z_0.mpr z))))
theorem lvz_if_ne {P : Prop} [Decidable P] (hx : p.tables.exec = Jvm.exec) (hb : c.code = cc) (hdg : decode cc pc = .ok (.ifCond .ne off, 3)) (ht : (pc : Int) + off = (tgt : Int))
    (kt : P → W p l e R s m args below meth c H locs cells slots Q (F0 m tgt ls rest)) (kf : ¬ P → W p l e R s m args below meth c H locs cells slots Q (F0 m (pc + 3) ls rest)) : W p l e R s m args below meth c H locs cells slots Q (F0 m pc ls (.int (z P) :: rest)) :=
  lv_if_ne hx hb hdg ht (fun h => kt (Classical.not_not.mp (fun z => h (z_0.mpr z)))) (fun h => kf (z_0.mp h))
end LVZ
