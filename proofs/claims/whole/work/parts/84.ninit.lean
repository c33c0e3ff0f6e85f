/-! constructors: cells come; the array classes are known ahead -/
def nK (D : va_G) (cy : Nat → ClassId) (U : State) : Prop := va_K D vwCl (ctys cy) U ∧ (∀ w ∈ nestW, va_Nw w U) ∧ va_AO RX3 U ∧ va_AO RX1 U
theorem nK_warm {D : va_G} {cy : Nat → ClassId} {s U : State} (hW : s.WarmedH U.vm) (h : nK D cy s) : nK D cy U := ⟨va_K.moved hW.alike h.1, fun w hw => nest_warm hw hW (h.2.1 w hw), va_AO.moved hW.alike h.2.2.1, va_AO.moved hW.alike h.2.2.2⟩
theorem nK_calling {D : va_G} {cy : Nat → ClassId} {U : State} {g : JFrame} {mk : MethodId} {a : Array Value} (h : nK D cy U) : nK D cy (U.calling g mk a) := ⟨va_K.moved (u := U) (U := U.calling g mk a) (Vm.Alike.refl U.vm) h.1, fun w hw => nest_same (s := U) (U := U.calling g mk a) hw rfl (h.2.1 w hw), va_AO.moved (u := U) (U := U.calling g mk a) (Vm.Alike.refl U.vm) h.2.2.1, va_AO.moved (u := U) (U := U.calling g mk a) (Vm.Alike.refl U.vm) h.2.2.2⟩
def nPre (D : va_G) (cy : Nat → ClassId) (sz : Nat) (w : va_W) (av : List Value) : Array Value → State → Prop := fun v U => v = av.toArray ∧ U.heap.size = sz ∧ va_P D vwCl w U.heap ∧ nK D cy U
theorem nPre_blind {D : va_G} {cy : Nat → ClassId} {sz : Nat} {w : va_W} {av : List Value} : FrameBlind (nPre D cy sz w av) := fun _ _ _ _ h => ⟨h.1, h.2.1, h.2.2.1, nK_calling h.2.2.2⟩
def nQ (D : va_G) (w : va_W) (sz : Nat) (wOut : (Nat → Nat) → va_W) : Array Value → State → Outcome → State → Prop := va_Qv (fun _ : Nat → Nat => True) (fun q t => va_P D vwCl (wOut q) t.heap ∧ va_D (va_A w sz) (wOut q)) (va_A w sz)
theorem RA_uni {s : State} {a b : ClassId} {ty : FieldType} (h1 : va_RA s a ty) (h2 : va_RA s b ty) : a = b := by
  cases ty with
  | object C =>
    obtain ⟨_, _, _, _, _, h1⟩ := h1
    obtain ⟨_, _, _, _, _, h2⟩ := h2
    exact Option.some.inj (h1.symm.trans h2)
  | _ => exact Option.some.inj (h1.symm.trans h2)
theorem va_P1 {D : va_G} {w : va_W} {H : Heap} {i : Nat} {x : Nat × va_E} (hP : va_P D vwCl w H) (hi : w[i]? = some x) : va_P D vwCl [x] H := by
  intro k q hk
  match k, hk with
  | 0, hk => cases hk; exact hP i _ hi
  | k + 1, hk => cases hk
theorem va_D1 {A : Nat → Prop} {x : Nat × va_E} (h : A x.1) : va_D A [x] := by
  refine ⟨fun i j p q hi hj _ => ?_, fun k q hk => ?_⟩
  · have h1 := (List.getElem?_eq_some_iff.mp hi).1
    have h2 := (List.getElem?_eq_some_iff.mp hj).1
    simp at h1 h2
    omega
  · match k, hk with
    | 0, hk => cases hk; exact h
    | k + 1, hk => cases hk
theorem cell_q {c : ClassId} {n : Nat} {f g : Nat → Option Nat} (h : ∀ i, i < n → f i = g i) : vp_cell c (n, .inr (.inr (.inr (.inr f)))) = vp_cell c (n, .inr (.inr (.inr (.inr g)))) := by
  rw [vp_cell_q, vp_cell_q]
  unfold arrV
  congr 1
  apply Array.ext
  · simp
  · intro i h1 h2
    simp at h1
    simp [h i h1]
theorem va_P_q {D : va_G} {w : va_W} {H : Heap} {k a n : Nat} {c : ClassId} {f g : Nat → Option Nat} (hP : va_P D vwCl w H) (hk : w[k]? = some (a, .inl (c, n, .inr (.inr (.inr (.inr f)))))) (h : ∀ i, i < n → f i = g i) : va_P D vwCl (w.set k (a, .inl (c, n, .inr (.inr (.inr (.inr g)))))) H := by
  intro j q hj
  by_cases hjk : j = k
  · subst hjk
    rw [List.getElem?_set_self (List.getElem?_eq_some_iff.mp hk).1] at hj
    cases hj
    have h1 : H[a]? = some (vp_cell c (n, .inr (.inr (.inr (.inr f))))) := hP j _ hk
    show H[a]? = some (vp_cell c (n, .inr (.inr (.inr (.inr g)))))
    rw [h1, cell_q h]
  · rw [List.getElem?_set_ne (Ne.symm hjk)] at hj
    exact hP j q hj
section NQ
variable {p : Program} {l : Launch} {e : Env} {R : Room} {s : State} {m : MethodId} {args : Array Value} {below : List Frame} {meth : Method} {c : Code} {H H0 : Heap} {locs : List Loc} {cells slots : Nat} {Q : State → Prop}
variable {cc bytes : ByteArray} {nL maxL index f lo pc mc ms : Nat} {Ts ws : List Cond} {own host : String} {y : MethodName} {rest : List Value} {ls : Array Slot} {D : va_G} {cy : Nat → ClassId} {w wr : va_W} {A : Nat → Prop} {b : Nat} {e0 : va_E} {wOut : (Nat → Nat) → va_W}
theorem nq_I0 (S : CallFix p m c cc nL s args Ts own) (hM : Met l y ws (rmz f lo) (sPre [.ref b]) (sPost none) 0 0 (fun _ => False)) (hG : GoodIn Ts ws) (hc : ciOk y bytes maxL none ws 0) (hyn : y.name = "<init>") (hN : va_Nw (.methodLinkNest own index y host) s) (hini : (Cond.initialized y.cls).before args s = true) (hins : (Cond.instanceMethod y).before args s = true)
    (hR : f + 1 ≤ R.frames ∧ 8 + (maxL + 11) + lo ≤ R.locals) (hsz : ls.size = nL) (hcat : (rest.map fun v => v.category).sum ≤ 8) (hf : cells ≤ R.cells ∧ slots ≤ R.slots) (hdg : decode cc pc = .ok (.invokespecial index, 3))
    (kk : W p l e R s m args below meth c H locs cells slots Q (F0 m (pc + 3) ls rest)) : W p l e R s m args below meth c H locs cells slots Q (F0 m pc ls (.ref b :: rest)) := by
  obtain ⟨⟨ws', hw⟩, hd⟩ := hc
  have hr := va_runIN (H := H) (locs := locs) (cells := cells) (slots := slots) (below := below) (meth := meth) (e := e) (R := R) (As := []) (rest := rest) S hM ⟨va_cnB 0 S.2.2.2.2 hG hw rfl rfl hN hini hd hR, hyn, hins⟩ ⟨sPre_blind, fun U _ _ => rfl⟩ (g := F0 m pc ls (.ref b :: rest)) rfl rfl hsz rfl (lv_room hcat) hdg hf
  intro T hT X
  obtain ⟨v, st₀, t, T', L, h0, X', hL, e1, e2, ⟨hv, hh⟩, st⟩ := hr T hT X
  cases hv
  obtain ⟨t2, a1, b1⟩ := kk T' (by rw [e1, hh, h0]) (Stand.forget X' (fun q h => (hL q h).elim))
  exact ⟨t2, st t2 a1, b1⟩
theorem nq_IN (S : CallFix p m c cc nL s args Ts own) (hK : nK D cy s) (hP : va_P D vwCl w H) (hD : va_D A w) (hS : va_S A s.heap H locs) (hA : ∀ q, s.heap.size ≤ q → A q) (i0 : Nat) (isR : List Nat) (hi : w[i0]? = some (b, e0)) (hRs : isR.map (fun i => w[i]?) = wr.map some) (hn : va_nd isR = true) (hdis : ∀ i ∈ isR, i ∉ [i0])
    (hM : Met l y ws { frames := f, cells := mc, slots := ms, locals := lo } (nPre D cy H.size [(b, e0)] [.ref b]) (nQ D [(b, e0)] H.size wOut) mc ms (va_A [(b, e0)] H.size)) (hG : GoodIn Ts ws) (hc : ciOk y bytes maxL none ws 0) (hyn : y.name = "<init>") (hN : va_Nw (.methodLinkNest own index y host) s) (hini : (Cond.initialized y.cls).before args s = true) (hins : (Cond.instanceMethod y).before args s = true)
    (hR : f + 1 ≤ R.frames ∧ 8 + (maxL + 11) + lo ≤ R.locals) (hsz : ls.size = nL) (hcat : (rest.map fun v => v.category).sum ≤ 8) (hf : cells + mc ≤ R.cells ∧ slots + ms ≤ R.slots) (hdg : decode cc pc = .ok (.invokespecial index, 3))
    (kk : ∀ (q : Nat → Nat) (H1 : Heap) (locs1 : List Loc), va_P D vwCl (wr ++ wOut q) H1 → va_D A (wr ++ wOut q) → va_S A s.heap H1 locs1 → W p l e R s m args below meth c H1 locs1 (cells + mc) (slots + ms) Q (F0 m (pc + 3) ls rest)) : W p l e R s m args below meth c H locs cells slots Q (F0 m pc ls (.ref b :: rest)) := by
  obtain ⟨⟨ws', hw⟩, hd⟩ := hc
  have hC : [i0].map (fun i => w[i]?) = ([(b, e0)] : va_W).map some := by simp [hi]
  have hF := va_free (wc := [(b, e0)]) hD hS hA [i0] hC
  refine va_callv (va_runIN S hM ⟨va_cnB 0 S.2.2.2.2 hG hw rfl rfl hN hini hd hR, hyn, hins⟩ ⟨nPre_blind, fun U hU hW => ⟨rfl, by rw [hU], by rw [hU]; exact va_P1 hP hi, nK_warm hW hK⟩⟩ (As := []) (rest := rest) (g := F0 m pc ls (.ref b :: rest)) rfl rfl hsz rfl (lv_room hcat) hdg hf) hS (fun q _ h => hF q h) hF (fun u t H1 locs1 ht hvm hw1 hB hz1 hk1 hS1 => ?_)
  obtain ⟨hP1, hD1⟩ := hB
  rw [ht] at hP1
  obtain ⟨hP2, hD2⟩ := va_join hP hD [i0] isR hC hRs hn hdis hk1 hF hP1 hD1
  exact kk u H1 locs1 hP2 hD2 hS1
theorem nq_I (S : CallFix p m c cc nL s args Ts own) (hK : nK D cy s) (hP : va_P D vwCl w H) (hD : va_D A w) (hS : va_S A s.heap H locs) (hA : ∀ q, s.heap.size ≤ q → A q) (i0 : Nat) (isR : List Nat) (hi : w[i0]? = some (b, e0)) (hRs : isR.map (fun i => w[i]?) = wr.map some) (hn : va_nd isR = true) (hdis : ∀ i ∈ isR, i ∉ [i0])
    (hM : Met l y ws { frames := f, cells := mc, slots := ms, locals := lo } (nPre D cy H.size [(b, e0)] [.ref b]) (nQ D [(b, e0)] H.size wOut) mc ms (va_A [(b, e0)] H.size)) (hG : GoodIn Ts ws) (hc : ciOk y bytes maxL none ws 0) (hyn : y.name = "<init>") (hini : (Cond.initialized y.cls).before args s = true) (hlk : (Cond.methodLink own index y).before args s = true) (hins : (Cond.instanceMethod y).before args s = true)
    (hR : f + 1 ≤ R.frames ∧ 8 + (maxL + 11) + lo ≤ R.locals) (hsz : ls.size = nL) (hcat : (rest.map fun v => v.category).sum ≤ 8) (hf : cells + mc ≤ R.cells ∧ slots + ms ≤ R.slots) (hdg : decode cc pc = .ok (.invokespecial index, 3))
    (kk : ∀ (q : Nat → Nat) (H1 : Heap) (locs1 : List Loc), va_P D vwCl (wr ++ wOut q) H1 → va_D A (wr ++ wOut q) → va_S A s.heap H1 locs1 → W p l e R s m args below meth c H1 locs1 (cells + mc) (slots + ms) Q (F0 m (pc + 3) ls rest)) : W p l e R s m args below meth c H locs cells slots Q (F0 m pc ls (.ref b :: rest)) := by
  obtain ⟨⟨ws', hw⟩, hd⟩ := hc
  have hC : [i0].map (fun i => w[i]?) = ([(b, e0)] : va_W).map some := by simp [hi]
  have hF := va_free (wc := [(b, e0)]) hD hS hA [i0] hC
  refine va_callv (va_runI S hM (cwI 0 S.2.2.2.2 hG hw rfl rfl hini hlk hins hyn hd hR) ⟨nPre_blind, fun U hU hW => ⟨rfl, by rw [hU], by rw [hU]; exact va_P1 hP hi, nK_warm hW hK⟩⟩ (As := []) (rest := rest) (g := F0 m pc ls (.ref b :: rest)) rfl rfl hsz rfl (lv_room hcat) hdg hf) hS (fun q _ h => hF q h) hF (fun u t H1 locs1 ht hvm hw1 hB hz1 hk1 hS1 => ?_)
  obtain ⟨hP1, hD1⟩ := hB
  rw [ht] at hP1
  obtain ⟨hP2, hD2⟩ := va_join hP hD [i0] isR hC hRs hn hdis hk1 hF hP1 hD1
  exact kk u H1 locs1 hP2 hD2 hS1
theorem nq_newa (hx : p.tables.exec = Jvm.exec) (hb : c.code = cc) {atype : ArrayType} (harr : (Cond.arrayClass (newarray.typeOf atype)).before args s = true) {ty : FieldType} (hty : newarray.typeOf atype = ty) (hK : nK D cy s) (hP : va_P D vwCl w H) (hD : va_D A w) (hS : va_S A H0 H locs) (hA : ∀ q, H0.size ≤ q → A q) (j : Nat) {cA0 : ClassId} (hj : (ctys cy)[j]? = some (cA0, ty))
    {n : Int32} {N' : Nat} {a0 : vp_A} (ha : ∀ cA : ClassId, vp_cell cA a0 = arrV cA N' (fun _ => defaultValue ty)) (hn : ¬ n < 0) (hN : n.toNatClampNeg = N') (hbytes : N' * componentBytes ty ≤ 536870912) (hcells : cells + 1 ≤ R.cells) (hslots : slots + N' ≤ R.slots) (hdg : decode cc pc = .ok (.newarray atype, 2))
    (kk : ∀ (q : Nat) (H1 : Heap), va_P D vwCl (w ++ [(q, .inl (cA0, a0))]) H1 → va_D A (w ++ [(q, .inl (cA0, a0))]) → va_S A H0 H1 locs → W p l e R s m args below meth c H1 locs (cells + 1) (slots + N') Q (F0 m (pc + 2) ls (.ref q :: rest))) : W p l e R s m args below meth c H locs cells slots Q (F0 m pc ls (.int n :: rest)) := by
  refine va_newa hx hb harr hty hK.1 hP hD hS hA ha hn hN hbytes hcells hslots hdg (fun q cA H1 hK1 hP1 hD1 hS1 => ?_)
  have h1 := (hK1.2 5 (cA, ty) rfl).2
  have h2 := (hK.1.2 j (cA0, ty) hj).2
  have h3 := RA_uni h1 h2
  subst h3
  exact kk q H1 hP1 hD1 hS1
theorem nq_newq (hx : p.tables.exec = Jvm.exec) (hb : c.code = cc) {C : String} (hown : s.vm.findClass own = some m.cls) (hcl : (Cond.classLink own index C).before args s = true) (hover : va_AO C s) (hK : nK D cy s) (hP : va_P D vwCl w H) (hD : va_D A w) (hS : va_S A H0 H locs) (hA : ∀ q, H0.size ≤ q → A q) (j : Nat) {cA0 : ClassId} (hj : (ctys cy)[j]? = some (cA0, .object C))
    {n : Int32} {N' : Nat} (hn : ¬ n < 0) (hN : n.toNatClampNeg = N') (hbytes : N' * 4 ≤ 536870912) (hcells : cells + 1 ≤ R.cells) (hslots : slots + N' ≤ R.slots) (hdg : decode cc pc = .ok (.anewarray index, 3))
    (kk : ∀ (q : Nat) (H1 : Heap), va_P D vwCl (w ++ [(q, .inl (cA0, N', .inr (.inr (.inr (.inr (fun _ => none))))))]) H1 → va_D A (w ++ [(q, .inl (cA0, N', .inr (.inr (.inr (.inr (fun _ => none))))))]) → va_S A H0 H1 locs → W p l e R s m args below meth c H1 locs (cells + 1) (slots + N') Q (F0 m (pc + 3) ls (.ref q :: rest))) : W p l e R s m args below meth c H locs cells slots Q (F0 m pc ls (.int n :: rest)) := by
  refine va_newq hx hb hown hcl hover hK.1 hP hD hS hA hn hN hbytes hcells hslots hdg (fun q cA H1 hK1 hP1 hD1 hS1 => ?_)
  have h1 := (hK1.2 5 (cA, .object C) rfl).2
  have h2 := (hK.1.2 j (cA0, .object C) hj).2
  have h3 := RA_uni h1 h2
  subst h3
  exact kk q H1 hP1 hD1 hS1
end NQ
theorem nq_entry {l : Launch} {y : MethodName} {ws : List Cond} {rm : Room} {cc : ByteArray} {maxL : Nat} {ret : Option FieldType} {ws' : List Cond} {Qc : Array Value → State → Outcome → State → Prop} {free : Addr → Prop} {D : va_G} {cy : Nat → ClassId} {sz h0 mc ms : Nat} {e0 : va_E} (hy : plainName y.cls = true) (hw : ws = Cond.code y cc maxL ret :: ws') (hlen : (lg_sl [Value.ref h0]).length ≤ maxL) (hyn : y.name = "<init>")
    (body : ∀ (p : Program) (e : Env) (s : State) (m : MethodId) (args : Array Value) (below : List Frame) (meth : Method) (c : Code), CallFix p m c cc maxL s args ws y.cls → meth.sig.returnType = ret → meth.locks = false → meth.name = "<init>" → nK D cy s → s.heap.size = sz → va_P D vwCl [(h0, e0)] s.heap → ∀ ls : Array Slot, lv_has ls maxL (lv_args 0 [Value.ref h0]) → W p l e rm s m args below meth c s.heap [] 0 0 (MQ below Qc args s mc ms free) (F0 m 0 ls [])) : Met l y ws rm (nPre D cy sz [(h0, e0)] [.ref h0]) Qc mc ms free := by
  refine Met.ofW hy hw ?_
  intro p e s m args below meth c s₁ B hml hv
  obtain ⟨hv, hz, hP, hK⟩ := hv
  subst hv
  rw [lg_entry_eq]
  exact body p e s m _ below meth c ⟨B.exec, B.bytes, hml, findClass_of_methodNamed B.named, atoms_spec (ws := ws) B.pre⟩ B.returns B.notSynchronized ((name_of_methodNamed B.named B.method).1.trans hyn) hK hz hP _ (lv_entry [Value.ref h0] hlen)
