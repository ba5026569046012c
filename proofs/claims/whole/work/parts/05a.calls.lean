/-! Contracts over xa_X: xa_M says that a method returns; entry, returns and calls. -/
abbrev xa_rm (fr mc ms lo : Nat) : Room := { frames := fr, cells := mc, slots := ms, locals := lo }
abbrev xa_Qc (D : va_G) (H0 : Heap) (Q : Option Value → xa_H → Nat → Prop) : Array Value → State → Outcome → State → Prop := fun _ _ o t => ∃ (v : Option Value) (h' : xa_H) (sz' : Nat), o = .returned v ∧ Q v h' sz' ∧ xa_P D H0 h' sz' t.heap
def xa_Zr (D : va_G) (H0 : Heap) (mc ms : Nat) (Q : Option Value → xa_H → Nat → Prop) : xa_Z := fun below args s => MQ below (xa_Qc D H0 Q) args s mc ms (fun q => H0.size ≤ q)
abbrev xa_cd (μ : xa_Mu) : Cond := Cond.code μ.1 μ.2.1 μ.2.2.1 μ.2.2.2.1
abbrev xa_pc (D : va_G) (H0 : Heap) (av : List Value) (h : xa_H) (sz : Nat) : Array Value → State → Prop := va_Pc av (fun U => xa_P D H0 h sz U.heap ∧ va_K D xa_cl (xa_tys D) U ∧ xa_N H0 U)
def xa_M (l : Launch) (D : va_G) (H0 : Heap) (μ : xa_Mu) (fr lo mc ms : Nat) (av : List Value) (h : xa_H) (sz : Nat) (Q : Option Value → xa_H → Nat → Prop) : Prop :=
  Met l μ.1 (xa_cd μ :: xa_ws) (xa_rm fr mc ms lo) (xa_pc D H0 av h sz) (xa_Qc D H0 Q) mc ms (fun q => H0.size ≤ q)
theorem xa_enter {l : Launch} {D : va_G} {H0 : Heap} {μ : xa_Mu} {fr lo mc ms : Nat} {av : List Value} {h : xa_H} {sz : Nat} {Q : Option Value → xa_H → Nat → Prop} (hp : plainName μ.1.cls = true) (hh : μ.2.2.2.2 = []) (hfit : Nat.ble (lg_sl av).length μ.2.2.1 = true)
    (kk : xa_X l D H0 μ (xa_rm fr mc ms lo) (xa_Zr D H0 mc ms Q) 0 0 h sz 0 (lv_args 0 av) []) : xa_M l D H0 μ fr lo mc ms av h sz Q := by
  unfold xa_M
  refine Met.ofW (cc := μ.2.1) (maxL := μ.2.2.1) (ret := μ.2.2.2.1) hp rfl ?_
  intro p e s m args below meth c s₁ B hml hv
  obtain ⟨rfl, hP, hK, hN⟩ := hv
  have hts := atoms_spec (ws := xa_cd μ :: xa_ws) B.pre
  have hl := lv_entry av (n := μ.2.2.1) (Nat.le_of_ble_eq_true hfit)
  rw [lg_entry_eq]
  exact kk p e s m _ below meth c s.heap [] _ ⟨B.exec, B.bytes, hml, findClass_of_methodNamed B.named, fun w hw => hts w (List.mem_cons_of_mem _ hw), hK, B.returns, B.notSynchronized, (name_of_methodNamed B.named B.method).1, by rw [hh, show c.exceptionTable = #[] from Array.isEmpty_iff.mp (B.noHandlers (hts _ List.mem_cons_self))]; rfl, hN⟩ hP (fun q hq => by cases hq) hl
theorem xa_blind {D : va_G} {H0 : Heap} {h : xa_H} {sz : Nat} {av : List Value} : FrameBlind (xa_pc D H0 av h sz) := by
  intro a U g mk q
  obtain ⟨q0, qP, qK, qN⟩ := q
  exact ⟨q0, qP, va_K.moved (u := U) (U := U.calling g mk a) (Vm.Alike.refl U.vm) qK, qN.moved (u := U) (U := U.calling g mk a) (Vm.Alike.refl U.vm)⟩
def xa_LB (ν : xa_Mu) (np : Nat) : Prop := xa_cd ν ∈ xa_ws ∧ Cond.initialized ν.1.cls ∈ xa_ws ∧ ν.1.cls ≠ "java/lang/invoke/MethodHandle" ∧ ν.1.cls ≠ "java/lang/invoke/VarHandle" ∧ (parseMethodDescriptor ν.1.desc).map (fun d => d.parameters.length) = some np
theorem xa_pay {ν : xa_Mu} {np : Nat} (hB : xa_LB ν np) {args : Array Value} {s : State} (hts : ∀ w ∈ xa_ws, w.before args s = true) : ∀ w ∈ xa_cd ν :: xa_ws, ∀ (a' : Array Value) (U : State), s.WarmedH U.vm → w.before a' U = true := by
  intro w hw a' U hW
  have h1 : w ∈ xa_ws := by
    rcases List.mem_cons.mp hw with hw | hw
    · rw [hw]; exact hB.1
    · exact hw
  exact xa_keep h1 hW (hts w h1)
theorem xa_callB {R : Room} {s : State} {args : Array Value} {own : String} {idx fr lo mc ms np : Nat} {ν : xa_Mu} (hB : xa_LB ν np) (hts : ∀ w ∈ xa_ws, w.before args s = true) (hl : Cond.methodLink own idx ν.1 ∈ xa_ws) (hR : fr + 1 ≤ R.frames ∧ 8 + (ν.2.2.1 + 11) + lo ≤ R.locals) :
    CallB R s args own idx ν.1 ν.2.1 ν.2.2.1 ν.2.2.2.1 (xa_cd ν :: xa_ws) (xa_rm fr mc ms lo) mc ms np := by
  obtain ⟨b1, b2, b3, b4, b5⟩ := id hB
  refine ⟨rfl, rfl, hR.1, hR.2, xa_pay hB hts, List.mem_cons_self, hts _ b1, hts _ b2, ⟨b3, b4⟩, fun sig h9 => ?_, hts _ hl⟩
  rw [h9] at b5
  exact (Option.some.inj b5).symm
section XC
variable {l : Launch} {D : va_G} {H0 : Heap} {μ ν : xa_Mu} {R : Room} {Z : xa_Z} {k n : Nat} {h : xa_H} {sz pc : Nat} {ls : List (Nat × Value)} {st : List Value}
theorem xa_after {p : Program} {e : Env} {s : State} {m : MethodId} {args : Array Value} {below : List Frame} {meth : Method} {c : Code} {H : Heap} {locs : List Loc} {la : Array Slot} {st0 : List Value} {mc ms : Nat} {Q : Option Value → xa_H → Nat → Prop} {a : Array Value}
    (C : xa_C D H0 μ p s m args meth c) (hL : ∀ q ∈ locs, H0.size ≤ q.base) (hl : lv_has la μ.2.2.1 ls)
    (hr : va_Run p l e R s m args below meth c H locs k n mc ms (F0 m pc la st0) st (xa_Qc D H0 Q a) (fun q => H0.size ≤ q))
    (kk : ∀ (v : Option Value) (h' : xa_H) (sz' : Nat), Q v h' sz' → xa_X l D H0 μ R Z (k + mc) (n + ms) h' sz' (pc + 3) ls (v.toList ++ st)) : W p l e R s m args below meth c H locs k n (Z below args s) (F0 m pc la st0) := by
  intro T hT X
  obtain ⟨v, st₀, t, T', L, h0, X', hL', e1, e2, ⟨v', h', sz', ho, hq, hP'⟩, go⟩ := hr T hT X
  cases ho
  obtain ⟨t2, a1, b1⟩ := kk v h' sz' hq p e s m args below meth c T'.heap (locs ++ L) la C (by rw [e1]; exact hP') (fun q hq => by
    rcases List.mem_append.mp hq with hq | hq
    · exact hL q hq
    · exact hL' q hq) hl T' rfl X'
  exact ⟨t2, go t2 a1, b1⟩
theorem xa_ireturn {mc ms : Nat} {Q : Option Value → xa_H → Nat → Prop} {v : Int32} (hd : decode μ.2.1 pc = .ok (.ireturn, 1)) (hr : μ.2.2.2.1 = some .int) (hk : k ≤ mc) (hn : n ≤ ms) (hq : Q (some (.int v)) h sz) : xa_X l D H0 μ R (xa_Zr D H0 mc ms Q) k n h sz pc ls ([.int v]) := by
  intro p e s m args below meth c H locs la C hP hL hl
  refine W.widen hk hn ?_
  exact W.iret C.1 C.2.1 (C.2.2.2.2.2.2.1.trans hr) (fun t ht hW => ⟨_, h, sz, rfl, hq, by rw [ht]; exact hP⟩) hL hd (hlocks := C.2.2.2.2.2.2.2.1)
theorem xa_zreturn {mc ms : Nat} {Q : Option Value → xa_H → Nat → Prop} {v : Int32} {ty : FieldType} (hd : decode μ.2.1 pc = .ok (.ireturn, 1)) (hr : μ.2.2.2.1 = some ty) (hv : narrow ty (.int v) = .int v) (hk : k ≤ mc) (hn : n ≤ ms) (hq : Q (some (.int v)) h sz) : xa_X l D H0 μ R (xa_Zr D H0 mc ms Q) k n h sz pc ls ([.int v]) := by
  intro p e s m args below meth c H locs la C hP hL hl
  refine W.widen hk hn ?_
  exact W.zret C.1 C.2.1 (C.2.2.2.2.2.2.1.trans hr) hv (fun t ht hW => ⟨_, h, sz, rfl, hq, by rw [ht]; exact hP⟩) hL hd (hlocks := C.2.2.2.2.2.2.2.1)
theorem xa_return {mc ms : Nat} {Q : Option Value → xa_H → Nat → Prop}  (hd : decode μ.2.1 pc = .ok (.return_, 1)) (hr : μ.2.2.2.1 = none) (hk : k ≤ mc) (hn : n ≤ ms) (hq : Q (none) h sz) : xa_X l D H0 μ R (xa_Zr D H0 mc ms Q) k n h sz pc ls ([]) := by
  intro p e s m args below meth c H locs la C hP hL hl
  refine W.widen hk hn ?_
  exact W.vret C.1 C.2.1 (C.2.2.2.2.2.2.1.trans hr) (fun t ht hW => ⟨_, h, sz, rfl, hq, by rw [ht]; exact hP⟩) hL hd (hlocks := C.2.2.2.2.2.2.2.1)
theorem xa_areturn {mc ms : Nat} {Q : Option Value → xa_H → Nat → Prop} {a : Nat} {rt : FieldType} (hd : decode μ.2.1 pc = .ok (.areturn, 1)) (hr : μ.2.2.2.1 = some rt) (hrt : (∃ n, rt = .object n) ∨ ∃ t, rt = .array t) (hk : k ≤ mc) (hn : n ≤ ms) (hq : Q (some (.ref a)) h sz) : xa_X l D H0 μ R (xa_Zr D H0 mc ms Q) k n h sz pc ls ([.ref a]) := by
  intro p e s m args below meth c H locs la C hP hL hl
  refine W.widen hk hn ?_
  exact W.aret C.1 C.2.1 (C.2.2.2.2.2.2.1.trans hr) hrt (Or.inr ⟨a, rfl⟩) (fun t ht hW => ⟨_, h, sz, rfl, hq, by rw [ht]; exact hP⟩) hL hd (hlocks := C.2.2.2.2.2.2.2.1)
theorem xa_areturnN {mc ms : Nat} {Q : Option Value → xa_H → Nat → Prop} {rt : FieldType} (hd : decode μ.2.1 pc = .ok (.areturn, 1)) (hr : μ.2.2.2.1 = some rt) (hrt : (∃ n, rt = .object n) ∨ ∃ t, rt = .array t) (hk : k ≤ mc) (hn : n ≤ ms) (hq : Q (some .null) h sz) : xa_X l D H0 μ R (xa_Zr D H0 mc ms Q) k n h sz pc ls ([.null]) := by
  intro p e s m args below meth c H locs la C hP hL hl
  refine W.widen hk hn ?_
  exact W.aret C.1 C.2.1 (C.2.2.2.2.2.2.1.trans hr) hrt (Or.inl rfl) (fun t ht hW => ⟨_, h, sz, rfl, hq, by rw [ht]; exact hP⟩) hL hd (hlocks := C.2.2.2.2.2.2.2.1)
theorem xa_areturnQ {mc ms : Nat} {Q : Option Value → xa_H → Nat → Prop} {r : Option Nat} {rt : FieldType} (hd : decode μ.2.1 pc = .ok (.areturn, 1)) (hr : μ.2.2.2.1 = some rt) (hrt : (∃ n, rt = .object n) ∨ ∃ t, rt = .array t) (hk : k ≤ mc) (hn : n ≤ ms) (hq : Q (some (va_rf r)) h sz) : xa_X l D H0 μ R (xa_Zr D H0 mc ms Q) k n h sz pc ls [va_rf r] := by
  cases r with
  | none => exact xa_areturnN hd hr hrt hk hn hq
  | some a => exact xa_areturn hd hr hrt hk hn hq
def xa_LS (own : String) (idx : Nat) (ν : xa_Mu) (np : Nat) : Prop := xa_LB ν np ∧ Cond.methodLink own idx ν.1 ∈ xa_ws ∧ Cond.static ν.1 ∈ xa_ws
theorem xa_callS {idx fr lo mc ms np : Nat} {As st0 : List Value} {Q : Option Value → xa_H → Nat → Prop} (hd : decode μ.2.1 pc = .ok (.invokestatic idx, 3)) (hLk : xa_LS μ.1.cls idx ν np) (hM : xa_M l D H0 ν fr lo mc ms As h sz Q) (hst : st0 = As.reverse ++ st) (hn : As.length = np) (hw : (st.map fun v => v.category).sum ≤ 8) (hR : fr + 1 ≤ R.frames ∧ 8 + (ν.2.2.1 + 11) + lo ≤ R.locals) (hc : k + mc ≤ R.cells) (hs : n + ms ≤ R.slots) (kk : ∀ (v : Option Value) (h' : xa_H) (sz' : Nat), Q v h' sz' → xa_X l D H0 μ R Z (k + mc) (n + ms) h' sz' (pc + 3) ls (v.toList ++ st)) : xa_X l D H0 μ R Z k n h sz pc ls st0 := by
  intro p e s m args below meth c H locs la C hP hL hl
  obtain ⟨⟨b1, b2, b3, b4, b5⟩, b6, b7⟩ := hLk
  have hts := C.2.2.2.2.1
  refine xa_after C hL hl (va_runS (As := As) (rest := st) ⟨C.1, C.2.1, C.2.2.1, C.2.2.2.1, hts⟩ hM ⟨xa_callB ⟨b1, b2, b3, b4, b5⟩ hts b6 hR, hts _ b7⟩ ⟨xa_blind, fun U hU hW => ⟨rfl, by rw [hU]; exact hP, va_K.moved hW.alike C.2.2.2.2.2.1, C.2.2.2.2.2.2.2.2.2.2.moved hW.alike⟩⟩ rfl hn hl.1 hst (lv_room hw) hd ⟨hc, hs⟩) kk
def xa_LSN (own : String) (idx : Nat) (ν : xa_Mu) (np : Nat) (host : String) : Prop := xa_LB ν np ∧ Cond.methodLinkNest own idx ν.1 host ∈ xa_ws ∧ Cond.static ν.1 ∈ xa_ws
theorem xa_callSN {idx fr lo mc ms np : Nat} {As st0 : List Value} {Q : Option Value → xa_H → Nat → Prop} {host : String} (hd : decode μ.2.1 pc = .ok (.invokestatic idx, 3)) (hLk : xa_LSN μ.1.cls idx ν np host) (hM : xa_M l D H0 ν fr lo mc ms As h sz Q) (hst : st0 = As.reverse ++ st) (hn : As.length = np) (hw : (st.map fun v => v.category).sum ≤ 8) (hR : fr + 1 ≤ R.frames ∧ 8 + (ν.2.2.1 + 11) + lo ≤ R.locals) (hc : k + mc ≤ R.cells) (hs : n + ms ≤ R.slots) (kk : ∀ (v : Option Value) (h' : xa_H) (sz' : Nat), Q v h' sz' → xa_X l D H0 μ R Z (k + mc) (n + ms) h' sz' (pc + 3) ls (v.toList ++ st)) : xa_X l D H0 μ R Z k n h sz pc ls st0 := by
  intro p e s m args below meth c H locs la C hP hL hl
  obtain ⟨⟨b1, b2, b3, b4, b5⟩, b6, b7⟩ := hLk
  have hts := C.2.2.2.2.1
  refine xa_after C hL hl (va_runSN (As := As) (rest := st) ⟨C.1, C.2.1, C.2.2.1, C.2.2.2.1, hts⟩ hM ⟨⟨⟨rfl, rfl, hR.1, hR.2, xa_pay ⟨b1, b2, b3, b4, b5⟩ hts, List.mem_cons_self⟩, hts _ b1, hts _ b2, ⟨b3, b4⟩, fun sig h9 => by rw [h9] at b5; exact (Option.some.inj b5).symm, hts _ b6⟩, hts _ b7, trivial⟩ ⟨xa_blind, fun U hU hW => ⟨rfl, by rw [hU]; exact hP, va_K.moved hW.alike C.2.2.2.2.2.1, C.2.2.2.2.2.2.2.2.2.2.moved hW.alike⟩⟩ rfl hn hl.1 hst (lv_room hw) hd ⟨hc, hs⟩) kk
def xa_LI (own : String) (idx : Nat) (ν : xa_Mu) (np : Nat) : Prop := xa_LB ν np ∧ Cond.methodLink own idx ν.1 ∈ xa_ws ∧ Cond.instanceMethod ν.1 ∈ xa_ws ∧ ν.1.name = "<init>" ∧ ν.2.2.2.1 = none
theorem xa_callI {idx fr lo mc ms np : Nat} {As st0 : List Value} {Q : Option Value → xa_H → Nat → Prop} {b : Nat} (hd : decode μ.2.1 pc = .ok (.invokespecial idx, 3)) (hLk : xa_LI μ.1.cls idx ν np) (hM : xa_M l D H0 ν fr lo mc ms (.ref b :: As) h sz Q) (hst : st0 = As.reverse ++ .ref b :: st) (hn : As.length = np) (hw : (st.map fun v => v.category).sum ≤ 8) (hR : fr + 1 ≤ R.frames ∧ 8 + (ν.2.2.1 + 11) + lo ≤ R.locals) (hc : k + mc ≤ R.cells) (hs : n + ms ≤ R.slots) (kk : ∀ (v : Option Value) (h' : xa_H) (sz' : Nat), Q v h' sz' → xa_X l D H0 μ R Z (k + mc) (n + ms) h' sz' (pc + 3) ls (v.toList ++ st)) : xa_X l D H0 μ R Z k n h sz pc ls st0 := by
  intro p e s m args below meth c H locs la C hP hL hl
  obtain ⟨⟨b1, b2, b3, b4, b5⟩, b6, b7, b8, b9⟩ := hLk
  have hts := C.2.2.2.2.1
  obtain ⟨y, cc, nL, ret, hh⟩ := ν
  cases (show ret = none from b9)
  refine xa_after C hL hl (va_runI (As := As) (rest := st) ⟨C.1, C.2.1, C.2.2.1, C.2.2.2.1, hts⟩ hM ⟨xa_callB ⟨b1, b2, b3, b4, b5⟩ hts b6 hR, b8, hts _ b7⟩ ⟨xa_blind, fun U hU hW => ⟨rfl, by rw [hU]; exact hP, va_K.moved hW.alike C.2.2.2.2.2.1, C.2.2.2.2.2.2.2.2.2.2.moved hW.alike⟩⟩ rfl hn hl.1 hst (lv_room hw) hd ⟨hc, hs⟩) kk
theorem xa_recv {s : State} {H : Heap} {ci b : Nat} {q : vw_C} {fs : List Value} (hc : xa_cl[ci]? = some q) (hK : va_K D xa_cl (xa_tys D) s) (hP : xa_P D H0 h sz H) (hb : h b = some (.inr (ci, fs))) : ∃ cellB : Cell, H[b]? = some cellB ∧ cellB.vm.isStatics = false ∧ s.vm.findClass q.1 = some cellB.cls := by
  obtain ⟨r, h1, cell, q1, q2, q3, -⟩ := (hP.2.2.2 b _ hb).2
  exact ⟨cell, q1, by rw [q3]; rfl, by rw [q2]; exact (hK.1 ci q hc).2.1⟩
def xa_LV (own : String) (idx : Nat) (ν : xa_Mu) (ci np : Nat) : Prop := xa_LB ν np ∧ Cond.methodLink own idx ν.1 ∈ xa_ws ∧ Cond.instanceMethod ν.1 ∈ xa_ws ∧ Cond.selects ν.1.cls ν.1 ν.1 ∈ xa_ws ∧ ∃ q : vw_C, xa_cl[ci]? = some q ∧ q.1 = ν.1.cls
theorem xa_callV {idx fr lo mc ms np : Nat} {As st0 : List Value} {Q : Option Value → xa_H → Nat → Prop} {b ci : Nat} {fs : List Value} (hd : decode μ.2.1 pc = .ok (.invokevirtual idx, 3)) (hLk : xa_LV μ.1.cls idx ν ci np) (hb : h b = some (.inr (ci, fs))) (hM : xa_M l D H0 ν fr lo mc ms (.ref b :: As) h sz Q) (hst : st0 = As.reverse ++ .ref b :: st) (hn : As.length = np) (hw : (st.map fun v => v.category).sum ≤ 8) (hR : fr + 1 ≤ R.frames ∧ 8 + (ν.2.2.1 + 11) + lo ≤ R.locals) (hc : k + mc ≤ R.cells) (hs : n + ms ≤ R.slots) (kk : ∀ (v : Option Value) (h' : xa_H) (sz' : Nat), Q v h' sz' → xa_X l D H0 μ R Z (k + mc) (n + ms) h' sz' (pc + 3) ls (v.toList ++ st)) : xa_X l D H0 μ R Z k n h sz pc ls st0 := by
  intro p e s m args below meth c H locs la C hP hL hl
  obtain ⟨⟨b1, b2, b3, b4, b5⟩, b6, b7, b8, q, b9, b10⟩ := hLk
  have hts := C.2.2.2.2.1
  have hrecv := xa_recv b9 C.2.2.2.2.2.1 hP hb
  rw [b10] at hrecv
  refine xa_after C hL hl (va_runV (As := As) (rest := st) (C := ν.1.cls) ⟨C.1, C.2.1, C.2.2.1, C.2.2.2.1, hts⟩ hM ⟨xa_callB ⟨b1, b2, b3, b4, b5⟩ hts b6 hR, hts _ b7, hts _ b8⟩ ⟨xa_blind, hrecv, fun U hU hW => ⟨rfl, by rw [hU]; exact hP, va_K.moved hW.alike C.2.2.2.2.2.1, C.2.2.2.2.2.2.2.2.2.2.moved hW.alike⟩⟩ rfl hn hl.1 hst (lv_room hw) hd ⟨hc, hs⟩) kk
theorem xa_objInit {idx a : Nat} (hl1 : Cond.methodLink μ.1.cls idx Lib.objectInit ∈ xa_ws) (hl2 : Cond.instanceMethod Lib.objectInit ∈ xa_ws) (hl3 : Cond.code Lib.objectInit ⟨#[0xb1]⟩ 1 none ∈ xa_ws) (hd : decode μ.2.1 pc = .ok (.invokespecial idx, 3)) (hf : 1 ≤ R.frames) (hlo : (st.map fun v => v.category).sum + 12 ≤ R.locals) (kk : xa_X l D H0 μ R Z k n h sz (pc + 3) ls st) : xa_X l D H0 μ R Z k n h sz pc ls (.ref a :: st) := by
  intro p e s m args below meth c H locs la C hP hL hl
  have hts := C.2.2.2.2.1
  refine W.objInit C.1 C.2.1 C.2.2.2.1 (hts _ hl1) (hts _ hl2) (hts _ hl3) rfl (by rw [C.2.2.1]; exact hl.1) rfl hd hf (by show 2 * 0 + _ + 12 ≤ _; omega) ?_
  exact (kk p e s m args below meth c H locs la C hP hL hl)
end XC
