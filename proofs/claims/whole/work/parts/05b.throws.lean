/-! Methods that throw: a new exception without a message, its way through a caller, its catching. -/
theorem xa_SF.lays {H0 : Heap} {nm ds : String} {U : State} {args : Array Value} (h : xa_SF H0 nm ds U) (hq : ∀ q : Nat, q < H0.size → U.heap[q]? = H0[q]?) : (Cond.laysStatic "java/lang/Throwable" nm ds).before args U = true := by
  obtain ⟨c, k, i, f, a, cell, v, h1, h2, h3, h4, h5, h6, h7, h8, h9, h10⟩ := h
  have hc : U.heap[a]? = some cell := by rw [hq a (Array.getElem?_eq_some_iff.mp h5).1]; exact h5
  simp [Cond.before, Cond.holds, Cond.value, h1, h2, h3, h4, hc, h6, h7, h8, h9]
theorem xa_SF.isRef {H0 : Heap} {nm ds : String} {U : State} {args : Array Value} (h : xa_SF H0 nm ds U) (hq : ∀ q : Nat, q < H0.size → U.heap[q]? = H0[q]?) : (Cond.isRef (.static "java/lang/Throwable" nm ds)).before args U = true := by
  obtain ⟨c, k, i, f, a, cell, v, h1, h2, h3, h4, h5, h6, h7, h8, h9, h10, h11⟩ := h
  have hc : U.heap[a]? = some cell := by rw [hq a (Array.getElem?_eq_some_iff.mp h5).1]; exact h5
  rcases h11 with rfl | ⟨t, rfl⟩ <;> simp [Cond.before, Cond.holds, Cond.value, Term.eval, State.fieldNamed?, h2, h3, h4, hc, h6, h10]
theorem xa_SF.of {H0 : Heap} {nm ds : String} {U : State} {args : Array Value} (hU : U.heap = H0) (h : (Cond.laysStatic "java/lang/Throwable" nm ds).before args U = true) (hr : (Cond.isRef (.static "java/lang/Throwable" nm ds)).before args U = true) : xa_SF H0 nm ds U := by
  obtain ⟨c, k, i, f, a, cell, hc, hi, hst, ha, hcell, hs, hcls, hlt, hty⟩ := Cond.laysStatic_spec h
  cases hv : (Term.static "java/lang/Throwable" nm ds).eval args U none [] U with
  | none => simp [Cond.before, Cond.holds, Cond.value, hv] at hr
  | some w =>
    obtain ⟨hst', a', cell', ha', hcell', -, hslot⟩ := Term.static_spec hi hv
    cases ha.symm.trans ha'
    cases hcell.symm.trans hcell'
    refine ⟨c, k, i, f, a, cell, w, hc, hi, hst, ha, by rw [← hU]; exact hcell, hs, hcls, hlt, hty, hslot, ?_⟩
    simp only [Cond.before, Cond.holds, Cond.value, hv] at hr
    cases w <;> simp_all
section XR
variable {p : Program} {l : Launch} {e : Env} {R : Room} {s : State} {m : MethodId} {args : Array Value} {below : List Frame} {meth : Method} {c : Code} {T : State} {locs : List Loc} {cells slots : Nat}
/-- the same invocation, as if it began at the present state -/
theorem xa_rebase (X : Stand p l e R s m args below meth c T locs cells slots) (hc : cells ≤ R.cells) (hs : slots ≤ R.slots) :
    Stand p l e { frames := R.frames, cells := R.cells - cells, slots := R.slots - slots, locals := R.locals } (T.setFrames (.invoking m args :: below)) m args below meth c T [] 0 0 := by
  obtain ⟨g₀, hfr⟩ := X.frames_eq
  have hcur : T.cur < T.threads.size := State.cur_lt_of_frames hfr
  have hf' : (T.setFrames (.invoking m args :: below)).frames = .invoking m args :: below := State.frames_setFrames _ hcur
  have hm' : (T.setFrames (.invoking m args :: below)).vm.method? m = some meth := X.method'
  have hl1 := State.localsInUse_invoking X.frames X.method X.code
  have hl2 := State.localsInUse_invoking hf' hm' X.code
  refine ⟨X.admits, X.cas, X.clock, hf', ?_, ?_, hm', X.code, X.here, X.tail, State.WarmedH.refl _, (State.stackLimits_setFrames _ _ _).symm, (State.stackBytes_setFrames _ _).symm, ?_⟩
  · have hr := X.room
    have h1 := X.heapSize
    have h2 := X.used
    have h3 := X.book
    have h3' : (T.setFrames (.invoking m args :: below)).slotsTrue = true := h3
    have h4 : (T.setFrames (.invoking m args :: below)).heap.size = T.heap.size := rfl
    have h5 : (T.setFrames (.invoking m args :: below)).slotsUsed = T.slotsUsed := rfl
    simp only [State.hasRoom, Bool.and_eq_true, decide_eq_true_eq, hl1, hl2, hf', X.frames, List.length_cons, State.stackLimits_setFrames, X.limits, State.stackBytes_setFrames, X.bytes, h4, h5, h3'] at hr ⊢
    obtain ⟨⟨⟨⟨r1, r2, r3, r4, r5, r6⟩, r7⟩, r8⟩, r9⟩ := hr
    refine ⟨⟨⟨⟨r1, r2, r3, r4, r5, r6⟩, by omega⟩, by omega⟩, trivial⟩
  · have hh := X.hears
    rcases below with _ | ⟨y, r⟩
    · simp only [State.hears, hm', X.method] at hh ⊢
      exact hh
    · cases y <;> first
        | (simp only [State.hears, hm', X.method] at hh ⊢; exact hh)
        | (simp only [State.hears, State.code?_eq] at hh ⊢
           rw [show (T.setFrames _).vm = T.vm from rfl, X.warmed.alike.method?]
           exact hh)
        | rfl
  · obtain ⟨t, ht, -⟩ := State.frames_cons hf'
    obtain ⟨t0, ht0, -⟩ := State.frames_cons hfr
    have h := (State.sameButNew.refl (T.setFrames (.invoking m args :: below)) ht).setFrames T.frames (State.cur_lt_of_frames hf')
    rw [State.setFrames_setFrames, State.setFrames_self ht0] at h
    exact h
end XR
def xa_Te (D : va_G) (H0 : Heap) (mc ms : Nat) (Xn : String) (Q : xa_H → Nat → Prop) (st : State) (o : Outcome) (t : State) : Prop :=
  ∃ x : Nat, o = .threw x ∧ (∃ (h' : xa_H) (sz' : Nat), Q h' sz' ∧ xa_P D H0 h' sz' t.heap) ∧ (∃ ce : Cell, t.heap[x]? = some ce ∧ ce.vm = .none ∧ st.vm.findClass Xn = some ce.cls) ∧ st.WarmedH t.vm ∧ ∃ L : List Loc, st.sameButNew ({ t with vm := st.vm } : State) L mc ms ∧ ∀ q ∈ L, H0.size ≤ q.base
def xa_Zt (D : va_G) (H0 : Heap) (mc ms : Nat) (Xn : String) (Q : xa_H → Nat → Prop) : xa_Z := fun below _ s t => ∃ o, t.status = .running ∧ Ended t below o ∧ xa_Te D H0 mc ms Xn Q s o t
def xa_T (l : Launch) (D : va_G) (H0 : Heap) (μ : xa_Mu) (fr lo mc ms : Nat) (av : List Value) (h : xa_H) (sz : Nat) (Xn : String) (Q : xa_H → Nat → Prop) : Prop :=
  MetFree l μ.1 (headSpec (xa_cd μ :: xa_ws) (xa_rm fr mc ms lo)) (xa_pc D H0 av h sz) (fun _ _ _ _ _ => True) (fun _ st o t => xa_Te D H0 mc ms Xn Q st o t)
theorem xa_enterT {l : Launch} {D : va_G} {H0 : Heap} {μ : xa_Mu} {fr lo mc ms : Nat} {av : List Value} {h : xa_H} {sz : Nat} {Xn : String} {Q : xa_H → Nat → Prop} (hp : plainName μ.1.cls = true) (hh : μ.2.2.2.2 = []) (hfit : Nat.ble (lg_sl av).length μ.2.2.1 = true)
    (kk : xa_X l D H0 μ (xa_rm fr mc ms lo) (xa_Zt D H0 mc ms Xn Q) 0 0 h sz 0 (lv_args 0 av) []) : xa_T l D H0 μ fr lo mc ms av h sz Xn Q := by
  unfold xa_T
  refine MetFree.of_bodyS (code := μ.2.1) (maxLocals := μ.2.2.1) (ret := μ.2.2.2.1) hp ?_ ?_
  · intro args s m h0 hn
    obtain ⟨meth, c, h1, h2, h3, h4, h5, h6, -, -⟩ := Cond.code_spec hn (atoms_spec (ws := xa_cd μ :: xa_ws) h0 _ List.mem_cons_self)
    exact ⟨meth, c, h1, h2, h3, h4, h5, h6⟩
  · intro p e s m args below meth c s₁ B hml hv _
    obtain ⟨rfl, hP, hK, hN⟩ := hv
    have hts := atoms_spec (ws := xa_cd μ :: xa_ws) B.pre
    have hl := lv_entry av (n := μ.2.2.1) (Nat.le_of_ble_eq_true hfit)
    have hh0 : s₁.heap = s.heap := by rw [B.state]; rfl
    obtain ⟨t, a1, o, b1, b2, b3⟩ := kk p e s m _ below meth c s.heap [] _ ⟨B.exec, B.bytes, hml, findClass_of_methodNamed B.named, fun w hw => hts w (List.mem_cons_of_mem _ hw), hK, B.returns, B.notSynchronized, (name_of_methodNamed B.named B.method).1, by rw [hh, show c.exceptionTable = #[] from Array.isEmpty_iff.mp (B.noHandlers (hts _ List.mem_cons_self))]; rfl, hN⟩ hP (fun q hq => by cases hq) hl s₁ hh0 (Stand.of_body B)
    refine ⟨t, o, ?_, b1, b2, b3⟩
    rw [lg_entry_eq]
    exact a1
def xa_thr (own : String) (ix ic : Nat) (Xn : String) : Prop := Cond.classLink own ix Xn ∈ xa_ws ∧ Cond.initialized Xn ∈ xa_ws ∧ Bundle.fit Xn = true ∧ ∀ w ∈ Bundle.ownAtoms0 own ic Xn xa_up, w ∈ xa_ws ∨ w = Cond.laysStatic "java/lang/Throwable" "UNASSIGNED_STACK" "[Ljava/lang/StackTraceElement;" ∨ w = Cond.laysStatic "java/lang/Throwable" "SUPPRESSED_SENTINEL" "Ljava/util/List;" ∨ w = Cond.isRef (.static "java/lang/Throwable" "UNASSIGNED_STACK" "[Ljava/lang/StackTraceElement;") ∨ w = Cond.isRef (.static "java/lang/Throwable" "SUPPRESSED_SENTINEL" "Ljava/util/List;")
section XT
variable {l : Launch} {D : va_G} {H0 : Heap} {μ ν : xa_Mu} {R : Room} {Z : xa_Z} {k n : Nat} {h : xa_H} {sz pc : Nat} {ls : List (Nat × Value)} {st : List Value}
theorem xa_throw {ix ic : Nat} {Xn : String} {mc ms : Nat} {Q : xa_H → Nat → Prop} (htr : l.stackTraces = false) (hE : μ.2.2.2.2 = []) (hX : xa_thr μ.1.cls ix ic Xn)
    (d0 : decode μ.2.1 pc = .ok (.new ix, 3)) (d1 : decode μ.2.1 (pc + 3) = .ok (.dup, 1)) (d2 : decode μ.2.1 (pc + 4) = .ok (.invokespecial ic, 3)) (d3 : decode μ.2.1 (pc + 7) = .ok (.athrow, 1))
    (hk : k + 1 ≤ R.cells) (hs : n + 6 ≤ R.slots) (hkm : k + 1 ≤ mc) (hsm : n + 6 ≤ ms) (hf : 6 ≤ R.frames) (hlo : (st.map fun v => v.category).sum + 81 ≤ R.locals) (hq : ∀ sz', sz ≤ sz' → Q h sz') : xa_X l D H0 μ R (xa_Zt D H0 mc ms Xn Q) k n h sz pc ls st := by
  intro p e s m args below meth c H locs la C hP hL hl T hT X
  obtain ⟨hx1, hx2, hx3, hx4⟩ := hX
  have X0 := xa_rebase X (by omega) (by omega)
  have hW0 : s.WarmedH (T.setFrames (.invoking m args :: below)).vm := X.warmed
  have hheap0 : (T.setFrames (.invoking m args :: below)).heap = H := hT
  have hts0 : ∀ w ∈ xa_ws, w.before args (T.setFrames (.invoking m args :: below)) = true := fun w hw => xa_keep hw hW0 (C.2.2.2.2.1 w hw)
  have hown0 : (T.setFrames (.invoking m args :: below)).vm.findClass μ.1.cls = some m.cls := by rw [hW0.alike.findClass]; exact C.2.2.2.1
  have hq0 : ∀ q : Nat, q < H0.size → (T.setFrames (.invoking m args :: below)).heap[q]? = H0[q]? := by rw [hheap0]; exact hP.2.2.1
  have hN0 : xa_N H0 (T.setFrames (.invoking m args :: below)) := C.2.2.2.2.2.2.2.2.2.2.moved hW0.alike
  have hat : ∀ w ∈ Bundle.ownAtoms0 μ.1.cls ic Xn xa_up, w.before args (T.setFrames (.invoking m args :: below)) = true := by
    intro w hw
    rcases hx4 w hw with h1 | rfl | rfl | rfl | rfl
    · exact hts0 w h1
    · exact hN0.1.lays hq0
    · exact hN0.2.1.lays hq0
    · exact hN0.1.isRef hq0
    · exact hN0.2.1.isRef hq0
  have htr' : e.platform.stackTraces = false := by rw [X.admits.platform]; exact htr
  have hcd : c.exceptionTable.toList = [] := by
    have h1 := C.2.2.2.2.2.2.2.2.2.1
    rw [hE] at h1
    exact List.map_eq_nil_iff.mp h1
  generalize hs' : T.setFrames (.invoking m args :: below) = s' at X0 hW0 hheap0 hts0 hown0 hat
  obtain ⟨vm₁, cX, kX, hfX, hkX, -, -, X₁, st1⟩ := X0.newCold C.1 (own := μ.1.cls) (C := Xn) (index := ix) (n := 6) hown0 (hts0 _ hx1) (hat (.instantiable Xn 6) (by simp [Bundle.ownAtoms0])) (hts0 _ hx2)
    (g := F0 m pc la st) rfl (by rw [C.2.1]; exact d0) (by show 0 + 1 ≤ R.cells - k; omega) (by show 0 + 6 ≤ R.slots - n; omega)
  generalize hV : (T.setVm vm₁).pushCell { cls := cX, slots := kX.instanceTypes.map defaultValue, vm := .none } = V at X₁ st1
  have hcellA : V.heap[T.heap.size]? = some (freshCell cX kX) := by rw [← hV]; exact State.heap_pushCell_size _ _
  have hnew : s'.heap.size ≤ T.heap.size := by rw [hheap0, hT]; exact Nat.le_refl _
  obtain ⟨U, hsteps, hrun, hend, hWU, hsame, ce, hce, Kc⟩ := X₁.ctorThrow0 C.1 htr' (own := μ.1.cls) (cls := Xn) (names := xa_up) (ic := ic) hown0 hx3 xa_up_fit hat (fun y hy => by cases hy) hfX hkX hcellA hnew
    (g := F0 m (pc + 4) la (.ref T.heap.size :: .ref T.heap.size :: st)) rfl (by rw [C.2.2.1]; exact hl.1) rfl rfl (rest := st) rfl (by rw [C.2.1]; exact d2) (by rw [C.2.1]; exact d3) (by rw [hcd]; intro x hx; cases hx) (by show 2 + 3 < R.frames; omega) (by show 2 * 0 + (1 + (st.map fun v => v.category).sum) + 80 ≤ R.locals; omega) (hlocks := C.2.2.2.2.2.2.2.1)
  have hkeep : ∀ (a : Nat) (cell : Cell), H[a]? = some cell → U.heap[a]? = some cell := fun a cell ha => State.sameButNew.old_cell (s' := { U with vm := s'.vm }) hsame (by rw [hheap0]; exact ha)
  have hsz : sz ≤ U.heap.size := by
    have h1 : s'.heap.size ≤ U.heap.size := hsame.2.1
    rw [hheap0, hP.1] at h1
    exact h1
  refine ⟨U, st1 _ ?_, .threw T.heap.size, hrun, hend, T.heap.size, rfl, ⟨h, U.heap.size, hq _ hsz, rfl, Nat.le_trans hP.2.1 hsz, fun q hq1 => ?_, fun a e' ha => ⟨(hP.2.2.2 a e' ha).1, (hP.2.2.2 a e' ha).2.kept ?_⟩⟩, ⟨ce, hce, Kc.vm, by rw [← hW0.alike.findClass]; exact Kc.cls⟩, ?_, locs, ?_, hL⟩
  · show Steps p.tables e below (V.setTop (F0 m (pc + 3) la (.ref T.heap.size :: st))) U
    jvm_step X₁.here [X₁.here.top, C.1, C.2.1, d1, Value.category]
    exact hsteps
  · have h1 : H0[q]? = some H0[q] := Array.getElem?_eq_getElem hq1
    rw [h1]
    exact hkeep q _ ((hP.2.2.1 q hq1).trans h1)
  · have hlt : a < H.size := (hP.2.2.2 a e' ha).2.lt
    have h1 : H[a]? = some H[a] := Array.getElem?_eq_getElem hlt
    show U.heap[a]? = H[a]?
    rw [h1]
    exact hkeep a _ h1
  · exact State.WarmedH.trans (t := s') hW0 hWU
  · have h2 : (T.setVm s.vm).sameButNew ({ U with vm := s.vm } : State) [] 1 6 := by
      subst hs'
      obtain ⟨e1, e2, e3, e4, e5, e6⟩ := hsame
      refine ⟨?_, e2, e3, e4, e5, e6⟩
      have e7 := congrArg (fun x : State => x.setVm s.vm) e1
      rw [State.setFrames_setFrames] at e7
      exact e7
    have h3 := X.same.trans h2
    rw [List.append_nil] at h3
    exact h3.mono hkm hsm
end XT
section XI
variable {l : Launch} {D : va_G} {H0 : Heap} {μ ν : xa_Mu} {R : Room} {Z : xa_Z} {k n : Nat} {h : xa_H} {sz pc : Nat} {ls : List (Nat × Value)} {st : List Value}
variable {p : Program} {e : Env} {s : State} {m : MethodId} {args : Array Value} {below : List Frame} {meth : Method} {c : Code} {T : State} {locs : List Loc}
/-- a callee throws: where the caller stands then -/
theorem xa_inv (X : Stand p l e R s m args below meth c T locs k n) {fr lo mc ms np : Nat} {As : List Value} {Xn : String} {Q : xa_H → Nat → Prop} (hM : xa_T l D H0 ν fr lo mc ms As h sz Xn Q) (hts : ∀ w ∈ xa_ws, w.before args s = true) (hB : xa_LB ν np) (hK : va_K D xa_cl (xa_tys D) s) (hN : xa_N H0 s)
    (hP : xa_P D H0 h sz T.heap) (hL : ∀ q ∈ locs, H0.size ≤ q.base) {mk : MethodId} (hn : T.methodNamed? ν.1 = some mk) {g : JFrame} (hg : g.method = m) (hsize : g.locals.size = c.maxLocals) {ig : Instr} {len : Nat} (hdg : decode c.code g.pc = .ok (ig, len)) (hw : 2 * g.monitorRoom + (g.stack.map fun v => v.category).sum ≤ 8)
    (hR : fr + 1 ≤ R.frames ∧ 8 + (ν.2.2.1 + 11) + lo ≤ R.locals) (hc : k + mc ≤ R.cells) (hs : n + ms ≤ R.slots) :
    ∃ (x : Nat) (T' : State) (locs' : List Loc) (h' : xa_H) (sz' : Nat), Stand p l e R s m args below meth c T' locs' (k + mc) (n + ms) ∧ (∀ q ∈ locs', H0.size ≤ q.base) ∧ Q h' sz' ∧ xa_P D H0 h' sz' T'.heap ∧ (∃ ce : Cell, T'.heap[x]? = some ce ∧ ce.vm = .none ∧ s.vm.findClass Xn = some ce.cls) ∧
      Steps p.tables e below (doInvoke e (T.setTop g) [] mk As.toArray).1 ((T'.setTop g).pushFrame (.throwing x)) := by
  have hW := X.warmed
  have hcodeT : (xa_cd ν).before As.toArray T = true := xa_keep hB.1 hW (hts _ hB.1)
  have hinitT : (Cond.initialized ν.1.cls).before As.toArray T = true := xa_keep hB.2.1 hW (hts _ hB.2.1)
  obtain ⟨methY, cY, hmY, hcY, -, hlY, -, -, -, -⟩ := Cond.code_spec hn hcodeT
  obtain ⟨kY, hkY, -⟩ := className_of_methodNamed hn
  have hinitY : kY.init = .initialized := Cond.initialized_spec (findClass_of_methodNamed hn) hkY hinitT
  have hAt : At T g.method c below := by rw [hg]; exact X.here
  have hpre : (headSpec (xa_cd ν :: xa_ws) (xa_rm fr mc ms lo)).pre.before As.toArray T = true := atoms_intro fun w hw => by
    rcases List.mem_cons.mp hw with hw | hw
    · rw [hw]; exact hcodeT
    · exact xa_keep hw hW (hts _ hw)
  have happ : (headSpec (xa_cd ν :: xa_ws) (xa_rm fr mc ms lo)).appliesLoose ν.1 e.platform (T.calling g mk As.toArray) = true :=
    Spec.appliesLoose_calling (g := g) hAt hdg hn hkY hinitY (X.room_calling (g := g) (R' := xa_rm fr mc ms lo) hsize hmY hcY hR.1 (by rw [hlY]; have := hR.2; show _ + _ + _ + lo ≤ _; omega) hc hs) hpre
  obtain ⟨mid, hmid⟩ := hAt.above
  have hfr : (T.setTop g).frames = (.java g :: mid) ++ below := by rw [State.frames_setTop' g hAt.top, hmid]; rfl
  obtain ⟨o, s₂, hsteps, -, hend, hq⟩ := Steps.callFree hM p X.admits X.cas X.clock (acts := []) hfr happ ⟨rfl, hP, va_K.moved hW.alike hK, hN.moved hW.alike⟩ trivial
  obtain ⟨x, rfl, ⟨h', sz', hQ, hP'⟩, ⟨ce, hce, hcv, hcc⟩, hW₂, L, ⟨e2, q2, q3, q4, q5, q6⟩, hL'⟩ := hq
  rw [State.frames_setTop' g hAt.top] at hend
  have hf₂ : s₂.frames = .throwing x :: .java g :: T.frames.tail := hend
  have hW' : T.WarmedH s₂.vm := hW₂
  obtain ⟨g₀, hr⟩ := X.frames_eq
  obtain ⟨t0, ht0, -⟩ := State.frames_cons hr
  have e3 := congrArg (fun z : State => z.setVm s₂.vm) e2
  have hr' : (({ T with heap := s₂.heap, slotsUsed := s₂.slotsUsed } : State).setVm s₂.vm).frames = .java g₀ :: below := hr
  have hs₂ : s₂ = ((({ T with heap := s₂.heap, slotsUsed := s₂.slotsUsed } : State).setVm s₂.vm).setTop g).pushFrame (.throwing x) := by
    refine Eq.trans (b := (({ (T.calling g mk As.toArray).setFrames s₂.frames with heap := s₂.heap, slotsUsed := s₂.slotsUsed } : State).setVm s₂.vm)) e3 ?_
    rw [hf₂, State.calling_eq hAt.top, State.setFrames_setFrames, State.pushFrame, State.frames_setTop _ hr', State.setTop_of_frames _ hr', State.setFrames_setFrames, hr]
    rfl
  have hsame : T.sameButNew ({ T with heap := s₂.heap, slotsUsed := s₂.slotsUsed } : State) L mc ms := by
    refine ⟨?_, q2, q3, q4, q5, q6⟩
    show ({ T with heap := s₂.heap, slotsUsed := s₂.slotsUsed } : State) = { T.setFrames T.frames with heap := s₂.heap, slotsUsed := s₂.slotsUsed }
    rw [State.setFrames_self ht0]
  refine ⟨x, ({ T with heap := s₂.heap, slotsUsed := s₂.slotsUsed } : State).setVm s₂.vm, locs ++ L, h', sz',
    ⟨X.admits, X.cas, X.clock, X.frames, X.room, X.hears, X.method, X.code, (X.here.setHeapUsed s₂.heap s₂.slotsUsed).setVm hW'.alike, X.tail, State.WarmedH.trans hW hW', X.limits, X.bytes, X.same.trans (hsame.setVm s.vm)⟩,
    fun q hq => (List.mem_append.mp hq).elim (hL q) (hL' q), hQ, hP', ⟨ce, hce, hcv, ?_⟩, ?_⟩
  · have h1 : T.vm.findClass Xn = some ce.cls := hcc
    rw [← hW.alike.findClass]
    exact h1
  · rw [← hs₂]
    exact hsteps
end XI
section XJ
variable {l : Launch} {D : va_G} {H0 : Heap} {μ ν : xa_Mu} {R : Room} {Z : xa_Z} {k n : Nat} {h : xa_H} {sz pc : Nat} {ls : List (Nat × Value)} {st : List Value}
/-- the call's own step: where the callee begins -/
theorem xa_goV {p : Program} {e : Env} {s : State} {m : MethodId} {args : Array Value} {below : List Frame} {meth : Method} {c : Code} {T : State} {locs : List Loc} {la : Array Slot} {idx ci np b : Nat} {As st0 fs : List Value} (C : xa_C D H0 μ p s m args meth c) (X : Stand p l e R s m args below meth c T locs k n) (hP : xa_P D H0 h sz T.heap)
    (hd : decode μ.2.1 pc = .ok (.invokevirtual idx, 3)) (hLk : xa_LV μ.1.cls idx ν ci np) (hb : h b = some (.inr (ci, fs))) (hst : st0 = As.reverse ++ .ref b :: st) (hn : As.length = np) :
    ∃ (mk : MethodId) (vm₁ : Vm), Stand p l e R s m args below meth c (T.setVm vm₁) locs k n ∧ (T.setVm vm₁).methodNamed? ν.1 = some mk ∧ ∀ target, Steps p.tables e below (doInvoke e ((T.setVm vm₁).setTop (F0 m pc la st)) [] mk (Value.ref b :: As).toArray).1 target → Steps p.tables e below (T.setTop (F0 m pc la st0)) target := by
  obtain ⟨⟨b1, b2, b3, b4, b5⟩, b6, b7, b8, q, b9, b10⟩ := hLk
  have hts := C.2.2.2.2.1
  obtain ⟨cellB, hcB, hoB, hclB⟩ := xa_recv b9 C.2.2.2.2.2.1 hP hb
  rw [b10] at hclB
  obtain ⟨mk, methM, hnamed, hmethM, hstM, habM⟩ := Cond.instanceMethod_spec (hts _ b7)
  obtain ⟨methM', cM, hmethM', -, -, -, -, -, -, hsigM⟩ := Cond.code_spec hnamed (hts _ b1)
  cases hmethM.symm.trans hmethM'
  obtain ⟨c2, r2, m2, q1, q2, q3, q4, kP, hkP, hkPi⟩ := Cond.selects_spec (hts _ b8)
  cases hclB.symm.trans q1
  cases (State.methodFound?_of_named hnamed ⟨b3, b4⟩).symm.trans q2
  cases hnamed.symm.trans q3
  have hselP : selectMethod e.platform s.vm cellB.cls mk = .method mk := by rw [Launch.admits_selectMethod X.admits]; exact q4
  have hlen : As.length = methM.sig.parameters.length := by
    rw [hsigM] at b5
    exact hn.trans (Option.some.inj b5).symm
  obtain ⟨vm₁, X₁, hstep₁⟩ := X.invokevirtual C.1 C.2.2.2.1 (hts _ b6) hnamed hmethM hstM hkP hkPi ⟨b3, b4⟩ (a := b) (cell := cellB) hcB (fun z h9 => by rw [h9] at hoB; cases hoB) hselP hmethM habM hkP hkPi (g := F0 m pc la st0) rfl (argsL := As) (rest := st) hlen hst (by rw [C.2.1]; exact hd)
  exact ⟨mk, vm₁, X₁, X₁.named hnamed, fun target hs => hstep₁ target fun acts => by rw [doInvoke_state]; exact hs⟩
theorem xa_goS {p : Program} {e : Env} {s : State} {m : MethodId} {args : Array Value} {below : List Frame} {meth : Method} {c : Code} {T : State} {locs : List Loc} {la : Array Slot} {idx np : Nat} {As st0 : List Value} (C : xa_C D H0 μ p s m args meth c) (X : Stand p l e R s m args below meth c T locs k n)
    (hd : decode μ.2.1 pc = .ok (.invokestatic idx, 3)) (hLk : xa_LS μ.1.cls idx ν np) (hst : st0 = As.reverse ++ st) (hn : As.length = np) :
    ∃ (mk : MethodId) (vm₁ : Vm), Stand p l e R s m args below meth c (T.setVm vm₁) locs k n ∧ (T.setVm vm₁).methodNamed? ν.1 = some mk ∧ ∀ target, Steps p.tables e below (doInvoke e ((T.setVm vm₁).setTop (F0 m pc la st)) [] mk As.toArray).1 target → Steps p.tables e below (T.setTop (F0 m pc la st0)) target := by
  obtain ⟨⟨b1, b2, b3, b4, b5⟩, b6, b7⟩ := hLk
  have hts := C.2.2.2.2.1
  obtain ⟨mk, hnamed⟩ := Cond.code_named (hts _ b1)
  obtain ⟨methM, cM, hmethM, -, -, -, -, -, -, hsigM⟩ := Cond.code_spec hnamed (hts _ b1)
  have hstatic : methM.isStatic = true := Cond.static_spec hnamed hmethM (hts _ b7)
  obtain ⟨kP, hkP, -⟩ := className_of_methodNamed hnamed
  have hinitP : kP.init = .initialized := Cond.initialized_spec (findClass_of_methodNamed hnamed) hkP (hts _ b2)
  have hlen : As.length = methM.sig.parameters.length := by
    rw [hsigM] at b5
    exact hn.trans (Option.some.inj b5).symm
  obtain ⟨vm₁, X₁, hstep₁⟩ := X.invokestatic C.1 C.2.2.2.1 (hts _ b6) hnamed hmethM hstatic hkP hinitP ⟨b3, b4⟩ (g := F0 m pc la st0) rfl (argsL := As) (rest := st) hlen hst (by rw [C.2.1]; exact hd)
  exact ⟨mk, vm₁, X₁, X₁.named hnamed, fun target hs => hstep₁ target fun acts => by rw [doInvoke_state]; exact hs⟩
theorem xa_thru {p : Program} {e : Env} {s : State} {m : MethodId} {args : Array Value} {below : List Frame} {meth : Method} {c : Code} {T0 T' : State} {locs : List Loc} {la : Array Slot} {st0 : List Value} {Xn : String} {Q : xa_H → Nat → Prop} {mc ms k' n' x sz' : Nat} {h' : xa_H} (C : xa_C D H0 μ p s m args meth c) (hE : μ.2.2.2.2 = [])
    (X' : Stand p l e R s m args below meth c T' locs k' n') (hL : ∀ q ∈ locs, H0.size ≤ q.base) (hQ : Q h' sz') (hP' : xa_P D H0 h' sz' T'.heap) (hce : ∃ ce : Cell, T'.heap[x]? = some ce ∧ ce.vm = .none ∧ s.vm.findClass Xn = some ce.cls) (hk : k' ≤ mc) (hn : n' ≤ ms)
    (steps : Steps p.tables e below (T0.setTop (F0 m pc la st0)) ((T'.setTop (F0 m pc la st)).pushFrame (.throwing x))) : ∃ t, Steps p.tables e below (T0.setTop (F0 m pc la st0)) t ∧ xa_Zt D H0 mc ms Xn Q below args s t := by
  have hcd : c.exceptionTable.toList = [] := by
    have h1 := C.2.2.2.2.2.2.2.2.2.1
    rw [hE] at h1
    exact List.map_eq_nil_iff.mp h1
  obtain ⟨l1, l2, l3, l4, l5⟩ := X'.leaveThrown x (g := F0 m pc la st) rfl rfl rfl (by rw [hcd]; intro y hy; cases hy) (hlocks := C.2.2.2.2.2.2.2.1)
  exact ⟨T'.setFrames (.throwing x :: below), steps.trans l1, .threw x, l2, l3, x, rfl, ⟨h', sz', hQ, hP'⟩, hce, l4, locs, l5.mono hk hn, hL⟩
theorem xa_callVT {idx fr lo mc ms np ci b mc' ms' : Nat} {As st0 fs : List Value} {Xn : String} {Q Q' : xa_H → Nat → Prop} (hd : decode μ.2.1 pc = .ok (.invokevirtual idx, 3)) (hE : μ.2.2.2.2 = []) (hLk : xa_LV μ.1.cls idx ν ci np) (hb : h b = some (.inr (ci, fs))) (hM : xa_T l D H0 ν fr lo mc ms (.ref b :: As) h sz Xn Q) (hst : st0 = As.reverse ++ .ref b :: st)
    (hn : As.length = np) (hw : (st.map fun v => v.category).sum ≤ 8) (hR : fr + 1 ≤ R.frames ∧ 8 + (ν.2.2.1 + 11) + lo ≤ R.locals) (hc : k + mc ≤ R.cells) (hs : n + ms ≤ R.slots) (hkm : k + mc ≤ mc') (hsm : n + ms ≤ ms') (hq : ∀ h' sz', Q h' sz' → Q' h' sz') : xa_X l D H0 μ R (xa_Zt D H0 mc' ms' Xn Q') k n h sz pc ls st0 := by
  intro p e s m args below meth c H locs la C hP hL hl T hT X
  have hP0 : xa_P D H0 h sz T.heap := by rw [hT]; exact hP
  obtain ⟨mk, vm₁, X₁, hnm, go⟩ := xa_goV (la := la) (st := st) C X hP0 hd hLk hb hst hn
  obtain ⟨x, T', locs', h', sz', X', hL', hQ, hP', hce, steps⟩ := xa_inv X₁ hM C.2.2.2.2.1 hLk.1 C.2.2.2.2.2.1 C.2.2.2.2.2.2.2.2.2.2 hP0 hL hnm (g := F0 m pc la st) rfl (by rw [C.2.2.1]; exact hl.1) (by rw [C.2.1]; exact hd) (lv_room hw) hR hc hs
  exact xa_thru C hE X' hL' (hq _ _ hQ) hP' hce hkm hsm (go _ steps)
theorem xa_callST {idx fr lo mc ms np mc' ms' : Nat} {As st0 : List Value} {Xn : String} {Q Q' : xa_H → Nat → Prop} (hd : decode μ.2.1 pc = .ok (.invokestatic idx, 3)) (hE : μ.2.2.2.2 = []) (hLk : xa_LS μ.1.cls idx ν np) (hM : xa_T l D H0 ν fr lo mc ms As h sz Xn Q) (hst : st0 = As.reverse ++ st)
    (hn : As.length = np) (hw : (st.map fun v => v.category).sum ≤ 8) (hR : fr + 1 ≤ R.frames ∧ 8 + (ν.2.2.1 + 11) + lo ≤ R.locals) (hc : k + mc ≤ R.cells) (hs : n + ms ≤ R.slots) (hkm : k + mc ≤ mc') (hsm : n + ms ≤ ms') (hq : ∀ h' sz', Q h' sz' → Q' h' sz') : xa_X l D H0 μ R (xa_Zt D H0 mc' ms' Xn Q') k n h sz pc ls st0 := by
  intro p e s m args below meth c H locs la C hP hL hl T hT X
  have hP0 : xa_P D H0 h sz T.heap := by rw [hT]; exact hP
  obtain ⟨mk, vm₁, X₁, hnm, go⟩ := xa_goS (la := la) (st := st) C X hd hLk hst hn
  obtain ⟨x, T', locs', h', sz', X', hL', hQ, hP', hce, steps⟩ := xa_inv X₁ hM C.2.2.2.2.1 hLk.1 C.2.2.2.2.2.1 C.2.2.2.2.2.2.2.2.2.2 hP0 hL hnm (g := F0 m pc la st) rfl (by rw [C.2.2.1]; exact hl.1) (by rw [C.2.1]; exact hd) (lv_room hw) hR hc hs
  exact xa_thru C hE X' hL' (hq _ _ hQ) hP' hce hkm hsm (go _ steps)
end XJ
