/-! An exception that a callee throws is caught: the handlers' kinds may be unresolved still. -/
theorem xa_fg {E : CtlPost} {e : Env} {d : Bool} {acts : List Action} {u : State} {f : JFrame} {a : Addr} {Q : Handler → Pre} {y : ExceptionTableEntry} {t : List ExceptionTableEntry} {c : ClassId} {vm' : Vm} {cell : Cell} (hx : covers y f.pc = true) (h0 : y.catchType ≠ 0)
    (hg : (Jvm.resolveClass f.method.cls y.catchType).Gives e.toSetting u.vm (.ok c) vm') (hsz : vm'.classes.size ≤ u.vm.classes.size) (hcell : u.heap[a]? = some cell) (hobj : ∀ k, cell.vm ≠ .statics k) (hk : ∃ k, vm'.classes[cell.cls]? = some k) (hc : ∃ k, vm'.classes[c]? = some k) :
    wp (findHandler.go f a (y :: t)) Q E e d acts u ↔ if vm'.assignable cell.cls c = true then Q (.found y.handlerPc) d acts (u.setVm vm') else wp (findHandler.go f a t) Q E e d acts (u.setVm vm') := by
  simp only [covers] at hx
  obtain ⟨ha, ht⟩ := hg.op (op := VmOp.resolveClass f.method.cls y.catchType) rfl
  cases hfit : vm'.assignable cell.cls c <;> simp [findHandler.go, hx, h0, ha, ht, hsz, hcell, hobj, hk, hc, hfit, VmOp.dirties, VmOp.acts]
section XK
variable {l : Launch} {D : va_G} {H0 : Heap} {μ ν : xa_Mu} {R : Room} {Z : xa_Z} {k n : Nat} {h : xa_H} {sz pc : Nat} {ls : List (Nat × Value)} {st : List Value}
variable {p : Program} {e : Env} {s : State} {m : MethodId} {args : Array Value} {below : List Frame} {meth : Method} {c : Code} {T : State} {locs : List Loc}
/-- one entry of the table, its kind resolved or not -/
theorem xa_ent (hpl : e.platform.magicAccessors = ({} : Platform).magicAccessors) (hown : s.vm.findClass μ.1.cls = some m.cls) {w : Vm} (hW : s.WarmedH w) {ct : Nat} {Y : String} (hl : (Cond.classLink μ.1.cls ct Y).before args s = true) :
    ∃ cY, s.vm.findClass Y = some cY ∧ (Jvm.resolveClass m.cls ct).Gives e.toSetting w (.ok cY) (w.noted m.cls ct (.cls cY)) ∧ s.WarmedH (w.noted m.cls ct (.cls cY)) := by
  obtain ⟨cY, hf, hlk⟩ := Cond.classLink_spec hown hl e.platform hpl
  obtain ⟨dk, _, _, _, hd, _, _, _, _, _, _, hres⟩ := hlk.here
  exact ⟨cY, hf, resolveClass_links e.toSetting (hW.classLinks hlk), hW.noted hd hres (State.rightAt_cls hlk)⟩
theorem xa_srch {x : Nat} {g : JFrame} {Xn : String} {ce : Cell} {en : ExceptionTableEntry} {rest : List ExceptionTableEntry} (hpl : e.platform.magicAccessors = ({} : Platform).magicAccessors) (hown : s.vm.findClass μ.1.cls = some m.cls) (hg : g.method = m) (hcell : T.heap[x]? = some ce) (hcv : ce.vm = .none) (hcc : s.vm.findClass Xn = some ce.cls) (hself : s.vm.assignable ce.cls ce.cls = true)
    (hen : covers en g.pc = true ∧ en.catchType ≠ 0 ∧ (Cond.classLink μ.1.cls en.catchType Xn).before args s = true) :
    ∀ (pre : List ExceptionTableEntry), (∀ y ∈ pre, covers y g.pc = true ∧ y.catchType ≠ 0 ∧ ∃ Y, (Cond.classLink μ.1.cls y.catchType Y).before args s = true ∧ va_Nc Xn Y s) → ∀ w, s.WarmedH w →
      ∃ w', s.WarmedH w' ∧ ∀ (Q : Handler → Pre) (E : CtlPost) (d : Bool) (acts : List Action), wp (findHandler.go g x (pre ++ en :: rest)) Q E e d acts (((T.setVm w).setTop g).pushFrame (.throwing x)) ↔ Q (.found en.handlerPc) d acts (((T.setVm w').setTop g).pushFrame (.throwing x)) := by
  have hobj : ∀ k, ce.vm ≠ .statics k := fun k h9 => by rw [hcv] at h9; cases h9
  have hcls : ∀ {C : String} {cC : ClassId} {w : Vm}, s.WarmedH w → s.vm.findClass C = some cC → ∃ k, w.classes[cC]? = some k := fun hW hf => by
    obtain ⟨k, hk⟩ := Vm.classAt_of_findClass hf
    obtain ⟨k', hk', -⟩ := hW.alike.2.2 _ _ hk
    exact ⟨k', hk'⟩
  intro pre
  induction pre with
  | nil =>
    intro _ w hW
    obtain ⟨cY, hf, hgv, hW'⟩ := xa_ent (e := e) hpl hown hW hen.2.2
    cases hcc.symm.trans hf
    refine ⟨_, hW', fun Q E d acts => ?_⟩
    have hh := xa_fg (Q := Q) (E := E) (d := d) (acts := acts) (e := e) (u := ((T.setVm w).setTop g).pushFrame (.throwing x)) (t := rest) (vm' := w.noted m.cls en.catchType (.cls ce.cls)) (cell := ce) hen.1 hen.2.1 (by rw [hg]; exact hgv) (Nat.le_of_eq (Vm.size_note _ _ _ _)) hcell hobj (hcls hW' hcc) (hcls hW' hcc)
    rw [if_pos ((hW'.alike.assignable _ _).trans hself)] at hh
    exact hh
  | cons y t ih =>
    intro hpre w hW
    obtain ⟨h1, h2, Y, hl, cX, tY, q1, q2, q3⟩ := hpre y List.mem_cons_self
    cases hcc.symm.trans q1
    obtain ⟨cY, hf, hgv, hW'⟩ := xa_ent (e := e) hpl hown hW hl
    cases q2.symm.trans hf
    obtain ⟨w', hw', hs⟩ := ih (fun z hz => hpre z (List.mem_cons_of_mem _ hz)) _ hW'
    refine ⟨w', hw', fun Q E d acts => ?_⟩
    have hh := xa_fg (Q := Q) (E := E) (d := d) (acts := acts) (e := e) (u := ((T.setVm w).setTop g).pushFrame (.throwing x)) (t := t ++ en :: rest) (vm' := w.noted m.cls y.catchType (.cls tY)) (cell := ce) h1 h2 (by rw [hg]; exact hgv) (Nat.le_of_eq (Vm.size_note _ _ _ _)) hcell hobj (hcls hW' hcc) (hcls hW' q2)
    rw [if_neg (fun z => Bool.false_ne_true (((hW'.alike.assignable _ _).trans q3).symm.trans z))] at hh
    exact hh.trans (hs Q E d acts)
/-- the step that catches -/
theorem xa_caught {x tgt : Nat} {g : JFrame} {w w' : Vm} {target : State} (hAt : At (T.setVm w) g.method c below) (hAt' : At (T.setVm w') g.method c below) (hm : w.method? g.method = some meth) (hc : meth.code = some c)
    (hf : ∀ (Q : Handler → Pre) (E : CtlPost) (d : Bool) (acts : List Action), wp (findHandler.go g x c.exceptionTable.toList) Q E e d acts (((T.setVm w).setTop g).pushFrame (.throwing x)) ↔ Q (.found tgt) d acts (((T.setVm w').setTop g).pushFrame (.throwing x)))
    (hrest : Steps p.tables e below ((T.setVm w').setTop { g with pc := tgt, stack := [.ref x] }) target) : Steps p.tables e below (((T.setVm w).setTop g).pushFrame (.throwing x)) target := by
  have hfind : ∀ (Q : Handler → Pre) (E : CtlPost) (d : Bool) (acts : List Action), wp (findHandler g x) Q E e d acts (((T.setVm w).setTop g).pushFrame (.throwing x)) ↔ Q (.found tgt) d acts (((T.setVm w').setTop g).pushFrame (.throwing x)) := fun Q E d acts => by
    rw [W.findHandler_eq (meth := meth) (code := c) hm hc]
    exact hf Q E d acts
  have hstep : (stepThrowing e (((T.setVm w).setTop g).pushFrame (.throwing x)) x (.java g :: (T.setVm w).frames.tail)).Is ((((T.setVm w').setTop g).pushFrame (.throwing x)).setFrames (.java { g with pc := tgt, stack := [.ref x] } :: (T.setVm w).frames.tail)) [] := by
    simp only [stepThrowing, searchFrame, vmDo]
    generalize hr : Sem.go _ e false [] (((T.setVm w).setTop g).pushFrame (.throwing x)) = res
    obtain ⟨as, rfl, ha⟩ := Sem.eq_ok_of hr (a := Handler.found tgt) (s' := ((T.setVm w').setTop g).pushFrame (.throwing x)) (acts' := []) (by simp [hfind _ _ _ _])
    exact ⟨rfl, ha⟩
  obtain ⟨hgo, hwi⟩ := hAt.throwing x
  refine Steps.head hgo hwi ?_
  rw [stepThread_throwing (frames_entered hAt.top _), hstep.1]
  obtain ⟨g₀, hg0⟩ := Option.isSome_iff_exists.mp hAt'.top
  obtain ⟨r, hr⟩ := State.topJava?_eq_some.mp hg0
  have hr2 : (T.setVm w).frames = .java g₀ :: r := hr
  rw [State.pushFrame, State.setFrames_setFrames, State.setTop_of_frames _ hr, State.setFrames_setFrames, hr2]
  rw [State.setTop_of_frames _ hr] at hrest
  exact hrest
end XK
def xa_cat (H0 : Heap) (μ : xa_Mu) (pc : Nat) (Xn : String) (tgt : Nat) : Prop := Cond.castable Xn Xn ∈ xa_ws ∧ ∃ (pre : List (Nat × Nat × Nat × Nat)) (en : Nat × Nat × Nat × Nat) (rest : List (Nat × Nat × Nat × Nat)), μ.2.2.2.2 = pre ++ en :: rest ∧ en.2.2.1 = tgt ∧ (decide (en.1 ≤ pc) && decide (pc < en.2.1)) = true ∧ en.2.2.2 ≠ 0 ∧ Cond.classLink μ.1.cls en.2.2.2 Xn ∈ xa_ws ∧
  ∀ y ∈ pre, (decide (y.1 ≤ pc) && decide (pc < y.2.1)) = true ∧ y.2.2.2 ≠ 0 ∧ ∃ Y, Cond.classLink μ.1.cls y.2.2.2 Y ∈ xa_ws ∧ ∀ U, xa_N H0 U → va_Nc Xn Y U
section XL
variable {l : Launch} {D : va_G} {H0 : Heap} {μ ν : xa_Mu} {R : Room} {Z : xa_Z} {k n : Nat} {h : xa_H} {sz pc : Nat} {ls : List (Nat × Value)} {st : List Value}
theorem xa_callVC {idx fr lo mc ms np ci b tgt : Nat} {As st0 fs : List Value} {Xn : String} {Q : xa_H → Nat → Prop} (hd : decode μ.2.1 pc = .ok (.invokevirtual idx, 3)) (hcat : xa_cat H0 μ pc Xn tgt) (hLk : xa_LV μ.1.cls idx ν ci np) (hb : h b = some (.inr (ci, fs))) (hM : xa_T l D H0 ν fr lo mc ms (.ref b :: As) h sz Xn Q) (hst : st0 = As.reverse ++ .ref b :: st)
    (hn : As.length = np) (hw : (st.map fun v => v.category).sum ≤ 8) (hR : fr + 1 ≤ R.frames ∧ 8 + (ν.2.2.1 + 11) + lo ≤ R.locals) (hc : k + mc ≤ R.cells) (hs : n + ms ≤ R.slots) (kk : ∀ (x : Nat) (h' : xa_H) (sz' : Nat), Q h' sz' → xa_X l D H0 μ R Z (k + mc) (n + ms) h' sz' tgt ls [.ref x]) : xa_X l D H0 μ R Z k n h sz pc ls st0 := by
  intro p e s m args below meth c H locs la C hP hL hl T hT X
  have hP0 : xa_P D H0 h sz T.heap := by rw [hT]; exact hP
  obtain ⟨mk, vm₁, X₁, hnm, go⟩ := xa_goV (la := la) (st := st) C X hP0 hd hLk hb hst hn
  obtain ⟨x, T', locs', h', sz', X', hL', hQ, hP', ⟨ce, hce, hcv, hcc⟩, steps⟩ := xa_inv X₁ hM C.2.2.2.2.1 hLk.1 C.2.2.2.2.2.1 C.2.2.2.2.2.2.2.2.2.2 hP0 hL hnm (g := F0 m pc la st) rfl (by rw [C.2.2.1]; exact hl.1) (by rw [C.2.1]; exact hd) (lv_room hw) hR hc hs
  obtain ⟨hcast, pre, en, rest, htab, htgt, hcov, hct, hcl, hpre⟩ := hcat
  have hts := C.2.2.2.2.1
  have hpl : e.platform.magicAccessors = ({} : Platform).magicAccessors := by rw [X.admits.platform]
  have hself : s.vm.assignable ce.cls ce.cls = true := by
    obtain ⟨c3, c4, hc3, hc4, hasg⟩ := Cond.castable_spec (hts _ hcast)
    cases hcc.symm.trans hc3
    cases hcc.symm.trans hc4
    exact hasg
  have htb := C.2.2.2.2.2.2.2.2.2.1
  rw [htab] at htb
  obtain ⟨pre', r1, e1, e2, e3⟩ := List.map_eq_append_iff.mp htb
  obtain ⟨en', rest', e4, e5, e6⟩ := List.map_eq_cons_iff.mp e3
  subst e5
  obtain ⟨w', hw', hsr⟩ := xa_srch (μ := μ) (args := args) (T := T') (g := F0 m pc la st) (x := x) (en := en') (rest := rest') hpl C.2.2.2.1 rfl hce hcv hcc hself ⟨hcov, hct, hts _ hcl⟩ pre' (fun y hy => by
    have h1 := hpre _ (by rw [← e2]; exact List.mem_map.mpr ⟨y, hy, rfl⟩)
    obtain ⟨a1, a2, Y, a3, a4⟩ := h1
    exact ⟨a1, a2, Y, hts _ a3, a4 s C.2.2.2.2.2.2.2.2.2.2⟩) T'.vm X'.warmed
  have X2 := X'.noted hw'
  obtain ⟨t2, b1, b2⟩ := kk x h' sz' hQ p e s m args below meth c T'.heap locs' la C hP' hL' hl (T'.setVm w') rfl X2
  refine ⟨t2, go _ (steps.trans ?_), b2⟩
  refine xa_caught (T := T') (w := T'.vm) (w' := w') (g := F0 m pc la st) (meth := meth) (c := c) (tgt := tgt) X'.here X2.here X'.method' X'.code (fun Q E d acts => ?_) b1
  rw [e1, e4, ← htgt]
  exact hsr Q E d acts
end XL
