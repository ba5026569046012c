/-! An exception that a callee throws is caught: the handlers' kinds may be unresolved still. -/
theorem xa_fg {E : CtlPost} {e : Env} {d : Bool} {acts : List Action} {u : State} {f : JFrame} {a : Addr} {Q : Handler → Pre} {y : ExceptionTableEntry} {t : List ExceptionTableEntry} {c : ClassId} {vm' : Vm} {cell : Cell} (hx : covers y f.pc = true) (h0 : y.catchType ≠ 0)
    (hg : (Jvm.resolveClass f.method.cls y.catchType).Gives e.toSetting u.vm (.ok c) vm') (hsz : vm'.classes.size ≤ u.vm.classes.size) (hcell : u.heap[a]? = some cell) (hobj : ∀ k, cell.vm ≠ .statics k) (hk : ∃ k, vm'.classes[cell.cls]? = some k) (hc : ∃ k, vm'.classes[c]? = some k) :
    wp (findHandler.go f a (y :: t)) Q E e d acts u ↔ if vm'.assignable cell.cls c = true then Q (.found y.handlerPc) d acts (u.setVm vm') else wp (findHandler.go f a t) Q E e d acts (u.setVm vm') := by
  simp only [covers] at hx
  obtain ⟨ha, ht⟩ := hg.op (op := VmOp.resolveClass f.method.cls y.catchType) rfl
  cases hfit : vm'.assignable cell.cls c <;> simp [findHandler.go, hx, h0, ha, ht, hsz, hcell, hobj, hk, hc, hfit]
section XK
variable {l : Launch} {D : va_G} {H0 : Heap} {μ ν : xa_Mu} {R : Room} {Z : xa_Z} {k n : Nat} {h : xa_H} {sz pc : Nat} {ls : List (Nat × Value)} {st : List Value}
variable {p : Program} {e : Env} {s : State} {m : MethodId} {args : Array Value} {below : List Frame} {meth : Method} {c : Code} {T : State} {locs : List Loc}
/-- one entry of the table, its kind resolved or not -/
theorem xa_ent (hpl : e.platform.magicAccessors = ({} : Platform).magicAccessors) (hown : s.vm.findClass μ.1.cls = some m.cls) {w : Vm} (hW : s.WarmedH w) {ct : Nat} {Y : String} (hl : (Cond.classLink μ.1.cls ct Y).before args s = true) :
    ∃ cY, s.vm.findClass Y = some cY ∧ (Jvm.resolveClass m.cls ct).Gives e.toSetting w (.ok cY) (w.noted m.cls ct (.cls cY)) ∧ s.WarmedH (w.noted m.cls ct (.cls cY)) := by
  obtain ⟨cY, hf, hlk⟩ := Cond.classLink_spec hown hl e.platform hpl
  obtain ⟨dk, _, _, _, hd, _, _, _, _, _, _, hres⟩ := hlk.here
  exact ⟨cY, hf, resolveClass_links e.toSetting (hW.classLinks hlk), hW.noted hd hres (State.rightAt_cls hlk)⟩
theorem xa_srch {x : Nat} {g : JFrame} {Xn : String} {ce : Cell} {en : ExceptionTableEntry} {rest : List ExceptionTableEntry} (hpl : e.platform.magicAccessors = ({} : Platform).magicAccessors) (hown : s.vm.findClass μ.1.cls = some m.cls) (hg : g.method = m) (hcell : T.heap[x]? = some ce) (hcv : ce.vm = .none) (hcc : s.vm.findClass Xn = some ce.cls) (hself : s.vm.assignable ce.cls ce.cls = true)
    (hen : covers en g.pc = true ∧ en.catchType ≠ 0 ∧ (Cond.classLink μ.1.cls en.catchType Xn).before args s = true) :
    ∀ (pre : List ExceptionTableEntry), (∀ y ∈ pre, covers y g.pc = true ∧ y.catchType ≠ 0 ∧ ∃ Y, (Cond.classLink μ.1.cls y.catchType Y).before args s = true ∧ va_Nc Xn Y s) → ∀ w, s.WarmedH w →
      ∃ w', s.WarmedH w' ∧ ∀ (Q : Handler → Pre) (E : CtlPost) (d : Bool) (acts : List Action), wp (findHandler.go g x (pre ++ en :: rest)) Q E e d acts (((T.setVm w).setTop g).pushFrame (.throwing x)) ↔ Q (.found en.handlerPc) d acts (((T.setVm w').setTop g).pushFrame (.throwing x)) := by
  have hobj : ∀ k, ce.vm ≠ .statics k := fun k h9 => by rw [hcv] at h9; cases h9
  have hcls : ∀ {C : String} {cC : ClassId} {w : Vm}, s.WarmedH w → s.vm.findClass C = some cC → ∃ k, w.classes[cC]? = some k := fun hW hf => by
    obtain ⟨k, hk⟩ := Vm.classAt_of_findClass hf
    obtain ⟨k', hk', -⟩ := hW.alike.2.2 _ _ hk
    exact ⟨k', hk'⟩
  intro pre
  induction pre with
  | nil =>
    intro _ w hW
    obtain ⟨cY, hf, hgv, hW'⟩ := xa_ent (e := e) hpl hown hW hen.2.2
    cases hcc.symm.trans hf
    refine ⟨_, hW', fun Q E d acts => ?_⟩
    rw [List.nil_append, xa_fg (cell := ce) hen.1 hen.2.1 (by rw [hg]; exact hgv) (Nat.le_of_eq (Vm.size_note _ _ _ _)) hcell hobj (hcls hW' hcc) (hcls hW' hcc), if_pos (by rw [hW'.alike.assignable]; exact hself)]
    exact Iff.rfl
  | cons y t ih =>
    intro hpre w hW
    obtain ⟨h1, h2, Y, hl, cX, tY, q1, q2, q3⟩ := hpre y List.mem_cons_self
    cases hcc.symm.trans q1
    obtain ⟨cY, hf, hgv, hW'⟩ := xa_ent (e := e) hpl hown hW hl
    cases q2.symm.trans hf
    obtain ⟨w', hw', hs⟩ := ih (fun z hz => hpre z (List.mem_cons_of_mem _ hz)) _ hW'
    refine ⟨w', hw', fun Q E d acts => ?_⟩
    rw [List.cons_append, xa_fg (cell := ce) h1 h2 (by rw [hg]; exact hgv) (Nat.le_of_eq (Vm.size_note _ _ _ _)) hcell hobj (hcls hW' hcc) (hcls hW' q2), if_neg (by rw [hW'.alike.assignable, q3]; decide)]
    exact hs Q E d acts
end XK
