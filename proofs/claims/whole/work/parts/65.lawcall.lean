/-! Methods with handlers: their contracts, entry and calls; the array that the law is given. -/
abbrev xa_cdW (μ : xa_Mu) : Cond := Cond.codeWith μ.1 μ.2.1 μ.2.2.1 μ.2.2.2.1 μ.2.2.2.2
def xa_MW (l : Launch) (D : va_G) (H0 : Heap) (μ : xa_Mu) (fr lo mc ms : Nat) (av : List Value) (h : xa_H) (sz : Nat) (Q : Option Value → xa_H → Nat → Prop) : Prop :=
  Met l μ.1 (xa_cdW μ :: xa_ws) (xa_rm fr mc ms lo) (xa_pc D H0 av h sz) (xa_Qc D H0 Q) mc ms (fun q => H0.size ≤ q)
theorem xa_enterW {l : Launch} {D : va_G} {H0 : Heap} {μ : xa_Mu} {fr lo mc ms : Nat} {av : List Value} {h : xa_H} {sz : Nat} {Q : Option Value → xa_H → Nat → Prop} (hp : plainName μ.1.cls = true) (hfit : Nat.ble (lg_sl av).length μ.2.2.1 = true)
    (kk : xa_X l D H0 μ (xa_rm fr mc ms lo) (xa_Zr D H0 mc ms Q) 0 0 h sz 0 (lv_args 0 av) []) : xa_MW l D H0 μ fr lo mc ms av h sz Q := by
  unfold xa_MW
  refine va_MetW (cc := μ.2.1) (maxL := μ.2.2.1) (ret := μ.2.2.2.1) (hh := μ.2.2.2.2) hp rfl ?_
  intro p e s m args below meth c s₁ B hml hv
  obtain ⟨rfl, hP, hK, hN⟩ := hv
  have hts := atoms_spec (ws := xa_cdW μ :: xa_ws) B.pre
  have hl := lv_entry av (n := μ.2.2.1) (Nat.le_of_ble_eq_true hfit)
  obtain ⟨m', meth', c', hname', hmeth, hcode, -, -, htable, -, -, -⟩ := Cond.codeWith_spec (hts _ List.mem_cons_self)
  cases B.named.symm.trans hname'
  cases B.method.symm.trans hmeth
  cases (Stand.of_body B).code.symm.trans hcode
  rw [lg_entry_eq]
  exact kk p e s m _ below meth c s.heap [] _ ⟨B.exec, B.bytes, hml, findClass_of_methodNamed B.named, fun w hw => hts w (List.mem_cons_of_mem _ hw), hK, B.returns, B.notSynchronized, (name_of_methodNamed B.named B.method).1, htable, hN⟩ hP (fun q hq => by cases hq) hl
def xa_LSW (own : String) (idx : Nat) (ν : xa_Mu) (np : Nat) : Prop := xa_cdW ν ∈ xa_ws ∧ Cond.initialized ν.1.cls ∈ xa_ws ∧ ν.1.cls ≠ "java/lang/invoke/MethodHandle" ∧ ν.1.cls ≠ "java/lang/invoke/VarHandle" ∧ (parseMethodDescriptor ν.1.desc).map (fun d => d.parameters.length) = some np ∧ Cond.methodLink own idx ν.1 ∈ xa_ws ∧ Cond.static ν.1 ∈ xa_ws
section XW
variable {l : Launch} {D : va_G} {H0 : Heap} {μ ν : xa_Mu} {R : Room} {Z : xa_Z} {k n : Nat} {h : xa_H} {sz pc : Nat} {ls : List (Nat × Value)} {st : List Value}
theorem xa_callSW {idx fr lo mc ms np : Nat} {As st0 : List Value} {Q : Option Value → xa_H → Nat → Prop} (hd : decode μ.2.1 pc = .ok (.invokestatic idx, 3)) (hLk : xa_LSW μ.1.cls idx ν np) (hM : xa_MW l D H0 ν fr lo mc ms As h sz Q) (hst : st0 = As.reverse ++ st) (hn : As.length = np) (hw : (st.map fun v => v.category).sum ≤ 8) (hR : fr + 1 ≤ R.frames ∧ 8 + (ν.2.2.1 + 11) + lo ≤ R.locals) (hc : k + mc ≤ R.cells) (hs : n + ms ≤ R.slots) (kk : ∀ (v : Option Value) (h' : xa_H) (sz' : Nat), Q v h' sz' → xa_X l D H0 μ R Z (k + mc) (n + ms) h' sz' (pc + 3) ls (v.toList ++ st)) : xa_X l D H0 μ R Z k n h sz pc ls st0 := by
  intro p e s m args below meth c H locs la C hP hL hl
  obtain ⟨b1, b2, b3, b4, b5, b6, b7⟩ := hLk
  have hts := C.2.2.2.2.1
  have hpay : ∀ w ∈ xa_cdW ν :: xa_ws, ∀ (a' : Array Value) (U : State), s.WarmedH U.vm → w.before a' U = true := by
    intro w hw a' U hW
    have h1 : w ∈ xa_ws := by
      rcases List.mem_cons.mp hw with hw | hw
      · rw [hw]; exact b1
      · exact hw
    exact xa_keep h1 hW (hts w h1)
  have hK : Back l R p e below s args ν.1 3 8 (PreOf R mc ms (xa_pc D H0 As h sz)) (PostOf (xa_Qc D H0 Q) mc ms (fun q => H0.size ≤ q)) := va_backW (hh := ν.2.2.2.2) (bytes := ν.2.1) (maxL := ν.2.2.1) (ret := ν.2.2.2.1) hM xa_blind rfl rfl hR.1 hR.2 hpay List.mem_cons_self (fun a' U hW => xa_keep b2 hW (hts _ b2))
  obtain ⟨mk, methM, cM, hnamed, hmethM, -, -, -, -, -, -, hsigM⟩ := Cond.codeWith_spec (hts _ b1)
  have hstatic : methM.isStatic = true := Cond.static_spec hnamed hmethM (hts _ b7)
  obtain ⟨kP, hkP, -⟩ := className_of_methodNamed hnamed
  have hinitP : kP.init = .initialized := Cond.initialized_spec (findClass_of_methodNamed hnamed) hkP (hts _ b2)
  have hlen : As.length = methM.sig.parameters.length := by
    rw [hsigM] at b5
    exact hn.trans (Option.some.inj b5).symm
  refine xa_after (mc := mc) (ms := ms) (st := st) (Q := Q) (a := As.toArray) C hL hl ?_ kk
  intro T hT X
  obtain ⟨vm₁, X₁, hstep₁⟩ := X.invokestatic C.1 C.2.2.2.1 (hts _ b6) hnamed hmethM hstatic hkP hinitP ⟨b3, b4⟩ (g := F0 m pc la st0) rfl (argsL := As) (rest := st) hlen hst (by rw [C.2.1]; exact hd)
  obtain ⟨v, ⟨U', l2, c2, s2⟩, X', ⟨g', mk', t, L, e1, e2, hq, h1, hL2, h2, h3⟩, hsteps⟩ := hK m meth c ⟨T.setVm vm₁, locs, k, n⟩ (F0 m pc la st) (.invokestatic idx) mk As.toArray X₁ rfl (by rw [C.2.2.1]; exact hl.1) (by rw [C.2.1]; exact hd) (lv_room hw) (X₁.named hnamed) ⟨hc, hs, rfl, by show xa_P D H0 h sz T.heap; rw [hT]; exact hP, va_K.moved X₁.warmed.alike C.2.2.2.2.2.1, C.2.2.2.2.2.2.2.2.2.2.moved X₁.warmed.alike⟩
  dsimp only [Pt.U, Pt.locs, Pt.cells, Pt.slots] at X' e1 e2 h1 h2 h3 hsteps
  subst h1; subst h2; subst h3
  exact ⟨v, (T.setVm vm₁).calling g' mk' As.toArray, t, U', L, hT, X', hL2, e1, e2, hq, fun target hs => hstep₁ target fun acts => by rw [doInvoke_state]; exact hsteps.trans hs⟩
/-- an end that asks only of states of a kind -/
def xa_ZY (Y : State → Prop) (Z0 : xa_Z) : xa_Z := fun below args s t => Y s → Z0 below args s t
theorem xa_Yw {Y : State → Prop} {Z0 : xa_Z} (kk : xa_X l D H0 μ R Z0 k n h sz pc ls st) : xa_X l D H0 μ R (xa_ZY Y Z0) k n h sz pc ls st := by
  intro p e s m args below meth c H locs la C hP hL hl T hT X
  obtain ⟨t, a1, b1⟩ := kk p e s m args below meth c H locs la C hP hL hl T hT X
  exact ⟨t, a1, fun _ => b1⟩
abbrev xa_Sc (H0 : Heap) (a N : Nat) (f : Nat → Int32) : State → Prop := fun U => va_X a N f U H0
theorem xa_ialdB {Z0 : xa_Z} {a N j : Nat} {f : Nat → Int32} {i : Int32} (ha : a < H0.size) (hd : decode μ.2.1 pc = .ok (.iaload, 1)) (hj : j < N) (hi : i = nI j) (hN : N < 2 ^ 31) (kk : xa_X l D H0 μ R (xa_ZY (xa_Sc H0 a N f) Z0) k n h sz (pc + 1) ls (.int (f j) :: st)) : xa_X l D H0 μ R (xa_ZY (xa_Sc H0 a N f) Z0) k n h sz pc ls (.int i :: .ref a :: st) := by
  intro p e s m args below meth c H locs la C hP hL hl
  subst hi
  by_cases hX : xa_Sc H0 a N f s
  · refine va_sld (A := fun q => H0.size ≤ q) C.1 C.2.1 hX ha (Nat.not_le_of_lt ha) ⟨by rw [hP.1]; exact hP.2.1, fun q hq _ => hP.2.2.1 q hq, hL⟩ (vp_in_nI hj hN) hd ?_
    rw [nI_clamp (by omega)]
    exact (kk p e s m args below meth c H locs la C hP hL hl)
  · intro T hT X
    exact ⟨_, Steps.refl _, fun y => absurd y hX⟩
theorem xa_alenB {Z0 : xa_Z} {a N : Nat} {f : Nat → Int32} (ha : a < H0.size) (hd : decode μ.2.1 pc = .ok (.arraylength, 1)) (kk : xa_X l D H0 μ R (xa_ZY (xa_Sc H0 a N f) Z0) k n h sz (pc + 1) ls (.int (nI N) :: st)) : xa_X l D H0 μ R (xa_ZY (xa_Sc H0 a N f) Z0) k n h sz pc ls (.ref a :: st) := by
  intro p e s m args below meth c H locs la C hP hL hl
  by_cases hX : xa_Sc H0 a N f s
  · exact va_slen (A := fun q => H0.size ≤ q) C.1 C.2.1 hX ha (Nat.not_le_of_lt ha) ⟨by rw [hP.1]; exact hP.2.1, fun q hq _ => hP.2.2.1 q hq, hL⟩ hd (kk p e s m args below meth c H locs la C hP hL hl)
  · intro T hT X
    exact ⟨_, Steps.refl _, fun y => absurd y hX⟩
abbrev xa_pcY (Y : State → Prop) (D : va_G) (H0 : Heap) (av : List Value) (h : xa_H) (sz : Nat) : Array Value → State → Prop := va_Pc av (fun U => (xa_P D H0 h sz U.heap ∧ va_K D xa_cl (xa_tys D) U ∧ xa_N H0 U) ∧ Y U)
def xa_MY (Y : State → Prop) (l : Launch) (D : va_G) (H0 : Heap) (μ : xa_Mu) (fr lo mc ms : Nat) (av : List Value) (h : xa_H) (sz : Nat) (Q : Option Value → xa_H → Nat → Prop) : Prop :=
  Met l μ.1 (xa_cd μ :: xa_ws) (xa_rm fr mc ms lo) (xa_pcY Y D H0 av h sz) (xa_Qc D H0 Q) mc ms (fun q => H0.size ≤ q)
theorem xa_enterY {Y : State → Prop} {fr lo mc ms : Nat} {av : List Value} {Q : Option Value → xa_H → Nat → Prop} (hp : plainName μ.1.cls = true) (hh : μ.2.2.2.2 = []) (hfit : Nat.ble (lg_sl av).length μ.2.2.1 = true)
    (kk : xa_X l D H0 μ (xa_rm fr mc ms lo) (xa_ZY Y (xa_Zr D H0 mc ms Q)) 0 0 h sz 0 (lv_args 0 av) []) : xa_MY Y l D H0 μ fr lo mc ms av h sz Q := by
  unfold xa_MY
  refine Met.ofW (cc := μ.2.1) (maxL := μ.2.2.1) (ret := μ.2.2.2.1) hp rfl ?_
  intro p e s m args below meth c s₁ B hml hv
  obtain ⟨rfl, ⟨hP, hK, hN⟩, hY⟩ := hv
  have hts := atoms_spec (ws := xa_cd μ :: xa_ws) B.pre
  have hl := lv_entry av (n := μ.2.2.1) (Nat.le_of_ble_eq_true hfit)
  rw [lg_entry_eq]
  intro T hT X
  obtain ⟨t, a1, b1⟩ := kk p e s m _ below meth c s.heap [] _ ⟨B.exec, B.bytes, hml, findClass_of_methodNamed B.named, fun w hw => hts w (List.mem_cons_of_mem _ hw), hK, B.returns, B.notSynchronized, (name_of_methodNamed B.named B.method).1, by rw [hh, show c.exceptionTable = #[] from Array.isEmpty_iff.mp (B.noHandlers (hts _ List.mem_cons_self))]; rfl, hN⟩ hP (fun q hq => by cases hq) hl T hT X
  exact ⟨t, a1, b1 hY⟩
theorem xa_blindY {Y : State → Prop} {av : List Value} (hY : ∀ u U : State, u.vm.Alike U.vm → Y u → Y U) : FrameBlind (xa_pcY Y D H0 av h sz) := by
  intro a U g mk q
  obtain ⟨q0, ⟨qP, qK, qN⟩, qY⟩ := q
  exact ⟨q0, ⟨qP, va_K.moved (u := U) (U := U.calling g mk a) (Vm.Alike.refl U.vm) qK, qN.moved (u := U) (U := U.calling g mk a) (Vm.Alike.refl U.vm)⟩, hY U (U.calling g mk a) (Vm.Alike.refl U.vm) qY⟩
theorem xa_callSY {Y : State → Prop} {Z0 : xa_Z} {idx fr lo mc ms np : Nat} {As st0 : List Value} {Q : Option Value → xa_H → Nat → Prop} (hY : ∀ u U : State, u.vm.Alike U.vm → Y u → Y U) (hd : decode μ.2.1 pc = .ok (.invokestatic idx, 3)) (hLk : xa_LS μ.1.cls idx ν np) (hM : xa_MY Y l D H0 ν fr lo mc ms As h sz Q) (hst : st0 = As.reverse ++ st) (hn : As.length = np) (hw : (st.map fun v => v.category).sum ≤ 8) (hR : fr + 1 ≤ R.frames ∧ 8 + (ν.2.2.1 + 11) + lo ≤ R.locals) (hc : k + mc ≤ R.cells) (hs : n + ms ≤ R.slots) (kk : ∀ (v : Option Value) (h' : xa_H) (sz' : Nat), Q v h' sz' → xa_X l D H0 μ R (xa_ZY Y Z0) (k + mc) (n + ms) h' sz' (pc + 3) ls (v.toList ++ st)) : xa_X l D H0 μ R (xa_ZY Y Z0) k n h sz pc ls st0 := by
  intro p e s m args below meth c H locs la C hP hL hl
  obtain ⟨⟨b1, b2, b3, b4, b5⟩, b6, b7⟩ := hLk
  have hts := C.2.2.2.2.1
  by_cases hYs : Y s
  · refine xa_after C hL hl (va_runS (As := As) (rest := st) ⟨C.1, C.2.1, C.2.2.1, C.2.2.2.1, hts⟩ hM ⟨xa_callB ⟨b1, b2, b3, b4, b5⟩ hts b6 hR, hts _ b7⟩ ⟨xa_blindY hY, fun U hU hW => ⟨rfl, ⟨by rw [hU]; exact hP, va_K.moved hW.alike C.2.2.2.2.2.1, C.2.2.2.2.2.2.2.2.2.2.moved hW.alike⟩, hY s U hW.alike hYs⟩⟩ rfl hn hl.1 hst (lv_room hw) hd ⟨hc, hs⟩) kk
  · intro T hT X
    exact ⟨_, Steps.refl _, fun y => absurd y hYs⟩
end XW
