/-! The judgement xa_X: the kit's W with its context bundled; the heap is a function of addresses ('h a = some cell'), 'sz' the heap's size. -/
abbrev xa_Mu : Type := MethodName × ByteArray × Nat × Option FieldType × List (Nat × Nat × Nat × Nat)
abbrev xa_H : Type := Nat → Option va_E
abbrev xa_Z : Type := List Frame → Array Value → State → State → Prop
def xa_u (h : xa_H) (a : Nat) (e : va_E) : xa_H := fun q => if q = a then some e else h q
theorem xa_u_eq (h : xa_H) (a : Nat) (e : va_E) : xa_u h a e a = some e := if_pos rfl
theorem xa_u_ne {h : xa_H} {a b : Nat} {e : va_E} {x : Option va_E} (hb : h b = x) (hn : b ≠ a) : xa_u h a e b = x := (if_neg hn).trans hb
def xa_P (D : va_G) (H0 : Heap) (h : xa_H) (sz : Nat) (H : Heap) : Prop :=
  H.size = sz ∧ H0.size ≤ sz ∧ (∀ q : Nat, q < H0.size → H[q]? = H0[q]?) ∧ ∀ (a : Nat) (e : va_E), h a = some e → H0.size ≤ a ∧ va_at D xa_cl (a, e) H
theorem xa_P.one {D : va_G} {H0 : Heap} {h : xa_H} {sz : Nat} {H : Heap} (hP : xa_P D H0 h sz H) {a : Nat} {e : va_E} (ha : h a = some e) : va_P D xa_cl [(a, e)] H := by
  intro k q hk
  have hz : k < 1 := (List.getElem?_eq_some_iff.mp hk).1
  rw [show k = 0 by omega] at hk
  cases hk
  exact (hP.2.2.2 a e ha).2
theorem xa_P.lt {D : va_G} {H0 : Heap} {h : xa_H} {sz : Nat} {H : Heap} (hP : xa_P D H0 h sz H) {a : Nat} {e : va_E} (ha : h a = some e) : a < sz := by
  rw [← hP.1]; exact (hP.2.2.2 a e ha).2.lt
theorem xa_P.set {D : va_G} {H0 : Heap} {h : xa_H} {sz : Nat} {H H1 : Heap} (hP : xa_P D H0 h sz H) {a : Nat} {e0 e : va_E} (ha : h a = some e0) (he : va_at D xa_cl (a, e) H1) (hz : H1.size = H.size) (oq : ∀ q : Nat, q ≠ a → H1[q]? = H[q]?) : xa_P D H0 (xa_u h a e) sz H1 := by
  obtain ⟨h1, h2, h3, h4⟩ := hP
  have ha0 := (h4 a e0 ha).1
  refine ⟨hz.trans h1, h2, fun q hq => (oq q (by omega)).trans (h3 q hq), fun b e' hb => ?_⟩
  unfold xa_u at hb
  by_cases hba : b = a
  · rw [if_pos hba] at hb
    cases hb
    subst hba
    exact ⟨ha0, he⟩
  · rw [if_neg hba] at hb
    exact ⟨(h4 b e' hb).1, (h4 b e' hb).2.kept (oq b hba)⟩
theorem xa_P.push {D : va_G} {H0 : Heap} {h : xa_H} {sz : Nat} {H H1 : Heap} (hP : xa_P D H0 h sz H) {e : va_E} (he : va_at D xa_cl (sz, e) H1) (hz : H1.size = sz + 1) (oq : ∀ q : Nat, q < sz → H1[q]? = H[q]?) : xa_P D H0 (xa_u h sz e) (sz + 1) H1 := by
  have hlt : ∀ {a : Nat} {e : va_E}, h a = some e → a < sz := fun ha => hP.lt ha
  obtain ⟨h1, h2, h3, h4⟩ := hP
  refine ⟨hz, by omega, fun q hq => (oq q (by omega)).trans (h3 q hq), fun b e' hb => ?_⟩
  unfold xa_u at hb
  by_cases hba : b = sz
  · rw [if_pos hba] at hb
    cases hb
    subst hba
    exact ⟨h2, he⟩
  · rw [if_neg hba] at hb
    exact ⟨(h4 b e' hb).1, (h4 b e' hb).2.kept (oq b (hlt hb))⟩
/-- less is known of the heap -/
theorem xa_P.less {D : va_G} {H0 : Heap} {h h' : xa_H} {sz : Nat} {H : Heap} (hP : xa_P D H0 h sz H) (hh : ∀ (a : Nat) (e : va_E), h' a = some e → h a = some e) : xa_P D H0 h' sz H := ⟨hP.1, hP.2.1, hP.2.2.1, fun a e ha => hP.2.2.2 a e (hh a e ha)⟩
/-- a static of Throwable's that lies below the base heap -/
def xa_SF (H0 : Heap) (nm ds : String) (U : State) : Prop := ∃ (c : ClassId) (k : Class) (i : Nat) (f : Field) (a : Nat) (cell : Cell) (v : Value), U.vm.findClass "java/lang/Throwable" = some c ∧ U.fieldFound? "java/lang/Throwable" nm ds = some (c, k, i, f) ∧ f.isStatic = true ∧ k.statics = some a ∧ H0[a]? = some cell ∧ cell.vm.isStatics = true ∧ cell.cls = c ∧ f.slot < cell.slots.size ∧ k.staticTypes[f.slot]? = some f.type ∧ cell.slots[f.slot]? = some v ∧ (v = .null ∨ ∃ t, v = .ref t)
theorem xa_SF.moved {H0 : Heap} {nm ds : String} {u U : State} (hvm : u.vm.Alike U.vm) (h : xa_SF H0 nm ds u) : xa_SF H0 nm ds U := by
  obtain ⟨c, k, i, f, a, cell, v, h1, h2, h3, h4, h5, h6, h7, h8, h9, h10⟩ := h
  obtain ⟨k', hi', he⟩ := State.fieldFound?_setVm hvm h2
  exact ⟨c, k', i, f, a, cell, v, by rw [hvm.findClass]; exact h1, hi', h3, by rw [he]; exact h4, h5, h6, h7, h8, by rw [he]; exact h9, h10⟩
def xa_N (H0 : Heap) (U : State) : Prop := xa_SF H0 "UNASSIGNED_STACK" "[Ljava/lang/StackTraceElement;" U ∧ xa_SF H0 "SUPPRESSED_SENTINEL" "Ljava/util/List;" U ∧ va_Nc "java/lang/IllegalArgumentException" "java/lang/IndexOutOfBoundsException" U ∧ va_Nc "java/lang/IllegalStateException" "java/lang/IndexOutOfBoundsException" U ∧ va_Nc "java/lang/IllegalStateException" "java/lang/IllegalArgumentException" U
theorem xa_N.moved {H0 : Heap} {u U : State} (hvm : u.vm.Alike U.vm) (h : xa_N H0 u) : xa_N H0 U := ⟨h.1.moved hvm, h.2.1.moved hvm, h.2.2.1.moved hvm, h.2.2.2.1.moved hvm, h.2.2.2.2.moved hvm⟩
def xa_C (D : va_G) (H0 : Heap) (μ : xa_Mu) (p : Program) (s : State) (m : MethodId) (args : Array Value) (meth : Method) (c : Code) : Prop :=
  p.tables.exec = Jvm.exec ∧ c.code = μ.2.1 ∧ c.maxLocals = μ.2.2.1 ∧ s.vm.findClass μ.1.cls = some m.cls ∧ (∀ w ∈ xa_ws, w.before args s = true) ∧ va_K D xa_cl (xa_tys D) s ∧ meth.sig.returnType = μ.2.2.2.1 ∧ meth.locks = false ∧ meth.name = μ.1.name ∧ c.exceptionTable.toList.map (fun x => (x.startPc, x.endPc, x.handlerPc, x.catchType)) = μ.2.2.2.2 ∧ xa_N H0 s
def xa_X (l : Launch) (D : va_G) (H0 : Heap) (μ : xa_Mu) (R : Room) (Z : xa_Z) (k n : Nat) (h : xa_H) (sz pc : Nat) (ls : List (Nat × Value)) (st : List Value) : Prop :=
  ∀ (p : Program) (e : Env) (s : State) (m : MethodId) (args : Array Value) (below : List Frame) (meth : Method) (c : Code) (H : Heap) (locs : List Loc) (la : Array Slot),
    xa_C D H0 μ p s m args meth c → xa_P D H0 h sz H → (∀ q ∈ locs, H0.size ≤ q.base) → lv_has la μ.2.2.1 ls → W p l e R s m args below meth c H locs k n (Z below args s) (F0 m pc la st)
/-- locals: reading, storing -/
def xa_lk : List (Nat × Value) → Nat → Option Value
  | [], _ => none
  | (j, v) :: r, i => match Nat.beq j i with
    | true => some v
    | false => xa_lk r i
def xa_st (i : Nat) (v : Value) : List (Nat × Value) → List (Nat × Value)
  | [] => [(i, v)]
  | (j, w) :: r => match Nat.beq j i with
    | true => xa_st i v r
    | false => (j, w) :: xa_st i v r
def xa_okb (i : Nat) : List (Nat × Value) → Bool
  | [] => true
  | (j, w) :: r => match Nat.beq (j + 1) i with
    | true => Nat.beq w.category 1 && xa_okb i r
    | false => xa_okb i r
theorem xa_lk_mem {ls : List (Nat × Value)} {i : Nat} {v : Value} (h : xa_lk ls i = some v) : (i, v) ∈ ls := by
  induction ls with
  | nil => cases h
  | cons q r ih =>
    obtain ⟨j, w⟩ := q
    unfold xa_lk at h
    cases hb : Nat.beq j i with
    | true =>
      rw [hb] at h
      cases h
      cases Nat.eq_of_beq_eq_true hb
      exact List.mem_cons_self
    | false =>
      rw [hb] at h
      exact List.mem_cons_of_mem _ (ih h)
theorem xa_lk_at {la : Array Slot} {nL : Nat} {ls : List (Nat × Value)} {i : Nat} {v : Value} (hl : lv_has la nL ls) (h : xa_lk ls i = some v) : la[i]? = some (.val v) := hl.2.2 (i, v) (xa_lk_mem h)
theorem xa_st_mem {ls : List (Nat × Value)} {i : Nat} {v : Value} {q : Nat × Value} (h : q ∈ xa_st i v ls) : q = (i, v) ∨ (q ∈ ls ∧ q.1 ≠ i) := by
  induction ls with
  | nil =>
    unfold xa_st at h
    exact Or.inl (List.mem_singleton.mp h)
  | cons x r ih =>
    obtain ⟨j, w⟩ := x
    unfold xa_st at h
    cases hb : Nat.beq j i with
    | true =>
      rw [hb] at h
      rcases ih h with h | ⟨h1, h2⟩
      · exact Or.inl h
      · exact Or.inr ⟨List.mem_cons_of_mem _ h1, h2⟩
    | false =>
      rw [hb] at h
      rcases List.mem_cons.mp h with h | h
      · subst h
        exact Or.inr ⟨List.mem_cons_self, fun e => by have e' : j = i := e; rw [e', Nat.beq_refl] at hb; cases hb⟩
      · rcases ih h with h | ⟨h1, h2⟩
        · exact Or.inl h
        · exact Or.inr ⟨List.mem_cons_of_mem _ h1, h2⟩
theorem xa_okb_mem {ls : List (Nat × Value)} {i : Nat} (h : xa_okb i ls = true) : ∀ q ∈ ls, q.1 + 1 = i → q.2.category = 1 := by
  induction ls with
  | nil => intro q hq; cases hq
  | cons x r ih =>
    obtain ⟨j, w⟩ := x
    intro q hq hi
    unfold xa_okb at h
    cases hb : Nat.beq (j + 1) i with
    | true =>
      rw [hb] at h
      simp only [Bool.and_eq_true] at h
      rcases List.mem_cons.mp hq with hq | hq
      · subst hq
        exact Nat.eq_of_beq_eq_true h.1
      · exact ih h.2 q hq hi
    | false =>
      rw [hb] at h
      rcases List.mem_cons.mp hq with hq | hq
      · subst hq
        have hi' : j + 1 = i := hi
        rw [hi', Nat.beq_refl] at hb
        cases hb
      · exact ih h q hq hi
theorem xa_st_has {la' : Array Slot} {nL : Nat} {ls : List (Nat × Value)} {i : Nat} {v : Value} (hok : xa_okb i ls = true) (h : lv_has la' nL ((i, v) :: ls.filter (fun q => !(q.1 == i) && !(q.1 + 1 == i && q.2.category == 2)))) : lv_has la' nL (xa_st i v ls) := by
  refine ⟨h.1, h.2.1, fun q hq => h.2.2 q ?_⟩
  rcases xa_st_mem hq with hq | ⟨hq, hne⟩
  · subst hq
    exact List.mem_cons_self
  · refine List.mem_cons_of_mem _ (List.mem_filter.mpr ⟨hq, ?_⟩)
    have hc := xa_okb_mem hok q hq
    by_cases hi : q.1 + 1 = i
    · simp [hne, hc hi]
    · simp [hne, hi]
/-- the listed locals are among these -/
def xa_sub (ls : List (Nat × Value)) : List (Nat × Value) → Prop
  | [] => True
  | (i, v) :: r => xa_lk ls i = some v ∧ xa_sub ls r
theorem xa_sub_mem {ls ls' : List (Nat × Value)} (h : xa_sub ls ls') : ∀ q ∈ ls', q ∈ ls := by
  induction ls' with
  | nil => intro q hq; cases hq
  | cons x r ih =>
    obtain ⟨i, v⟩ := x
    intro q hq
    rcases List.mem_cons.mp hq with hq | hq
    · subst hq
      exact xa_lk_mem h.1
    · exact ih h.2 q hq
theorem xa_cat_rf (r : Option Nat) : (va_rf r).category = 1 := by cases r <;> rfl
section XA
variable {l : Launch} {D : va_G} {H0 : Heap} {μ : xa_Mu} {R : Room} {Z : xa_Z} {k n : Nat} {h : xa_H} {sz pc : Nat} {ls : List (Nat × Value)} {st : List Value}
theorem xa_ls {ls' : List (Nat × Value)} (hs : xa_sub ls ls') (kk : xa_X l D H0 μ R Z k n h sz pc ls' st) : xa_X l D H0 μ R Z k n h sz pc ls st := fun p e s m args below meth c H locs la C hP hL hl => kk p e s m args below meth c H locs la C hP hL ⟨hl.1, hl.2.1, fun q hq => hl.2.2 q (xa_sub_mem hs q hq)⟩
theorem xa_less {h' : xa_H} (hh : ∀ (a : Nat) (e : va_E), h' a = some e → h a = some e) (kk : xa_X l D H0 μ R Z k n h' sz pc ls st) : xa_X l D H0 μ R Z k n h sz pc ls st := fun p e s m args below meth c H locs la C hP hL hl => kk p e s m args below meth c H locs la C (hP.less hh) hL hl
theorem xa_widen {k' n' : Nat} (h1 : k ≤ k') (h2 : n ≤ n') (kk : xa_X l D H0 μ R Z k' n' h sz pc ls st) : xa_X l D H0 μ R Z k n h sz pc ls st := fun p e s m args below meth c H locs la C hP hL hl => W.widen h1 h2 (kk p e s m args below meth c H locs la C hP hL hl)
theorem xa_pre (kk : H0.size ≤ sz → (∀ (a : Nat) (e : va_E), h a = some e → H0.size ≤ a ∧ a < sz) → xa_X l D H0 μ R Z k n h sz pc ls st) : xa_X l D H0 μ R Z k n h sz pc ls st := fun p e s m args below meth c H locs la C hP hL hl => kk hP.2.1 (fun a e ha => ⟨(hP.2.2.2 a e ha).1, hP.lt ha⟩) p e s m args below meth c H locs la C hP hL hl
theorem xa_iconst {q : Int} {v : Int32} (hd : decode μ.2.1 pc = .ok (.iconst q, 1)) (hv : Int32.ofInt q = v) (kk : xa_X l D H0 μ R Z k n h sz (pc + 1) ls (.int v :: st)) : xa_X l D H0 μ R Z k n h sz pc ls (st) := by
  intro p e s m args below meth c H locs la C hP hL hl
  exact lv_iconst C.1 C.2.1 hd hv (kk p e s m args below meth c H locs la C hP hL hl)
theorem xa_bipush {q : Int} {v : Int32} (hd : decode μ.2.1 pc = .ok (.bipush q, 2)) (hv : (Int8.ofInt q).toInt32 = v) (kk : xa_X l D H0 μ R Z k n h sz (pc + 2) ls (.int v :: st)) : xa_X l D H0 μ R Z k n h sz pc ls (st) := by
  intro p e s m args below meth c H locs la C hP hL hl
  exact lv_bipush C.1 C.2.1 hd hv (kk p e s m args below meth c H locs la C hP hL hl)
theorem xa_sipush {q : Int} {v : Int32} (hd : decode μ.2.1 pc = .ok (.sipush q, 3)) (hv : (Int16.ofInt q).toInt32 = v) (kk : xa_X l D H0 μ R Z k n h sz (pc + 3) ls (.int v :: st)) : xa_X l D H0 μ R Z k n h sz pc ls (st) := by
  intro p e s m args below meth c H locs la C hP hL hl
  exact lv_sipush C.1 C.2.1 hd hv (kk p e s m args below meth c H locs la C hP hL hl)
theorem xa_lconst {q : Fin 2} {v : Int64} (hd : decode μ.2.1 pc = .ok (.lconst q, 1)) (hv : Int64.ofNat (q : Nat) = v) (kk : xa_X l D H0 μ R Z k n h sz (pc + 1) ls (.long v :: st)) : xa_X l D H0 μ R Z k n h sz pc ls (st) := by
  intro p e s m args below meth c H locs la C hP hL hl
  exact lv_lconst C.1 C.2.1 hd hv (kk p e s m args below meth c H locs la C hP hL hl)
theorem xa_null  (hd : decode μ.2.1 pc = .ok (.aconst_null, 1))  (kk : xa_X l D H0 μ R Z k n h sz (pc + 1) ls (.null :: st)) : xa_X l D H0 μ R Z k n h sz pc ls (st) := by
  intro p e s m args below meth c H locs la C hP hL hl
  exact lv_null C.1 C.2.1 hd  (kk p e s m args below meth c H locs la C hP hL hl)
theorem xa_iload_n {q : Fin 4} {x : Int32} (hd : decode μ.2.1 pc = .ok (.iload_n q, 1)) (hx : xa_lk ls (q : Nat) = some (.int x)) (kk : xa_X l D H0 μ R Z k n h sz (pc + 1) ls (.int x :: st)) : xa_X l D H0 μ R Z k n h sz pc ls (st) := by
  intro p e s m args below meth c H locs la C hP hL hl
  exact lv_iload_n C.1 C.2.1 hd rfl (xa_lk_at hl hx) (kk p e s m args below meth c H locs la C hP hL hl)
theorem xa_iload {q : Nat} {x : Int32} (hd : decode μ.2.1 pc = .ok (.iload q, 2)) (hx : xa_lk ls q = some (.int x)) (kk : xa_X l D H0 μ R Z k n h sz (pc + 2) ls (.int x :: st)) : xa_X l D H0 μ R Z k n h sz pc ls (st) := by
  intro p e s m args below meth c H locs la C hP hL hl
  exact lv_iload C.1 C.2.1 hd (xa_lk_at hl hx) (kk p e s m args below meth c H locs la C hP hL hl)
theorem xa_lload_n {q : Fin 4} {x : Int64} (hd : decode μ.2.1 pc = .ok (.lload_n q, 1)) (hx : xa_lk ls (q : Nat) = some (.long x)) (kk : xa_X l D H0 μ R Z k n h sz (pc + 1) ls (.long x :: st)) : xa_X l D H0 μ R Z k n h sz pc ls (st) := by
  intro p e s m args below meth c H locs la C hP hL hl
  exact lv_lload_n C.1 C.2.1 hd rfl (xa_lk_at hl hx) (kk p e s m args below meth c H locs la C hP hL hl)
theorem xa_lload {q : Nat} {x : Int64} (hd : decode μ.2.1 pc = .ok (.lload q, 2)) (hx : xa_lk ls q = some (.long x)) (kk : xa_X l D H0 μ R Z k n h sz (pc + 2) ls (.long x :: st)) : xa_X l D H0 μ R Z k n h sz pc ls (st) := by
  intro p e s m args below meth c H locs la C hP hL hl
  exact lv_lload C.1 C.2.1 hd (xa_lk_at hl hx) (kk p e s m args below meth c H locs la C hP hL hl)
theorem xa_aload_n {q : Fin 4} {x : Nat} (hd : decode μ.2.1 pc = .ok (.aload_n q, 1)) (hx : xa_lk ls (q : Nat) = some (.ref x)) (kk : xa_X l D H0 μ R Z k n h sz (pc + 1) ls (.ref x :: st)) : xa_X l D H0 μ R Z k n h sz pc ls (st) := by
  intro p e s m args below meth c H locs la C hP hL hl
  exact lv_aload_n C.1 C.2.1 hd rfl (xa_lk_at hl hx) (kk p e s m args below meth c H locs la C hP hL hl)
theorem xa_aload {q : Nat} {x : Nat} (hd : decode μ.2.1 pc = .ok (.aload q, 2)) (hx : xa_lk ls q = some (.ref x)) (kk : xa_X l D H0 μ R Z k n h sz (pc + 2) ls (.ref x :: st)) : xa_X l D H0 μ R Z k n h sz pc ls (st) := by
  intro p e s m args below meth c H locs la C hP hL hl
  exact lv_aload C.1 C.2.1 hd (xa_lk_at hl hx) (kk p e s m args below meth c H locs la C hP hL hl)
theorem xa_aload_nN {q : Fin 4} (hd : decode μ.2.1 pc = .ok (.aload_n q, 1)) (hx : xa_lk ls (q : Nat) = some .null) (kk : xa_X l D H0 μ R Z k n h sz (pc + 1) ls (.null :: st)) : xa_X l D H0 μ R Z k n h sz pc ls (st) := by
  intro p e s m args below meth c H locs la C hP hL hl
  exact lv_aload_nN C.1 C.2.1 hd rfl (xa_lk_at hl hx) (kk p e s m args below meth c H locs la C hP hL hl)
theorem xa_aloadN {q : Nat} (hd : decode μ.2.1 pc = .ok (.aload q, 2)) (hx : xa_lk ls q = some .null) (kk : xa_X l D H0 μ R Z k n h sz (pc + 2) ls (.null :: st)) : xa_X l D H0 μ R Z k n h sz pc ls (st) := by
  intro p e s m args below meth c H locs la C hP hL hl
  exact lv_aloadN C.1 C.2.1 hd (xa_lk_at hl hx) (kk p e s m args below meth c H locs la C hP hL hl)
theorem xa_aload_nQ {q : Fin 4} {r : Option Nat} (hd : decode μ.2.1 pc = .ok (.aload_n q, 1)) (hx : xa_lk ls (q : Nat) = some (va_rf r)) (kk : xa_X l D H0 μ R Z k n h sz (pc + 1) ls (va_rf r :: st)) : xa_X l D H0 μ R Z k n h sz pc ls st := by
  cases r with
  | none => exact xa_aload_nN hd hx kk
  | some a => exact xa_aload_n hd hx kk
theorem xa_aloadQ {q : Nat} {r : Option Nat} (hd : decode μ.2.1 pc = .ok (.aload q, 2)) (hx : xa_lk ls q = some (va_rf r)) (kk : xa_X l D H0 μ R Z k n h sz (pc + 2) ls (va_rf r :: st)) : xa_X l D H0 μ R Z k n h sz pc ls st := by
  cases r with
  | none => exact xa_aloadN hd hx kk
  | some a => exact xa_aload hd hx kk
theorem xa_istore_n {q : Fin 4} {x : Int32} (hd : decode μ.2.1 pc = .ok (.istore_n q, 1)) (hn : Nat.blt (q : Nat) μ.2.2.1 = true) (hok : xa_okb (q : Nat) ls = true) (kk : xa_X l D H0 μ R Z k n h sz (pc + 1) (xa_st (q : Nat) (.int x) ls) st) : xa_X l D H0 μ R Z k n h sz pc ls (.int x :: st) := by
  intro p e s m args below meth c H locs la C hP hL hl
  exact lv_istore_n C.1 C.2.1 hd rfl hl (Nat.le_of_ble_eq_true hn) rfl (fun la' hl' => kk p e s m args below meth c H locs la' C hP hL (xa_st_has hok hl'))
theorem xa_istore {q : Nat} {x : Int32} (hd : decode μ.2.1 pc = .ok (.istore q, 2)) (hn : Nat.blt q μ.2.2.1 = true) (hok : xa_okb q ls = true) (kk : xa_X l D H0 μ R Z k n h sz (pc + 2) (xa_st q (.int x) ls) st) : xa_X l D H0 μ R Z k n h sz pc ls (.int x :: st) := by
  intro p e s m args below meth c H locs la C hP hL hl
  exact lv_istore C.1 C.2.1 hd hl (Nat.le_of_ble_eq_true hn) rfl (fun la' hl' => kk p e s m args below meth c H locs la' C hP hL (xa_st_has hok hl'))
theorem xa_astore_n {q : Fin 4} {x : Nat} (hd : decode μ.2.1 pc = .ok (.astore_n q, 1)) (hn : Nat.blt (q : Nat) μ.2.2.1 = true) (hok : xa_okb (q : Nat) ls = true) (kk : xa_X l D H0 μ R Z k n h sz (pc + 1) (xa_st (q : Nat) (.ref x) ls) st) : xa_X l D H0 μ R Z k n h sz pc ls (.ref x :: st) := by
  intro p e s m args below meth c H locs la C hP hL hl
  exact lv_astore_n C.1 C.2.1 hd rfl hl (Nat.le_of_ble_eq_true hn) rfl (fun la' hl' => kk p e s m args below meth c H locs la' C hP hL (xa_st_has hok hl'))
theorem xa_astore {q : Nat} {x : Nat} (hd : decode μ.2.1 pc = .ok (.astore q, 2)) (hn : Nat.blt q μ.2.2.1 = true) (hok : xa_okb q ls = true) (kk : xa_X l D H0 μ R Z k n h sz (pc + 2) (xa_st q (.ref x) ls) st) : xa_X l D H0 μ R Z k n h sz pc ls (.ref x :: st) := by
  intro p e s m args below meth c H locs la C hP hL hl
  exact lv_astore C.1 C.2.1 hd hl (Nat.le_of_ble_eq_true hn) rfl (fun la' hl' => kk p e s m args below meth c H locs la' C hP hL (xa_st_has hok hl'))
theorem xa_astore_nN {q : Fin 4} (hd : decode μ.2.1 pc = .ok (.astore_n q, 1)) (hn : Nat.blt (q : Nat) μ.2.2.1 = true) (hok : xa_okb (q : Nat) ls = true) (kk : xa_X l D H0 μ R Z k n h sz (pc + 1) (xa_st (q : Nat) .null ls) st) : xa_X l D H0 μ R Z k n h sz pc ls (.null :: st) := by
  intro p e s m args below meth c H locs la C hP hL hl
  exact lv_astore_nN C.1 C.2.1 hd rfl hl (Nat.le_of_ble_eq_true hn) rfl (fun la' hl' => kk p e s m args below meth c H locs la' C hP hL (xa_st_has hok hl'))
theorem xa_astore_nQ {q : Fin 4} {r : Option Nat} (hd : decode μ.2.1 pc = .ok (.astore_n q, 1)) (hn : Nat.blt (q : Nat) μ.2.2.1 = true) (hok : xa_okb (q : Nat) ls = true) (kk : xa_X l D H0 μ R Z k n h sz (pc + 1) (xa_st (q : Nat) (va_rf r) ls) st) : xa_X l D H0 μ R Z k n h sz pc ls (va_rf r :: st) := by
  cases r with
  | none => exact xa_astore_nN hd hn hok kk
  | some a => exact xa_astore_n hd hn hok kk
theorem xa_lstore_n {q : Fin 4} {x : Int64} {ls' : List (Nat × Value)} (hd : decode μ.2.1 pc = .ok (.lstore_n q, 1)) (hn : Nat.blt ((q : Nat) + 1) μ.2.2.1 = true) (hl' : ((q : Nat), Value.long x) :: ls.filter (fun y => !(y.1 == (q : Nat)) && (!(y.1 == (q : Nat) + 1) && !(y.1 + 1 == (q : Nat) && y.2.category == 2))) = ls') (kk : xa_X l D H0 μ R Z k n h sz (pc + 1) ls' st) : xa_X l D H0 μ R Z k n h sz pc ls (.long x :: st) := by
  intro p e s m args below meth c H locs la C hP hL hl
  exact lv_lstore_n C.1 C.2.1 hd rfl hl (Nat.le_of_ble_eq_true hn) hl' (fun la' hl2 => kk p e s m args below meth c H locs la' C hP hL hl2)
theorem xa_astoreN {q : Nat} (hd : decode μ.2.1 pc = .ok (.astore q, 2)) (hn : Nat.blt q μ.2.2.1 = true) (hok : xa_okb q ls = true) (kk : xa_X l D H0 μ R Z k n h sz (pc + 2) (xa_st q .null ls) st) : xa_X l D H0 μ R Z k n h sz pc ls (.null :: st) := by
  intro p e s m args below meth c H locs la C hP hL hl
  exact lv_astoreN C.1 C.2.1 hd hl (Nat.le_of_ble_eq_true hn) rfl (fun la' hl' => kk p e s m args below meth c H locs la' C hP hL (xa_st_has hok hl'))
theorem xa_astoreQ {q : Nat} {r : Option Nat} (hd : decode μ.2.1 pc = .ok (.astore q, 2)) (hn : Nat.blt q μ.2.2.1 = true) (hok : xa_okb q ls = true) (kk : xa_X l D H0 μ R Z k n h sz (pc + 2) (xa_st q (va_rf r) ls) st) : xa_X l D H0 μ R Z k n h sz pc ls (va_rf r :: st) := by
  cases r with
  | none => exact xa_astoreN hd hn hok kk
  | some a => exact xa_astore hd hn hok kk
theorem xa_lstore {q : Nat} {x : Int64} {ls' : List (Nat × Value)} (hd : decode μ.2.1 pc = .ok (.lstore q, 2)) (hn : Nat.blt (q + 1) μ.2.2.1 = true) (hl' : (q, Value.long x) :: ls.filter (fun y => !(y.1 == q) && (!(y.1 == q + 1) && !(y.1 + 1 == q && y.2.category == 2))) = ls') (kk : xa_X l D H0 μ R Z k n h sz (pc + 2) ls' st) : xa_X l D H0 μ R Z k n h sz pc ls (.long x :: st) := by
  intro p e s m args below meth c H locs la C hP hL hl
  exact lv_lstore C.1 C.2.1 hd hl (Nat.le_of_ble_eq_true hn) hl' (fun la' hl2 => kk p e s m args below meth c H locs la' C hP hL hl2)
theorem xa_iinc {q : Nat} {d : Int} {x v : Int32} (hd : decode μ.2.1 pc = .ok (.iinc q d, 3)) (hx : xa_lk ls q = some (.int x)) (hv : x + Int32.ofInt d = v) (hn : Nat.blt q μ.2.2.1 = true) (hok : xa_okb q ls = true) (kk : xa_X l D H0 μ R Z k n h sz (pc + 3) (xa_st q (.int v) ls) st) : xa_X l D H0 μ R Z k n h sz pc ls st := by
  intro p e s m args below meth c H locs la C hP hL hl
  obtain ⟨i, hi⟩ := List.getElem?_of_mem (xa_lk_mem hx)
  exact lv_iinc C.1 C.2.1 hd hl hi hv (Nat.le_of_ble_eq_true hn) rfl (fun la' hl' => kk p e s m args below meth c H locs la' C hP hL (xa_st_has hok hl'))
theorem xa_iadd {x y : Int32} (hd : decode μ.2.1 pc = .ok (.iadd, 1))  (kk : xa_X l D H0 μ R Z k n h sz (pc + 1) ls (.int (x + y) :: st)) : xa_X l D H0 μ R Z k n h sz pc ls (.int y :: .int x :: st) := by
  intro p e s m args below meth c H locs la C hP hL hl
  exact lv_iadd C.1 C.2.1 hd  (kk p e s m args below meth c H locs la C hP hL hl)
theorem xa_isub {x y : Int32} (hd : decode μ.2.1 pc = .ok (.isub, 1))  (kk : xa_X l D H0 μ R Z k n h sz (pc + 1) ls (.int (x - y) :: st)) : xa_X l D H0 μ R Z k n h sz pc ls (.int y :: .int x :: st) := by
  intro p e s m args below meth c H locs la C hP hL hl
  exact lv_isub C.1 C.2.1 hd  (kk p e s m args below meth c H locs la C hP hL hl)
theorem xa_imul {x y : Int32} (hd : decode μ.2.1 pc = .ok (.imul, 1))  (kk : xa_X l D H0 μ R Z k n h sz (pc + 1) ls (.int (x * y) :: st)) : xa_X l D H0 μ R Z k n h sz pc ls (.int y :: .int x :: st) := by
  intro p e s m args below meth c H locs la C hP hL hl
  exact lv_imul C.1 C.2.1 hd  (kk p e s m args below meth c H locs la C hP hL hl)
theorem xa_iand {x y : Int32} (hd : decode μ.2.1 pc = .ok (.iand, 1))  (kk : xa_X l D H0 μ R Z k n h sz (pc + 1) ls (.int (x &&& y) :: st)) : xa_X l D H0 μ R Z k n h sz pc ls (.int y :: .int x :: st) := by
  intro p e s m args below meth c H locs la C hP hL hl
  exact lv_iand C.1 C.2.1 hd  (kk p e s m args below meth c H locs la C hP hL hl)
theorem xa_ior {x y : Int32} (hd : decode μ.2.1 pc = .ok (.ior, 1))  (kk : xa_X l D H0 μ R Z k n h sz (pc + 1) ls (.int (x ||| y) :: st)) : xa_X l D H0 μ R Z k n h sz pc ls (.int y :: .int x :: st) := by
  intro p e s m args below meth c H locs la C hP hL hl
  exact lv_ior C.1 C.2.1 hd  (kk p e s m args below meth c H locs la C hP hL hl)
theorem xa_ixor {x y : Int32} (hd : decode μ.2.1 pc = .ok (.ixor, 1))  (kk : xa_X l D H0 μ R Z k n h sz (pc + 1) ls (.int (x ^^^ y) :: st)) : xa_X l D H0 μ R Z k n h sz pc ls (.int y :: .int x :: st) := by
  intro p e s m args below meth c H locs la C hP hL hl
  exact lv_ixor C.1 C.2.1 hd  (kk p e s m args below meth c H locs la C hP hL hl)
theorem xa_idiv {x y : Int32} (hd : decode μ.2.1 pc = .ok (.idiv, 1)) (hne : ¬ y = 0) (kk : xa_X l D H0 μ R Z k n h sz (pc + 1) ls (.int (x / y) :: st)) : xa_X l D H0 μ R Z k n h sz pc ls (.int y :: .int x :: st) := by
  intro p e s m args below meth c H locs la C hP hL hl
  exact lv_idiv C.1 C.2.1 hd hne (kk p e s m args below meth c H locs la C hP hL hl)
theorem xa_irem {x y : Int32} (hd : decode μ.2.1 pc = .ok (.irem, 1)) (hne : ¬ y = 0) (kk : xa_X l D H0 μ R Z k n h sz (pc + 1) ls (.int (x - x / y * y) :: st)) : xa_X l D H0 μ R Z k n h sz pc ls (.int y :: .int x :: st) := by
  intro p e s m args below meth c H locs la C hP hL hl
  exact lv_irem C.1 C.2.1 hd hne (kk p e s m args below meth c H locs la C hP hL hl)
theorem xa_ishl {x y : Int32} (hd : decode μ.2.1 pc = .ok (.ishl, 1))  (kk : xa_X l D H0 μ R Z k n h sz (pc + 1) ls (.int (x <<< (y &&& 31)) :: st)) : xa_X l D H0 μ R Z k n h sz pc ls (.int y :: .int x :: st) := by
  intro p e s m args below meth c H locs la C hP hL hl
  exact lv_ishl C.1 C.2.1 hd  (kk p e s m args below meth c H locs la C hP hL hl)
theorem xa_ladd {x y : Int64} (hd : decode μ.2.1 pc = .ok (.ladd, 1))  (kk : xa_X l D H0 μ R Z k n h sz (pc + 1) ls (.long (x + y) :: st)) : xa_X l D H0 μ R Z k n h sz pc ls (.long y :: .long x :: st) := by
  intro p e s m args below meth c H locs la C hP hL hl
  exact lv_ladd C.1 C.2.1 hd  (kk p e s m args below meth c H locs la C hP hL hl)
theorem xa_lmul {x y : Int64} (hd : decode μ.2.1 pc = .ok (.lmul, 1))  (kk : xa_X l D H0 μ R Z k n h sz (pc + 1) ls (.long (x * y) :: st)) : xa_X l D H0 μ R Z k n h sz pc ls (.long y :: .long x :: st) := by
  intro p e s m args below meth c H locs la C hP hL hl
  exact lv_lmul C.1 C.2.1 hd  (kk p e s m args below meth c H locs la C hP hL hl)
theorem xa_land {x y : Int64} (hd : decode μ.2.1 pc = .ok (.land, 1))  (kk : xa_X l D H0 μ R Z k n h sz (pc + 1) ls (.long (x &&& y) :: st)) : xa_X l D H0 μ R Z k n h sz pc ls (.long y :: .long x :: st) := by
  intro p e s m args below meth c H locs la C hP hL hl
  exact lv_land C.1 C.2.1 hd  (kk p e s m args below meth c H locs la C hP hL hl)
theorem xa_lor {x y : Int64} (hd : decode μ.2.1 pc = .ok (.lor, 1))  (kk : xa_X l D H0 μ R Z k n h sz (pc + 1) ls (.long (x ||| y) :: st)) : xa_X l D H0 μ R Z k n h sz pc ls (.long y :: .long x :: st) := by
  intro p e s m args below meth c H locs la C hP hL hl
  exact lv_lor C.1 C.2.1 hd  (kk p e s m args below meth c H locs la C hP hL hl)
theorem xa_lxor {x y : Int64} (hd : decode μ.2.1 pc = .ok (.lxor, 1))  (kk : xa_X l D H0 μ R Z k n h sz (pc + 1) ls (.long (x ^^^ y) :: st)) : xa_X l D H0 μ R Z k n h sz pc ls (.long y :: .long x :: st) := by
  intro p e s m args below meth c H locs la C hP hL hl
  exact lv_lxor C.1 C.2.1 hd  (kk p e s m args below meth c H locs la C hP hL hl)
theorem xa_lushr {x v : Int64} {y : Int32} (hd : decode μ.2.1 pc = .ok (.lushr, 1)) (hv : (x.toUInt64 >>> (y.toInt64.toUInt64 &&& Int64.toUInt64 63)).toInt64 = v) (kk : xa_X l D H0 μ R Z k n h sz (pc + 1) ls (.long v :: st)) : xa_X l D H0 μ R Z k n h sz pc ls (.int y :: .long x :: st) := by
  intro p e s m args below meth c H locs la C hP hL hl
  exact lv_lushr C.1 C.2.1 hd hv (kk p e s m args below meth c H locs la C hP hL hl)
theorem xa_lshl {x v : Int64} {y : Int32} (hd : decode μ.2.1 pc = .ok (.lshl, 1)) (hv : x <<< (y.toInt64 &&& 63) = v) (kk : xa_X l D H0 μ R Z k n h sz (pc + 1) ls (.long v :: st)) : xa_X l D H0 μ R Z k n h sz pc ls (.int y :: .long x :: st) := by
  intro p e s m args below meth c H locs la C hP hL hl
  exact lv_lshl C.1 C.2.1 hd hv (kk p e s m args below meth c H locs la C hP hL hl)
theorem xa_i2l {x : Int32} {v : Int64} (hd : decode μ.2.1 pc = .ok (.i2l, 1)) (hv : x.toInt64 = v) (kk : xa_X l D H0 μ R Z k n h sz (pc + 1) ls (.long v :: st)) : xa_X l D H0 μ R Z k n h sz pc ls (.int x :: st) := by
  intro p e s m args below meth c H locs la C hP hL hl
  exact lv_i2l C.1 C.2.1 hd hv (kk p e s m args below meth c H locs la C hP hL hl)
theorem xa_l2i {x : Int64} {v : Int32} (hd : decode μ.2.1 pc = .ok (.l2i, 1)) (hv : x.toInt32 = v) (kk : xa_X l D H0 μ R Z k n h sz (pc + 1) ls (.int v :: st)) : xa_X l D H0 μ R Z k n h sz pc ls (.long x :: st) := by
  intro p e s m args below meth c H locs la C hP hL hl
  exact lv_l2i C.1 C.2.1 hd hv (kk p e s m args below meth c H locs la C hP hL hl)
theorem xa_lcmp {x y : Int64} (hd : decode μ.2.1 pc = .ok (.lcmp, 1))  (kk : xa_X l D H0 μ R Z k n h sz (pc + 1) ls (.int (lg_cmp x y) :: st)) : xa_X l D H0 μ R Z k n h sz pc ls (.long y :: .long x :: st) := by
  intro p e s m args below meth c H locs la C hP hL hl
  exact W.lcmp C.1 C.2.1 hd  (kk p e s m args below meth c H locs la C hP hL hl)
theorem xa_dup {x : Value} (hd : decode μ.2.1 pc = .ok (.dup, 1)) (hx : x.category = 1) (kk : xa_X l D H0 μ R Z k n h sz (pc + 1) ls (x :: x :: st)) : xa_X l D H0 μ R Z k n h sz pc ls (x :: st) := by
  intro p e s m args below meth c H locs la C hP hL hl
  exact lv_dup C.1 C.2.1 hd hx (kk p e s m args below meth c H locs la C hP hL hl)
theorem xa_pop {x : Value} (hd : decode μ.2.1 pc = .ok (.pop, 1)) (hx : x.category = 1) (kk : xa_X l D H0 μ R Z k n h sz (pc + 1) ls (st)) : xa_X l D H0 μ R Z k n h sz pc ls (x :: st) := by
  intro p e s m args below meth c H locs la C hP hL hl
  exact lv_pop C.1 C.2.1 hd hx (kk p e s m args below meth c H locs la C hP hL hl)
theorem xa_dup_x1 {x y : Value} (hd : decode μ.2.1 pc = .ok (.dup_x1, 1)) (hx : x.category = 1) (hy : y.category = 1) (kk : xa_X l D H0 μ R Z k n h sz (pc + 1) ls (x :: y :: x :: st)) : xa_X l D H0 μ R Z k n h sz pc ls (x :: y :: st) := by
  intro p e s m args below meth c H locs la C hP hL hl
  exact lv_dup_x1 C.1 C.2.1 hd hx hy (kk p e s m args below meth c H locs la C hP hL hl)
theorem xa_dup_x2 {x y z : Value} (hd : decode μ.2.1 pc = .ok (.dup_x2, 1)) (hx : x.category = 1) (hy : y.category = 1) (hz : z.category = 1) (kk : xa_X l D H0 μ R Z k n h sz (pc + 1) ls (x :: y :: z :: x :: st)) : xa_X l D H0 μ R Z k n h sz pc ls (x :: y :: z :: st) := by
  intro p e s m args below meth c H locs la C hP hL hl
  exact lv_dup_x2 C.1 C.2.1 hd hx hy hz (kk p e s m args below meth c H locs la C hP hL hl)
theorem xa_dup2 {x y : Value} (hd : decode μ.2.1 pc = .ok (.dup2, 1)) (hx : x.category = 1) (hy : y.category = 1) (kk : xa_X l D H0 μ R Z k n h sz (pc + 1) ls (x :: y :: x :: y :: st)) : xa_X l D H0 μ R Z k n h sz pc ls (x :: y :: st) := by
  intro p e s m args below meth c H locs la C hP hL hl
  exact lv_dup2_11 C.1 C.2.1 hd hx hy (kk p e s m args below meth c H locs la C hP hL hl)
theorem xa_dup2L {x : Value} (hd : decode μ.2.1 pc = .ok (.dup2, 1)) (hx : x.category = 2) (kk : xa_X l D H0 μ R Z k n h sz (pc + 1) ls (x :: x :: st)) : xa_X l D H0 μ R Z k n h sz pc ls (x :: st) := by
  intro p e s m args below meth c H locs la C hP hL hl
  exact lv_dup2_2 C.1 C.2.1 hd hx (kk p e s m args below meth c H locs la C hP hL hl)
theorem xa_if_eq {x : Int32} {off : Int} {tgt : Nat} (hd : decode μ.2.1 pc = .ok (.ifCond .eq off, 3)) (ht : (pc : Int) + off = (tgt : Int)) (kt : x = 0 → xa_X l D H0 μ R Z k n h sz tgt ls st) (kf : ¬ x = 0 → xa_X l D H0 μ R Z k n h sz (pc + 3) ls st) : xa_X l D H0 μ R Z k n h sz pc ls (.int x :: st) := by
  intro p e s m args below meth c H locs la C hP hL hl
  exact lv_if_eq C.1 C.2.1 hd ht (fun q => kt q p e s m args below meth c H locs la C hP hL hl) (fun q => kf q p e s m args below meth c H locs la C hP hL hl)
theorem xa_icmp_eq {x y : Int32} {off : Int} {tgt : Nat} (hd : decode μ.2.1 pc = .ok (.if_icmp .eq off, 3)) (ht : (pc : Int) + off = (tgt : Int)) (kt : x = y → xa_X l D H0 μ R Z k n h sz tgt ls st) (kf : ¬ x = y → xa_X l D H0 μ R Z k n h sz (pc + 3) ls st) : xa_X l D H0 μ R Z k n h sz pc ls (.int y :: .int x :: st) := by
  intro p e s m args below meth c H locs la C hP hL hl
  exact lv_icmp_eq C.1 C.2.1 hd ht (fun q => kt q p e s m args below meth c H locs la C hP hL hl) (fun q => kf q p e s m args below meth c H locs la C hP hL hl)
theorem xa_if_ne {x : Int32} {off : Int} {tgt : Nat} (hd : decode μ.2.1 pc = .ok (.ifCond .ne off, 3)) (ht : (pc : Int) + off = (tgt : Int)) (kt : ¬ x = 0 → xa_X l D H0 μ R Z k n h sz tgt ls st) (kf : x = 0 → xa_X l D H0 μ R Z k n h sz (pc + 3) ls st) : xa_X l D H0 μ R Z k n h sz pc ls (.int x :: st) := by
  intro p e s m args below meth c H locs la C hP hL hl
  exact lv_if_ne C.1 C.2.1 hd ht (fun q => kt q p e s m args below meth c H locs la C hP hL hl) (fun q => kf q p e s m args below meth c H locs la C hP hL hl)
theorem xa_icmp_ne {x y : Int32} {off : Int} {tgt : Nat} (hd : decode μ.2.1 pc = .ok (.if_icmp .ne off, 3)) (ht : (pc : Int) + off = (tgt : Int)) (kt : ¬ x = y → xa_X l D H0 μ R Z k n h sz tgt ls st) (kf : x = y → xa_X l D H0 μ R Z k n h sz (pc + 3) ls st) : xa_X l D H0 μ R Z k n h sz pc ls (.int y :: .int x :: st) := by
  intro p e s m args below meth c H locs la C hP hL hl
  exact lv_icmp_ne C.1 C.2.1 hd ht (fun q => kt q p e s m args below meth c H locs la C hP hL hl) (fun q => kf q p e s m args below meth c H locs la C hP hL hl)
theorem xa_if_lt {x : Int32} {off : Int} {tgt : Nat} (hd : decode μ.2.1 pc = .ok (.ifCond .lt off, 3)) (ht : (pc : Int) + off = (tgt : Int)) (kt : x < 0 → xa_X l D H0 μ R Z k n h sz tgt ls st) (kf : ¬ x < 0 → xa_X l D H0 μ R Z k n h sz (pc + 3) ls st) : xa_X l D H0 μ R Z k n h sz pc ls (.int x :: st) := by
  intro p e s m args below meth c H locs la C hP hL hl
  exact lv_if_lt C.1 C.2.1 hd ht (fun q => kt q p e s m args below meth c H locs la C hP hL hl) (fun q => kf q p e s m args below meth c H locs la C hP hL hl)
theorem xa_icmp_lt {x y : Int32} {off : Int} {tgt : Nat} (hd : decode μ.2.1 pc = .ok (.if_icmp .lt off, 3)) (ht : (pc : Int) + off = (tgt : Int)) (kt : x < y → xa_X l D H0 μ R Z k n h sz tgt ls st) (kf : ¬ x < y → xa_X l D H0 μ R Z k n h sz (pc + 3) ls st) : xa_X l D H0 μ R Z k n h sz pc ls (.int y :: .int x :: st) := by
  intro p e s m args below meth c H locs la C hP hL hl
  exact lv_icmp_lt C.1 C.2.1 hd ht (fun q => kt q p e s m args below meth c H locs la C hP hL hl) (fun q => kf q p e s m args below meth c H locs la C hP hL hl)
theorem xa_if_ge {x : Int32} {off : Int} {tgt : Nat} (hd : decode μ.2.1 pc = .ok (.ifCond .ge off, 3)) (ht : (pc : Int) + off = (tgt : Int)) (kt : 0 ≤ x → xa_X l D H0 μ R Z k n h sz tgt ls st) (kf : ¬ 0 ≤ x → xa_X l D H0 μ R Z k n h sz (pc + 3) ls st) : xa_X l D H0 μ R Z k n h sz pc ls (.int x :: st) := by
  intro p e s m args below meth c H locs la C hP hL hl
  exact lv_if_ge C.1 C.2.1 hd ht (fun q => kt q p e s m args below meth c H locs la C hP hL hl) (fun q => kf q p e s m args below meth c H locs la C hP hL hl)
theorem xa_icmp_ge {x y : Int32} {off : Int} {tgt : Nat} (hd : decode μ.2.1 pc = .ok (.if_icmp .ge off, 3)) (ht : (pc : Int) + off = (tgt : Int)) (kt : y ≤ x → xa_X l D H0 μ R Z k n h sz tgt ls st) (kf : ¬ y ≤ x → xa_X l D H0 μ R Z k n h sz (pc + 3) ls st) : xa_X l D H0 μ R Z k n h sz pc ls (.int y :: .int x :: st) := by
  intro p e s m args below meth c H locs la C hP hL hl
  exact lv_icmp_ge C.1 C.2.1 hd ht (fun q => kt q p e s m args below meth c H locs la C hP hL hl) (fun q => kf q p e s m args below meth c H locs la C hP hL hl)
theorem xa_if_gt {x : Int32} {off : Int} {tgt : Nat} (hd : decode μ.2.1 pc = .ok (.ifCond .gt off, 3)) (ht : (pc : Int) + off = (tgt : Int)) (kt : 0 < x → xa_X l D H0 μ R Z k n h sz tgt ls st) (kf : ¬ 0 < x → xa_X l D H0 μ R Z k n h sz (pc + 3) ls st) : xa_X l D H0 μ R Z k n h sz pc ls (.int x :: st) := by
  intro p e s m args below meth c H locs la C hP hL hl
  exact lv_if_gt C.1 C.2.1 hd ht (fun q => kt q p e s m args below meth c H locs la C hP hL hl) (fun q => kf q p e s m args below meth c H locs la C hP hL hl)
theorem xa_icmp_gt {x y : Int32} {off : Int} {tgt : Nat} (hd : decode μ.2.1 pc = .ok (.if_icmp .gt off, 3)) (ht : (pc : Int) + off = (tgt : Int)) (kt : y < x → xa_X l D H0 μ R Z k n h sz tgt ls st) (kf : ¬ y < x → xa_X l D H0 μ R Z k n h sz (pc + 3) ls st) : xa_X l D H0 μ R Z k n h sz pc ls (.int y :: .int x :: st) := by
  intro p e s m args below meth c H locs la C hP hL hl
  exact lv_icmp_gt C.1 C.2.1 hd ht (fun q => kt q p e s m args below meth c H locs la C hP hL hl) (fun q => kf q p e s m args below meth c H locs la C hP hL hl)
theorem xa_if_le {x : Int32} {off : Int} {tgt : Nat} (hd : decode μ.2.1 pc = .ok (.ifCond .le off, 3)) (ht : (pc : Int) + off = (tgt : Int)) (kt : x ≤ 0 → xa_X l D H0 μ R Z k n h sz tgt ls st) (kf : ¬ x ≤ 0 → xa_X l D H0 μ R Z k n h sz (pc + 3) ls st) : xa_X l D H0 μ R Z k n h sz pc ls (.int x :: st) := by
  intro p e s m args below meth c H locs la C hP hL hl
  exact lv_if_le C.1 C.2.1 hd ht (fun q => kt q p e s m args below meth c H locs la C hP hL hl) (fun q => kf q p e s m args below meth c H locs la C hP hL hl)
theorem xa_icmp_le {x y : Int32} {off : Int} {tgt : Nat} (hd : decode μ.2.1 pc = .ok (.if_icmp .le off, 3)) (ht : (pc : Int) + off = (tgt : Int)) (kt : x ≤ y → xa_X l D H0 μ R Z k n h sz tgt ls st) (kf : ¬ x ≤ y → xa_X l D H0 μ R Z k n h sz (pc + 3) ls st) : xa_X l D H0 μ R Z k n h sz pc ls (.int y :: .int x :: st) := by
  intro p e s m args below meth c H locs la C hP hL hl
  exact lv_icmp_le C.1 C.2.1 hd ht (fun q => kt q p e s m args below meth c H locs la C hP hL hl) (fun q => kf q p e s m args below meth c H locs la C hP hL hl)
theorem xa_goto {off : Int} {tgt : Nat} (hd : decode μ.2.1 pc = .ok (.goto off, 3)) (ht : (pc : Int) + off = (tgt : Int)) (kk : xa_X l D H0 μ R Z k n h sz tgt ls st) : xa_X l D H0 μ R Z k n h sz pc ls st := by
  intro p e s m args below meth c H locs la C hP hL hl
  exact lv_goto C.1 C.2.1 hd ht (kk p e s m args below meth c H locs la C hP hL hl)
theorem xa_ifnonnull {a : Nat} {off : Int} {tgt : Nat} (hd : decode μ.2.1 pc = .ok (.ifnonnull off, 3)) (ht : (pc : Int) + off = (tgt : Int)) (kk : xa_X l D H0 μ R Z k n h sz tgt ls st) : xa_X l D H0 μ R Z k n h sz pc ls (.ref a :: st) := by
  intro p e s m args below meth c H locs la C hP hL hl
  exact lv_ifnonnull C.1 C.2.1 hd ht (kk p e s m args below meth c H locs la C hP hL hl)
theorem xa_ifnull {a : Nat} {off : Int} (hd : decode μ.2.1 pc = .ok (.ifnull off, 3)) (kk : xa_X l D H0 μ R Z k n h sz (pc + 3) ls st) : xa_X l D H0 μ R Z k n h sz pc ls (.ref a :: st) := by
  intro p e s m args below meth c H locs la C hP hL hl
  exact lv_ifnull C.1 C.2.1 hd (kk p e s m args below meth c H locs la C hP hL hl)
theorem xa_ifnullN {off : Int} {tgt : Nat} (hd : decode μ.2.1 pc = .ok (.ifnull off, 3)) (ht : (pc : Int) + off = (tgt : Int)) (kk : xa_X l D H0 μ R Z k n h sz tgt ls st) : xa_X l D H0 μ R Z k n h sz pc ls (.null :: st) := by
  intro p e s m args below meth c H locs la C hP hL hl
  exact lv_ifnullN C.1 C.2.1 hd ht (kk p e s m args below meth c H locs la C hP hL hl)
theorem xa_ifnonnullN {off : Int} (hd : decode μ.2.1 pc = .ok (.ifnonnull off, 3)) (kk : xa_X l D H0 μ R Z k n h sz (pc + 3) ls st) : xa_X l D H0 μ R Z k n h sz pc ls (.null :: st) := by
  intro p e s m args below meth c H locs la C hP hL hl
  exact lv_ifnonnullN C.1 C.2.1 hd (kk p e s m args below meth c H locs la C hP hL hl)
theorem xa_ifnullQ {r : Option Nat} {off : Int} {tgt : Nat} (hd : decode μ.2.1 pc = .ok (.ifnull off, 3)) (ht : (pc : Int) + off = (tgt : Int)) (kt : r = none → xa_X l D H0 μ R Z k n h sz tgt ls st) (kf : ∀ a, r = some a → xa_X l D H0 μ R Z k n h sz (pc + 3) ls st) : xa_X l D H0 μ R Z k n h sz pc ls (va_rf r :: st) := by
  cases r with
  | none => exact xa_ifnullN hd ht (kt rfl)
  | some a => exact xa_ifnull hd (kf a rfl)
theorem xa_ifnonnullQ {r : Option Nat} {off : Int} {tgt : Nat} (hd : decode μ.2.1 pc = .ok (.ifnonnull off, 3)) (ht : (pc : Int) + off = (tgt : Int)) (kt : ∀ a, r = some a → xa_X l D H0 μ R Z k n h sz tgt ls st) (kf : r = none → xa_X l D H0 μ R Z k n h sz (pc + 3) ls st) : xa_X l D H0 μ R Z k n h sz pc ls (va_rf r :: st) := by
  cases r with
  | none => exact xa_ifnonnullN hd (kf rfl)
  | some a => exact xa_ifnonnull hd ht (kt a rfl)
theorem xa_tableOut {dflt lo hi : Int} {offs : Array Int} {len : Nat} {x : Int32} {tgt : Nat} (hd : decode μ.2.1 pc = .ok (.tableswitch dflt lo hi offs, len)) (hx : x.toInt < lo ∨ hi < x.toInt) (ht : (pc : Int) + dflt = (tgt : Int)) (kk : xa_X l D H0 μ R Z k n h sz tgt ls st) : xa_X l D H0 μ R Z k n h sz pc ls (.int x :: st) := by
  intro p e s m args below meth c H locs la C hP hL hl
  exact lv_tableOut C.1 C.2.1 hd hx ht (kk p e s m args below meth c H locs la C hP hL hl)
theorem xa_tableIn {dflt lo hi : Int} {offs : Array Int} {len : Nat} {x : Int32} {off : Int} {tgt : Nat} (hd : decode μ.2.1 pc = .ok (.tableswitch dflt lo hi offs, len)) (h1 : ¬ x.toInt < lo) (h2 : ¬ hi < x.toInt) (ho : offs[(x.toInt - lo).toNat]? = some off) (ht : (pc : Int) + off = (tgt : Int)) (kk : xa_X l D H0 μ R Z k n h sz tgt ls st) : xa_X l D H0 μ R Z k n h sz pc ls (.int x :: st) := by
  intro p e s m args below meth c H locs la C hP hL hl
  exact lv_tableIn C.1 C.2.1 hd h1 h2 ho ht (kk p e s m args below meth c H locs la C hP hL hl)
theorem xa_ldc {q : Nat} {v : Int32} (hw : Cond.constant μ.1.cls q v ∈ xa_ws) (hd : decode μ.2.1 pc = .ok (.ldc q, 2)) (kk : xa_X l D H0 μ R Z k n h sz (pc + 2) ls (.int v :: st)) : xa_X l D H0 μ R Z k n h sz pc ls st := by
  intro p e s m args below meth c H locs la C hP hL hl
  exact lv_ldc C.1 C.2.1 C.2.2.2.1 (C.2.2.2.2.1 _ hw) hd (kk p e s m args below meth c H locs la C hP hL hl)
theorem xa_ldc2 {q : Nat} {v : Int64} (hw : Cond.constantLong μ.1.cls q v ∈ xa_ws) (hd : decode μ.2.1 pc = .ok (.ldc2_w q, 3)) (kk : xa_X l D H0 μ R Z k n h sz (pc + 3) ls (.long v :: st)) : xa_X l D H0 μ R Z k n h sz pc ls st := by
  intro p e s m args below meth c H locs la C hP hL hl
  exact lv_ldc2 C.1 C.2.1 C.2.2.2.1 (C.2.2.2.2.1 _ hw) hd (kk p e s m args below meth c H locs la C hP hL hl)
theorem xa_iaddN {a b : Nat} (hd : decode μ.2.1 pc = .ok (.iadd, 1))  (kk : xa_X l D H0 μ R Z k n h sz (pc + 1) ls (.int (nI (a + b)) :: st)) : xa_X l D H0 μ R Z k n h sz pc ls (.int (nI b) :: .int (nI a) :: st) := xa_iadd hd (by rw [nI_add]; exact kk)
theorem xa_imulN {a b : Nat} (hd : decode μ.2.1 pc = .ok (.imul, 1))  (kk : xa_X l D H0 μ R Z k n h sz (pc + 1) ls (.int (nI (a * b)) :: st)) : xa_X l D H0 μ R Z k n h sz pc ls (.int (nI b) :: .int (nI a) :: st) := xa_imul hd (by rw [pk_mul]; exact kk)
theorem xa_isubN {a b : Nat} (hd : decode μ.2.1 pc = .ok (.isub, 1)) (hle : b ≤ a) (kk : xa_X l D H0 μ R Z k n h sz (pc + 1) ls (.int (nI (a - b)) :: st)) : xa_X l D H0 μ R Z k n h sz pc ls (.int (nI b) :: .int (nI a) :: st) := xa_isub hd (by rw [pk_sub hle]; exact kk)
theorem xa_idivN {a b : Nat} (hd : decode μ.2.1 pc = .ok (.idiv, 1)) (ha : a < 2 ^ 31) (h0 : 0 < b) (hb : b < 2 ^ 31) (kk : xa_X l D H0 μ R Z k n h sz (pc + 1) ls (.int (nI (a / b)) :: st)) : xa_X l D H0 μ R Z k n h sz pc ls (.int (nI b) :: .int (nI a) :: st) := xa_idiv hd (nI_ne0 h0 hb) (by rw [pk_div ha h0 hb]; exact kk)
theorem xa_iremN {a b : Nat} (hd : decode μ.2.1 pc = .ok (.irem, 1)) (ha : a < 2 ^ 31) (h0 : 0 < b) (hb : b < 2 ^ 31) (kk : xa_X l D H0 μ R Z k n h sz (pc + 1) ls (.int (nI (a % b)) :: st)) : xa_X l D H0 μ R Z k n h sz pc ls (.int (nI b) :: .int (nI a) :: st) := xa_irem hd (nI_ne0 h0 hb) (by rw [pk_rem ha h0 hb]; exact kk)
theorem xa_iincN {q a : Nat} (hd : decode μ.2.1 pc = .ok (.iinc q 1, 3)) (hx : xa_lk ls q = some (.int (nI a))) (hn : Nat.blt q μ.2.2.1 = true) (hok : xa_okb q ls = true) (kk : xa_X l D H0 μ R Z k n h sz (pc + 3) (xa_st q (.int (nI (a + 1))) ls) st) : xa_X l D H0 μ R Z k n h sz pc ls st := xa_iinc hd hx (show nI a + Int32.ofInt 1 = nI (a + 1) from nI_add a 1) hn hok kk
theorem xa_icmp_eqN {a b : Nat} {off : Int} {tgt : Nat} (hd : decode μ.2.1 pc = .ok (.if_icmp .eq off, 3)) (ht : (pc : Int) + off = (tgt : Int)) (ha : a < 2 ^ 31) (hb : b < 2 ^ 31) (kt : a = b → xa_X l D H0 μ R Z k n h sz tgt ls st) (kf : a ≠ b → xa_X l D H0 μ R Z k n h sz (pc + 3) ls st) : xa_X l D H0 μ R Z k n h sz pc ls (.int (nI b) :: .int (nI a) :: st) := xa_icmp_eq hd ht (fun q => kt ((nI_eq ha hb).mp q)) (fun q => kf (fun z => q ((nI_eq ha hb).mpr z)))
theorem xa_icmp_neN {a b : Nat} {off : Int} {tgt : Nat} (hd : decode μ.2.1 pc = .ok (.if_icmp .ne off, 3)) (ht : (pc : Int) + off = (tgt : Int)) (ha : a < 2 ^ 31) (hb : b < 2 ^ 31) (kt : a ≠ b → xa_X l D H0 μ R Z k n h sz tgt ls st) (kf : a = b → xa_X l D H0 μ R Z k n h sz (pc + 3) ls st) : xa_X l D H0 μ R Z k n h sz pc ls (.int (nI b) :: .int (nI a) :: st) := xa_icmp_ne hd ht (fun q => kt (fun z => q ((nI_eq ha hb).mpr z))) (fun q => kf ((nI_eq ha hb).mp q))
theorem xa_icmp_ltN {a b : Nat} {off : Int} {tgt : Nat} (hd : decode μ.2.1 pc = .ok (.if_icmp .lt off, 3)) (ht : (pc : Int) + off = (tgt : Int)) (ha : a < 2 ^ 31) (hb : b < 2 ^ 31) (kt : a < b → xa_X l D H0 μ R Z k n h sz tgt ls st) (kf : b ≤ a → xa_X l D H0 μ R Z k n h sz (pc + 3) ls st) : xa_X l D H0 μ R Z k n h sz pc ls (.int (nI b) :: .int (nI a) :: st) := xa_icmp_lt hd ht (fun q => kt ((nI_ltI ha hb).mp q)) (fun q => kf (Nat.le_of_not_lt fun z => q ((nI_ltI ha hb).mpr z)))
theorem xa_icmp_geN {a b : Nat} {off : Int} {tgt : Nat} (hd : decode μ.2.1 pc = .ok (.if_icmp .ge off, 3)) (ht : (pc : Int) + off = (tgt : Int)) (ha : a < 2 ^ 31) (hb : b < 2 ^ 31) (kt : b ≤ a → xa_X l D H0 μ R Z k n h sz tgt ls st) (kf : a < b → xa_X l D H0 μ R Z k n h sz (pc + 3) ls st) : xa_X l D H0 μ R Z k n h sz pc ls (.int (nI b) :: .int (nI a) :: st) := xa_icmp_ge hd ht (fun q => kt ((nI_leI hb ha).mp q)) (fun q => kf (Nat.lt_of_not_le fun z => q ((nI_leI hb ha).mpr z)))
theorem xa_icmp_gtN {a b : Nat} {off : Int} {tgt : Nat} (hd : decode μ.2.1 pc = .ok (.if_icmp .gt off, 3)) (ht : (pc : Int) + off = (tgt : Int)) (ha : a < 2 ^ 31) (hb : b < 2 ^ 31) (kt : b < a → xa_X l D H0 μ R Z k n h sz tgt ls st) (kf : a ≤ b → xa_X l D H0 μ R Z k n h sz (pc + 3) ls st) : xa_X l D H0 μ R Z k n h sz pc ls (.int (nI b) :: .int (nI a) :: st) := xa_icmp_gt hd ht (fun q => kt ((nI_ltI hb ha).mp q)) (fun q => kf (Nat.le_of_not_lt fun z => q ((nI_ltI hb ha).mpr z)))
theorem xa_icmp_leN {a b : Nat} {off : Int} {tgt : Nat} (hd : decode μ.2.1 pc = .ok (.if_icmp .le off, 3)) (ht : (pc : Int) + off = (tgt : Int)) (ha : a < 2 ^ 31) (hb : b < 2 ^ 31) (kt : a ≤ b → xa_X l D H0 μ R Z k n h sz tgt ls st) (kf : b < a → xa_X l D H0 μ R Z k n h sz (pc + 3) ls st) : xa_X l D H0 μ R Z k n h sz pc ls (.int (nI b) :: .int (nI a) :: st) := xa_icmp_le hd ht (fun q => kt ((nI_leI ha hb).mp q)) (fun q => kf (Nat.lt_of_not_le fun z => q ((nI_leI ha hb).mpr z)))
end XA
