/-! Fields, arrays and new cells over xa_X. The array kinds' numbers: D.1 100 int, 101 long, 102 boolean, 103 Position, 104 byte. -/
def xa_Kd (ci : Nat) (q : vw_C) : Prop := xa_cl[ci]? = some q ∧ (∀ w ∈ u_ws q.1 q.2.1 q.2.2, w ∈ xa_ws) ∧ (∃ ty0 : Nat → FieldType, ∀ k, k < q.2.2 → parseFieldDescriptor (q.2.1 k).2.2.1 = some (ty0 k)) ∧ ∀ a, a < q.2.2 → ∀ b, b < q.2.2 → a ≠ b → (q.2.1 a).2.1 ≠ (q.2.1 b).2.1
def xa_FL (own : String) (idx ci kf : Nat) (fin : Bool) (ty : FieldType) : Prop := ∃ q : vw_C, xa_Kd ci q ∧ kf < q.2.2 ∧ Cond.fieldLink own idx (q.2.1 kf).1 (q.2.1 kf).2.1 (q.2.1 kf).2.2.1 ∈ xa_ws ∧ (q.2.1 kf).2.2.2 = fin ∧ parseFieldDescriptor (q.2.1 kf).2.2.1 = some ty
theorem xa_locs {H0 : Heap} {locs : List Loc} {a i : Nat} (hL : ∀ q ∈ locs, H0.size ≤ q.base) (ha : H0.size ≤ a) : ∀ q ∈ locs ++ [(⟨a, i⟩ : Loc)], H0.size ≤ q.base := by
  intro q hq
  rcases List.mem_append.mp hq with hq | hq
  · exact hL q hq
  · rw [List.mem_singleton.mp hq]
    exact ha
theorem xa_up_i (cA : ClassId) (N j : Nat) (f : Nat → Int32) (x : Int32) : (vp_cell cA (N, .inl f)).setSlot j (.int x) = vp_cell cA (N, .inl (upd f j x)) := by
  rw [vp_cell_i, vp_cell_i, arrV_store]
  congr 1
  funext q
  by_cases hq : q = j
  · subst hq
    simp [updV, upd]
  · simp [updV, upd, hq]
theorem xa_up_l (cA : ClassId) (N j : Nat) (f : Nat → Int64) (x : Int64) : (vp_cell cA (N, .inr (.inl f))).setSlot j (.long x) = vp_cell cA (N, .inr (.inl (vp_updL f j x))) := by
  rw [vp_cell_l, vp_cell_l, arrV_store]
  congr 1
  funext q
  by_cases hq : q = j
  · subst hq
    simp [updV, vp_updL]
  · simp [updV, vp_updL, hq]
theorem xa_up_q (cA : ClassId) (N j : Nat) (f : Nat → Option Nat) (x : Option Nat) : (vp_cell cA (N, .inr (.inr (.inr (.inr f))))).setSlot j (va_rf x) = vp_cell cA (N, .inr (.inr (.inr (.inr (va_up f j x))))) := by
  rw [vp_cell_q, vp_cell_q, arrV_store]
  congr 1
  funext q
  by_cases hq : q = j
  · subst hq
    simp [updV, va_up]
  · simp [updV, va_up, hq]
section XB
variable {l : Launch} {D : va_G} {H0 : Heap} {μ : xa_Mu} {R : Room} {Z : xa_Z} {k n : Nat} {h : xa_H} {sz pc : Nat} {ls : List (Nat × Value)} {st : List Value}
theorem xa_getf {idx ci kf : Nat} {fin : Bool} {ty : FieldType} {a : Nat} {fs : List Value} {v : Value} (hf : xa_FL μ.1.cls idx ci kf fin ty) (hd : decode μ.2.1 pc = .ok (.getfield idx, 3)) (ha : h a = some (.inr (ci, fs))) (hv : fs[kf]? = some v) (kk : xa_X l D H0 μ R Z k n h sz (pc + 3) ls (v :: st)) : xa_X l D H0 μ R Z k n h sz pc ls (.ref a :: st) := by
  intro p e s m args below meth c H locs la C hP hL hl
  obtain ⟨⟨Cn, T, N⟩, ⟨hc, hin, -, -⟩, hk, hlink, -, -⟩ := hf
  exact va_get C.1 C.2.1 (Ts := xa_ws) C.2.2.2.2.1 hin C.2.2.2.1 C.2.2.2.2.2.1 (hP.one ha) 0 rfl hc kf hk (C.2.2.2.2.1 _ hlink) (fun x h9 => h9) hv hd (kk p e s m args below meth c H locs la C hP hL hl)
theorem xa_putf {idx ci kf : Nat} {ty : FieldType} {a : Nat} {fs : List Value} {v : Value} (hf : xa_FL μ.1.cls idx ci kf false ty) (hd : decode μ.2.1 pc = .ok (.putfield idx, 3)) (ha : h a = some (.inr (ci, fs))) (hlen : kf < fs.length) (hn : narrow ty v = v) (hfit : fits ty v = true) (kk : xa_X l D H0 μ R Z k n (xa_u h a (.inr (ci, fs.set kf v))) sz (pc + 3) ls st) : xa_X l D H0 μ R Z k n h sz pc ls (v :: .ref a :: st) := by
  intro p e s m args below meth c H locs la C hP hL hl
  obtain ⟨⟨Cn, T, N⟩, ⟨hc, hin, ⟨ty0, hty0⟩, hnm⟩, hk, hlink, hfin, hty⟩ := hf
  have hts := C.2.2.2.2.1
  have hK := C.2.2.2.2.2.1
  have hap := va_apart (own := μ.1.cls) (D := D) (cl := xa_cl) (tys := xa_tys D) hts hin ty0 hty0 hnm hK hc
  obtain ⟨r, h1, cell, q1, q2, q3, q4⟩ := (hP.2.2.2 a _ ha).2
  have hr : r = (Cn, T, N) := Option.some.inj (h1.symm.trans hc)
  subst hr
  obtain ⟨hS, hfc, kC, hkC, hkind⟩ := hK.1 ci _ hc
  obtain ⟨cf, kf', fi, f, hi, hsl⟩ := hS kf hk
  have hlay := hts _ (hin _ (u_in_lay hk))
  unfold u_lay at hlay
  rw [if_neg (by rw [hfin]; decide)] at hlay
  have hst := (u_facts hfc hkC (u_lays hts hin hk) hi).1
  have h6 := u_store hfc hkC hkind hlay hi hty hn hfit
  refine W.putK C.1 C.2.1 (f := f) ⟨C.2.2.2.1, hts _ hlink, ⟨_, _, _, hi⟩, hst⟩ (by rw [q2]; exact h6) q1 q3 (by rw [hsl]; exact k2_hasslot (q4 kf hk)) rfl rfl hd fun H' e1 e2 e3 => ?_
  rw [hsl] at e1 ⊢
  exact kk p e s m args below meth c H' _ la C (hP.set ha ⟨_, hc, t_OB.to (V := updV (vp_V fs) kf v) ⟨_, e1, q2, q3, t_set q4 hap hk v⟩ (fun j _ => vp_updV_set hlen v j)⟩ e2 e3) (xa_locs hL (hP.2.2.2 a _ ha).1) hl
theorem xa_putF {idx ci kf : Nat} {ty : FieldType} {a : Nat} {fs : List Value} {v : Value} (hf : xa_FL μ.1.cls idx ci kf true ty) (hi0 : μ.1.name = "<init>") (hdecl : ∀ q, xa_cl[ci]? = some q → (q.2.1 kf).1 = μ.1.cls) (hd : decode μ.2.1 pc = .ok (.putfield idx, 3)) (ha : h a = some (.inr (ci, fs))) (hlen : kf < fs.length) (hn : narrow ty v = v) (hfit : fits ty v = true) (kk : xa_X l D H0 μ R Z k n (xa_u h a (.inr (ci, fs.set kf v))) sz (pc + 3) ls st) : xa_X l D H0 μ R Z k n h sz pc ls (v :: .ref a :: st) := by
  intro p e s m args below meth c H locs la C hP hL hl
  obtain ⟨⟨Cn, T, N⟩, ⟨hc, hin, ⟨ty0, hty0⟩, hnm⟩, hk, hlink, hfin, hty⟩ := hf
  have hts := C.2.2.2.2.1
  have hK := C.2.2.2.2.2.1
  have hap := va_apart (own := μ.1.cls) (D := D) (cl := xa_cl) (tys := xa_tys D) hts hin ty0 hty0 hnm hK hc
  obtain ⟨r, h1, cell, q1, q2, q3, q4⟩ := (hP.2.2.2 a _ ha).2
  have hr : r = (Cn, T, N) := Option.some.inj (h1.symm.trans hc)
  subst hr
  obtain ⟨hS, hfc, kC, hkC, hkind⟩ := hK.1 ci _ hc
  obtain ⟨cf, kf', fi, f, hi, hsl⟩ := hS kf hk
  have hlay := hts _ (hin _ (u_in_lay hk))
  unfold u_lay at hlay
  rw [if_pos hfin] at hlay
  have hst := (u_facts hfc hkC (u_lays hts hin hk) hi).1
  have hcf : m.cls = cf := by
    obtain ⟨_, _, c', _, _, _, -, -, hf', -, -, -, hown2, -⟩ := Cond.laysFinal_spec hlay
    have e1 : c' = cf := by have := hi.symm.trans hf'; simp at this; exact this.1.symm
    rw [hdecl _ hc] at hown2
    rw [← e1]; exact Option.some.inj (C.2.2.2.1.symm.trans hown2)
  have h6 := u_fits hfc hkC hkind (Or.inr hlay) hi hty hn hfit
  refine W.putFinK C.1 C.2.1 C.2.2.2.1 (hts _ hlink) hi hst hcf (C.2.2.2.2.2.2.2.2.1.trans hi0) (by rw [q2]; exact h6) q1 q3 (by rw [hsl]; exact k2_hasslot (q4 kf hk)) rfl rfl hd fun H' e1 e2 e3 => ?_
  rw [hsl] at e1 ⊢
  exact kk p e s m args below meth c H' _ la C (hP.set ha ⟨_, hc, t_OB.to (V := updV (vp_V fs) kf v) ⟨_, e1, q2, q3, t_set q4 hap hk v⟩ (fun j _ => vp_updV_set hlen v j)⟩ e2 e3) (xa_locs hL (hP.2.2.2 a _ ha).1) hl
theorem xa_iald {a N j : Nat} {f : Nat → Int32} {i : Int32} (hd : decode μ.2.1 pc = .ok (.iaload, 1)) (ha : h a = some (.inl (D.1 100, N, .inl f))) (hj : j < N) (hi : i = nI j) (hN : N < 2 ^ 31) (kk : xa_X l D H0 μ R Z k n h sz (pc + 1) ls (.int (f j) :: st)) : xa_X l D H0 μ R Z k n h sz pc ls (.int i :: .ref a :: st) := by
  intro p e s m args below meth c H locs la C hP hL hl
  subst hi
  refine va_iald C.1 C.2.1 C.2.2.2.2.2.1 (hP.one ha) 0 0 rfl rfl (vp_in_nI hj hN) hd ?_
  rw [nI_clamp (by omega)]
  exact (kk p e s m args below meth c H locs la C hP hL hl)
theorem xa_lald {a N j : Nat} {f : Nat → Int64} {i : Int32} (hd : decode μ.2.1 pc = .ok (.laload, 1)) (ha : h a = some (.inl (D.1 101, N, .inr (.inl f)))) (hj : j < N) (hi : i = nI j) (hN : N < 2 ^ 31) (kk : xa_X l D H0 μ R Z k n h sz (pc + 1) ls (.long (f j) :: st)) : xa_X l D H0 μ R Z k n h sz pc ls (.int i :: .ref a :: st) := by
  intro p e s m args below meth c H locs la C hP hL hl
  subst hi
  refine va_lald C.1 C.2.1 C.2.2.2.2.2.1 (hP.one ha) 0 1 rfl rfl (vp_in_nI hj hN) hd ?_
  rw [nI_clamp (by omega)]
  exact (kk p e s m args below meth c H locs la C hP hL hl)
theorem xa_zald {a N j : Nat} {f : Nat → Int32} {i : Int32} (hd : decode μ.2.1 pc = .ok (.baload, 1)) (ha : h a = some (.inl (D.1 102, N, .inl f))) (hj : j < N) (hi : i = nI j) (hN : N < 2 ^ 31) (kk : xa_X l D H0 μ R Z k n h sz (pc + 1) ls (.int (f j) :: st)) : xa_X l D H0 μ R Z k n h sz pc ls (.int i :: .ref a :: st) := by
  intro p e s m args below meth c H locs la C hP hL hl
  subst hi
  refine va_zald C.1 C.2.1 C.2.2.2.2.2.1 (hP.one ha) 0 2 rfl rfl (vp_in_nI hj hN) hd ?_
  rw [nI_clamp (by omega)]
  exact (kk p e s m args below meth c H locs la C hP hL hl)
theorem xa_qald {a N j : Nat} {f : Nat → Option Nat} {i : Int32} (hd : decode μ.2.1 pc = .ok (.aaload, 1)) (ha : h a = some (.inl (D.1 103, N, .inr (.inr (.inr (.inr f)))))) (hj : j < N) (hi : i = nI j) (hN : N < 2 ^ 31) (kk : xa_X l D H0 μ R Z k n h sz (pc + 1) ls (va_rf (f j) :: st)) : xa_X l D H0 μ R Z k n h sz pc ls (.int i :: .ref a :: st) := by
  intro p e s m args below meth c H locs la C hP hL hl
  subst hi
  refine va_aldq C.1 C.2.1 C.2.2.2.2.2.1 (hP.one ha) 0 3 rfl rfl (vp_in_nI hj hN) hd ?_
  rw [nI_clamp (by omega)]
  exact (kk p e s m args below meth c H locs la C hP hL hl)
theorem xa_bald {a N j : Nat} {f : Nat → Int32} {i : Int32} (hd : decode μ.2.1 pc = .ok (.baload, 1)) (ha : h a = some (.inl (D.1 104, N, .inl f))) (hj : j < N) (hi : i = nI j) (hN : N < 2 ^ 31) (kk : xa_X l D H0 μ R Z k n h sz (pc + 1) ls (.int (f j) :: st)) : xa_X l D H0 μ R Z k n h sz pc ls (.int i :: .ref a :: st) := by
  intro p e s m args below meth c H locs la C hP hL hl
  subst hi
  refine va_bald C.1 C.2.1 C.2.2.2.2.2.1 (hP.one ha) 0 4 rfl rfl (vp_in_nI hj hN) hd ?_
  rw [nI_clamp (by omega)]
  exact (kk p e s m args below meth c H locs la C hP hL hl)
theorem xa_iast {a N j : Nat} {f : Nat → Int32} {i : Int32} {x : Int32} (hd : decode μ.2.1 pc = .ok (.iastore, 1)) (ha : h a = some (.inl (D.1 100, N, .inl f))) (hj : j < N) (hi : i = nI j) (hN : N < 2 ^ 31) (kk : xa_X l D H0 μ R Z k n (xa_u h a (.inl (D.1 100, N, .inl (upd f j x)))) sz (pc + 1) ls st) : xa_X l D H0 μ R Z k n h sz pc ls (.int x :: .int i :: .ref a :: st) := by
  intro p e s m args below meth c H locs la C hP hL hl
  subst hi
  refine W.iast C.1 C.2.1 (hP.2.2.2 a _ ha).2 ((C.2.2.2.2.2.1.2 0 _ rfl).1 N (fun j => .int (f j))) (fun q => by cases q) (by show ¬ (nI j < 0 ∨ (arrV _ _ _).slots.size ≤ _); rw [arrV_size]; exact vp_in_nI hj hN) rfl rfl hd fun H1 e1 z oq => ?_
  rw [nI_clamp (show j < 2 ^ 31 by omega)] at e1 ⊢
  refine kk p e s m args below meth c H1 _ la C (hP.set ha ?_ z oq) (xa_locs hL (hP.2.2.2 a _ ha).1) hl
  show H1[a]? = some (vp_cell _ _)
  rw [e1]
  exact congrArg some (xa_up_i _ _ _ _ _)
theorem xa_last {a N j : Nat} {f : Nat → Int64} {i : Int32} {x : Int64} (hd : decode μ.2.1 pc = .ok (.lastore, 1)) (ha : h a = some (.inl (D.1 101, N, .inr (.inl f)))) (hj : j < N) (hi : i = nI j) (hN : N < 2 ^ 31) (kk : xa_X l D H0 μ R Z k n (xa_u h a (.inl (D.1 101, N, .inr (.inl (vp_updL f j x))))) sz (pc + 1) ls st) : xa_X l D H0 μ R Z k n h sz pc ls (.long x :: .int i :: .ref a :: st) := by
  intro p e s m args below meth c H locs la C hP hL hl
  subst hi
  refine W.last C.1 C.2.1 (hP.2.2.2 a _ ha).2 ((C.2.2.2.2.2.1.2 1 _ rfl).1 N (fun j => .long (f j))) (fun q => by cases q) (by show ¬ (nI j < 0 ∨ (arrV _ _ _).slots.size ≤ _); rw [arrV_size]; exact vp_in_nI hj hN) rfl rfl hd fun H1 e1 z oq => ?_
  rw [nI_clamp (show j < 2 ^ 31 by omega)] at e1 ⊢
  refine kk p e s m args below meth c H1 _ la C (hP.set ha ?_ z oq) (xa_locs hL (hP.2.2.2 a _ ha).1) hl
  show H1[a]? = some (vp_cell _ _)
  rw [e1]
  exact congrArg some (xa_up_l _ _ _ _ _)
theorem xa_zast {a N j : Nat} {f : Nat → Int32} {i : Int32} {x : Int32} (hd : decode μ.2.1 pc = .ok (.bastore, 1)) (ha : h a = some (.inl (D.1 102, N, .inl f))) (hj : j < N) (hi : i = nI j) (hN : N < 2 ^ 31) (kk : xa_X l D H0 μ R Z k n (xa_u h a (.inl (D.1 102, N, .inl (upd f j (vp_nar .boolean x))))) sz (pc + 1) ls st) : xa_X l D H0 μ R Z k n h sz pc ls (.int x :: .int i :: .ref a :: st) := by
  intro p e s m args below meth c H locs la C hP hL hl
  subst hi
  refine W.zast C.1 C.2.1 (hP.2.2.2 a _ ha).2 ((C.2.2.2.2.2.1.2 2 _ rfl).1 N (fun j => .int (f j))) (fun q => by cases q) (by show ¬ (nI j < 0 ∨ (arrV _ _ _).slots.size ≤ _); rw [arrV_size]; exact vp_in_nI hj hN) rfl rfl hd fun H1 e1 z oq => ?_
  rw [nI_clamp (show j < 2 ^ 31 by omega)] at e1 ⊢
  refine kk p e s m args below meth c H1 _ la C (hP.set ha ?_ z oq) (xa_locs hL (hP.2.2.2 a _ ha).1) hl
  show H1[a]? = some (vp_cell _ _)
  rw [e1]
  exact congrArg some (xa_up_i _ _ _ _ _)
theorem xa_bast {a N j : Nat} {f : Nat → Int32} {i : Int32} {x : Int32} (hd : decode μ.2.1 pc = .ok (.bastore, 1)) (ha : h a = some (.inl (D.1 104, N, .inl f))) (hj : j < N) (hi : i = nI j) (hN : N < 2 ^ 31) (kk : xa_X l D H0 μ R Z k n (xa_u h a (.inl (D.1 104, N, .inl (upd f j (vp_nar .byte x))))) sz (pc + 1) ls st) : xa_X l D H0 μ R Z k n h sz pc ls (.int x :: .int i :: .ref a :: st) := by
  intro p e s m args below meth c H locs la C hP hL hl
  subst hi
  refine W.bast C.1 C.2.1 (hP.2.2.2 a _ ha).2 ((C.2.2.2.2.2.1.2 4 _ rfl).1 N (fun j => .int (f j))) (fun q => by cases q) (by show ¬ (nI j < 0 ∨ (arrV _ _ _).slots.size ≤ _); rw [arrV_size]; exact vp_in_nI hj hN) rfl rfl hd fun H1 e1 z oq => ?_
  rw [nI_clamp (show j < 2 ^ 31 by omega)] at e1 ⊢
  refine kk p e s m args below meth c H1 _ la C (hP.set ha ?_ z oq) (xa_locs hL (hP.2.2.2 a _ ha).1) hl
  show H1[a]? = some (vp_cell _ _)
  rw [e1]
  exact congrArg some (xa_up_i _ _ _ _ _)
theorem xa_qastN {a N j : Nat} {f : Nat → Option Nat} {i : Int32} (hd : decode μ.2.1 pc = .ok (.aastore, 1)) (ha : h a = some (.inl (D.1 103, N, .inr (.inr (.inr (.inr f)))))) (hj : j < N) (hi : i = nI j) (hN : N < 2 ^ 31) (kk : xa_X l D H0 μ R Z k n (xa_u h a (.inl (D.1 103, N, .inr (.inr (.inr (.inr (va_up f j none))))))) sz (pc + 1) ls st) : xa_X l D H0 μ R Z k n h sz pc ls (.null :: .int i :: .ref a :: st) := by
  intro p e s m args below meth c H locs la C hP hL hl
  subst hi
  refine va_WaastN (C := xa_pos) C.1 C.2.1 (hP.2.2.2 a _ ha).2 ((C.2.2.2.2.2.1.2 3 _ rfl).1 N (fun j => va_rf (f j))) (fun q => by cases q) (by show ¬ (nI j < 0 ∨ (arrV _ _ _).slots.size ≤ _); rw [arrV_size]; exact vp_in_nI hj hN) rfl rfl hd fun H1 e1 z oq => ?_
  rw [nI_clamp (show j < 2 ^ 31 by omega)] at e1 ⊢
  refine kk p e s m args below meth c H1 _ la C (hP.set ha ?_ z oq) (xa_locs hL (hP.2.2.2 a _ ha).1) hl
  show H1[a]? = some (vp_cell _ _)
  rw [e1]
  exact congrArg some (xa_up_q _ _ _ _ none)
theorem xa_qast {a N j v : Nat} {f : Nat → Option Nat} {vs : List Value} {i : Int32} (hd : decode μ.2.1 pc = .ok (.aastore, 1)) (ha : h a = some (.inl (D.1 103, N, .inr (.inr (.inr (.inr f)))))) (hv : h v = some (.inr (xa_posN, vs))) (hj : j < N) (hi : i = nI j) (hN : N < 2 ^ 31) (kk : xa_X l D H0 μ R Z k n (xa_u h a (.inl (D.1 103, N, .inr (.inr (.inr (.inr (va_up f j (some v)))))))) sz (pc + 1) ls st) : xa_X l D H0 μ R Z k n h sz pc ls (.ref v :: .int i :: .ref a :: st) := by
  intro p e s m args below meth c H locs la C hP hL hl
  subst hi
  obtain ⟨r', hr', cellV, g1, g2, g3, -⟩ := (hP.2.2.2 v _ hv).2
  have hcls := (C.2.2.2.2.2.1.1 xa_posN _ xa_posC).2
  obtain ⟨kA, comp, k1, k2, k3, -⟩ := (C.2.2.2.2.2.1.2 3 _ rfl).2
  have hcomp : comp = D.1 xa_posN := Option.some.inj (k3.symm.trans hcls.1)
  subst hcomp
  have hcls2 := hcls
  obtain ⟨-, kC, hkC, -⟩ := hcls2
  refine W.aast C.1 C.2.1 (hP.2.2.2 a _ ha).2 (fun q h9 => by cases h9) (fun h9 => by cases h9) k1 k2 rfl hkC ⟨nI_pos (by omega), by show _ < (arrV _ _ _).slots.size; rw [arrV_size, nI_clamp (by omega)]; exact hj⟩ g1 (fun q h9 => by rw [g3] at h9; cases h9) (by rw [g2]; exact hkC) (by rw [g2]; exact va_assign hcls) rfl rfl hd fun H1 e1 z oq => ?_
  rw [nI_clamp (show j < 2 ^ 31 by omega)] at e1 ⊢
  refine kk p e s m args below meth c H1 _ la C (hP.set ha ?_ z oq) (xa_locs hL (hP.2.2.2 a _ ha).1) hl
  show H1[a]? = some (vp_cell _ _)
  rw [e1]
  exact congrArg some (xa_up_q _ _ _ _ (some v))
theorem xa_alen {a t0 : Nat} {x : vp_A} {cA : ClassId} {ty : FieldType} {v : Int32} (t0' : (xa_tys D)[t0]? = some (cA, ty)) (hd : decode μ.2.1 pc = .ok (.arraylength, 1)) (ha : h a = some (.inl (cA, x))) (hv : nI x.1 = v) (kk : xa_X l D H0 μ R Z k n h sz (pc + 1) ls (.int v :: st)) : xa_X l D H0 μ R Z k n h sz pc ls (.ref a :: st) := by
  intro p e s m args below meth c H locs la C hP hL hl
  exact va_alen C.1 C.2.1 C.2.2.2.2.2.1 (hP.one ha) 0 t0 rfl t0' hv hd (kk p e s m args below meth c H locs la C hP hL hl)
def xa_NL (own : String) (idx ci : Nat) (fs : List Value) : Prop := ∃ q : vw_C, xa_Kd ci q ∧ Cond.classLink own idx q.1 ∈ xa_ws ∧ Cond.instantiable q.1 q.2.2 ∈ xa_ws ∧ Cond.initialized q.1 ∈ xa_ws ∧ fs.length = q.2.2 ∧ ∃ ty0 : Nat → FieldType, (∀ k, k < q.2.2 → parseFieldDescriptor (q.2.1 k).2.2.1 = some (ty0 k)) ∧ ∀ j, j < q.2.2 → defaultValue (ty0 j) = vp_V fs j
theorem xa_new {idx ci : Nat} {fs : List Value} (hf : xa_NL μ.1.cls idx ci fs) (hd : decode μ.2.1 pc = .ok (.new idx, 3)) (hk : k + 1 ≤ R.cells) (hs : n + fs.length ≤ R.slots) (kk : xa_X l D H0 μ R Z (k + 1) (n + fs.length) (xa_u h sz (.inr (ci, fs))) (sz + 1) (pc + 3) ls (.ref sz :: st)) : xa_X l D H0 μ R Z k n h sz pc ls st := by
  intro p e s m args below meth c H locs la C hP hL hl
  obtain ⟨⟨Cn, T, N⟩, ⟨hc, hin, -, -⟩, hcl, hinst, hini, hlen, ty0, hty0, hfs⟩ := hf
  have hlen : fs.length = N := hlen
  rw [hlen] at hs kk
  have hts := C.2.2.2.2.1
  have hKn := C.2.2.2.2.2.1.1 ci _ hc
  refine W.newcK C.1 C.2.1 C.2.2.2.1 (hts _ hcl) (hts _ hinst) (hts _ hini) rfl hd hk hs hKn.2.1 hP.1 fun H1 kC hkC e1 z1 o1 => ?_
  exact kk p e s m args below meth c H1 locs la C (hP.push ⟨_, hc, (u_born ty0 hts hin hKn hkC e1 hty0).to hfs⟩ z1 o1) hL hl
theorem xa_newa {at0 : ArrayType} {t0 : Nat} {ty : FieldType} {N : Nat} {i : Int32} {x : vp_A} (hw : Cond.arrayClass ty ∈ xa_ws) (hty : newarray.typeOf at0 = ty) (ht : (xa_tys D)[t0]? = some (D.1 (100 + t0), ty)) (hra : ∀ U : State, ∀ cA : ClassId, va_RA U cA ty → U.vm.findClass ("[" ++ ty.toString) = some cA) (hx : ∀ cA : ClassId, vp_cell cA x = arrV cA N (fun _ => defaultValue ty)) (hd : decode μ.2.1 pc = .ok (.newarray at0, 2)) (hi : i = nI N) (hN : N < 2 ^ 31) (hby : N * componentBytes ty ≤ 536870912) (hk : k + 1 ≤ R.cells) (hs : n + N ≤ R.slots) (kk : xa_X l D H0 μ R Z (k + 1) (n + N) (xa_u h sz (.inl (D.1 (100 + t0), x))) (sz + 1) (pc + 2) ls (.ref sz :: st)) : xa_X l D H0 μ R Z k n h sz pc ls (.int i :: st) := by
  intro p e s m args below meth c H locs la C hP hL hl
  subst hi
  subst hty
  refine va_newaK C.1 C.2.1 (C.2.2.2.2.1 _ hw) rfl hd rfl (nI_pos hN) (nI_clamp hN) hby hk hs hP.1 fun H1 cA e1 z1 o1 _ hNm => ?_
  have hcA : cA = D.1 (100 + t0) := Option.some.inj (hNm.symm.trans (hra s _ (C.2.2.2.2.2.1.2 t0 _ ht).2))
  subst hcA
  refine kk p e s m args below meth c H1 locs la C (hP.push ?_ z1 o1) hL hl
  show H1[sz]? = some (vp_cell _ _)
  rw [hx]
  exact e1
theorem xa_newq {idx : Nat} {N : Nat} {i : Int32} (hcl : Cond.classLink μ.1.cls idx xa_pos ∈ xa_ws) (hov : Cond.arrayOver (.object xa_pos) ∈ xa_ws) (hd : decode μ.2.1 pc = .ok (.anewarray idx, 3)) (hi : i = nI N) (hN : N < 2 ^ 31) (hby : N * 4 ≤ 536870912) (hk : k + 1 ≤ R.cells) (hs : n + N ≤ R.slots) (kk : xa_X l D H0 μ R Z (k + 1) (n + N) (xa_u h sz (.inl (D.1 103, N, .inr (.inr (.inr (.inr (fun _ => none))))))) (sz + 1) (pc + 3) ls (.ref sz :: st)) : xa_X l D H0 μ R Z k n h sz pc ls (.int i :: st) := by
  intro p e s m args below meth c H locs la C hP hL hl
  subst hi
  have hts := C.2.2.2.2.1
  refine W.anew C.1 C.2.1 C.2.2.2.1 (hts _ hcl) (hts _ hov) rfl hd rfl (nI_pos hN) (by rw [nI_clamp hN]; exact hby) hk (by rw [nI_clamp hN]; exact hs) fun cA kA comp f1 f2 f3 f4 => ?_
  rw [nI_clamp hN, hP.1]
  obtain ⟨kA', comp', k1, k2, k3, k4⟩ := (C.2.2.2.2.2.1.2 3 _ rfl).2
  have hcA : cA = D.1 103 := Option.some.inj (f1.symm.trans k4)
  subst hcA
  refine kk p e s m args below meth c _ locs la C (hP.push ?_ (by rw [Array.size_push, hP.1]) (fun q hq => by rw [Array.getElem?_push, if_neg (by rw [hP.1]; omega)])) hL hl
  show (H.push _)[sz]? = some (vp_cell _ _)
  rw [vp_cell_q, ← hP.1, Array.getElem?_push_size, ← arrV_new]
  rfl
end XB
