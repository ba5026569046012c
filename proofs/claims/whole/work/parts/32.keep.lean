/-! History: cloning a board, Position(), keep, takeOutOfBucket, hasEnded, pointOfMove. -/
theorem w_clone : Cond.methodLink "StoneBoard$History" 35 ⟨"[J", "clone", "()Ljava/lang/Object;"⟩ ∈ xa_ws ∧ Cond.sameMethod "[J" "java/lang/Object" "clone" "()Ljava/lang/Object;" ∈ xa_ws ∧ Cond.native ⟨"java/lang/Object", "clone", "()Ljava/lang/Object;"⟩ ∈ xa_ws ∧ Cond.instanceMethod ⟨"java/lang/Object", "clone", "()Ljava/lang/Object;"⟩ ∈ xa_ws ∧ Cond.selects "[J" ⟨"[J", "clone", "()Ljava/lang/Object;"⟩ ⟨"java/lang/Object", "clone", "()Ljava/lang/Object;"⟩ ∈ xa_ws ∧ Cond.castable "[J" "java/lang/Cloneable" ∈ xa_ws := ⟨xa_m3 41 rfl rfl, xa_m3 42 rfl rfl, xa_m3 43 rfl rfl, xa_m3 44 rfl rfl, xa_m3 45 rfl rfl, xa_m3 46 rfl rfl⟩
theorem w_castL : Cond.classLink "StoneBoard$History" 36 "[J" ∈ xa_ws := xa_m3 47 rfl rfl
section XCL
variable {l : Launch} {D : va_G} {H0 : Heap} {μ : xa_Mu} {R : Room} {Z : xa_Z} {k n : Nat} {h : xa_H} {sz pc : Nat} {ls : List (Nat × Value)} {st : List Value}
theorem xa_nmL {s : State} (hK : va_K D xa_cl (xa_tys D) s) : s.vm.findClass "[J" = some (D.1 101) := (hK.2 1 _ rfl).2
theorem xa_castL {idx a : Nat} {x : vp_A} (hl1 : Cond.classLink μ.1.cls idx "[J" ∈ xa_ws) (hd : decode μ.2.1 pc = .ok (.checkcast idx, 3)) (ha : h a = some (.inl (D.1 101, x))) (kk : xa_X l D H0 μ R Z k n h sz (pc + 3) ls (.ref a :: st)) : xa_X l D H0 μ R Z k n h sz pc ls (.ref a :: st) := by
  intro p e s m args below meth c H locs la C hP hL hl
  exact va_castA C.1 C.2.1 C.2.2.2.1 (C.2.2.2.2.1 _ hl1) (hP.one ha) 0 rfl (xa_nmL C.2.2.2.2.2.1) hd (kk p e s m args below meth c H locs la C hP hL hl)
theorem xa_clone {idx a L : Nat} {f : Nat → Int64} (hw : Cond.methodLink μ.1.cls idx ⟨"[J", "clone", "()Ljava/lang/Object;"⟩ ∈ xa_ws ∧ Cond.sameMethod "[J" "java/lang/Object" "clone" "()Ljava/lang/Object;" ∈ xa_ws ∧ Cond.native ⟨"java/lang/Object", "clone", "()Ljava/lang/Object;"⟩ ∈ xa_ws ∧ Cond.instanceMethod ⟨"java/lang/Object", "clone", "()Ljava/lang/Object;"⟩ ∈ xa_ws ∧ Cond.selects "[J" ⟨"[J", "clone", "()Ljava/lang/Object;"⟩ ⟨"java/lang/Object", "clone", "()Ljava/lang/Object;"⟩ ∈ xa_ws ∧ Cond.castable "[J" "java/lang/Cloneable" ∈ xa_ws)
    (hd : decode μ.2.1 pc = .ok (.invokevirtual idx, 3)) (ha : h a = some (.inl (D.1 101, L, .inr (.inl f)))) (hfr : 1 ≤ R.frames) (hlo : (st.map fun v => v.category).sum + 14 ≤ R.locals) (hk : k + 1 ≤ R.cells) (hs : n + L ≤ R.slots) (kk : xa_X l D H0 μ R Z (k + 1) (n + L) (xa_u h sz (.inl (D.1 101, L, .inr (.inl f)))) (sz + 1) (pc + 3) ls (.ref sz :: st)) : xa_X l D H0 μ R Z k n h sz pc ls (.ref a :: st) := by
  intro p e s m args below meth c H locs la C hP hL hl T hT X
  obtain ⟨w1, w2, w3, w4, w5, w6⟩ := hw
  have hts := C.2.2.2.2.1
  have hK := C.2.2.2.2.2.1
  have hsz0 : (vp_cell (D.1 101) (L, .inr (.inl f))).slots.size = L := arrV_size _ _ _
  obtain ⟨c0, t0', f1, f2, f3⟩ := Cond.castable_spec (hts _ w6)
  cases (xa_nmL hK).symm.trans f1
  have hcellT : T.heap[a]? = some (vp_cell (D.1 101) (L, .inr (.inl f))) := by rw [hT]; exact (hP.2.2.2 a _ ha).2
  obtain ⟨-, kA, hkA, comp, hkind⟩ := State.isArrayOf_alike X.warmed.alike ((hK.2 1 _ rfl).1 0 (fun _ => .null))
  obtain ⟨-, kS, hkS, compS, hkindS⟩ := (hK.2 1 _ rfl).1 0 (fun _ => .null)
  obtain ⟨vm', X', st2⟩ := X.cloneArray C.1 C.2.2.2.1 (hts _ w1) (hts _ w2) (hts _ w3) (hts _ w4) (hts _ w5) (a := a) (cell := vp_cell (D.1 101) (L, .inr (.inl f))) hcellT (fun k h9 => by cases h9) (fun h9 => by cases h9) (xa_nmL hK) f2 f3
    (fun i v hv => by
      have hk' : T.vm.classes[D.1 101]? = some kA := hkA
      have hkind' : kA.kind = .array comp .long := hkind
      have hv' : fits .long v = true := by
        have hv2 : (arrV (D.1 101) L (fun j => .long (f j))).slots[i]? = some v := hv
        have hlt : i < L := by
          have := (Array.getElem?_eq_some_iff.mp hv2).1
          rw [arrV_size] at this
          exact this
        rw [arrV_read _ _ hlt] at hv2
        cases hv2
        rfl
      show State.fitsSlot _ (D.1 101) _ _ _ = true
      simpa [State.fitsSlot, State.slotType?, hk', hkind'] using hv')
    (g := F0 m pc la (.ref a :: st)) rfl (by rw [C.2.2.1]; exact hl.1) rfl (by rw [C.2.1]; exact hd) hfr (by show 2 * 0 + _ + 14 ≤ _; omega) hk (by rw [hsz0]; exact hs) (hloader := Vm.clonesLoader_of_array hkS hkindS)
  rw [hsz0] at X'
  have hcellE : ({ cls := (vp_cell (D.1 101) (L, .inr (.inl f))).cls, slots := (vp_cell (D.1 101) (L, .inr (.inl f))).slots } : Cell) = vp_cell (D.1 101) (L, .inr (.inl f)) := rfl
  obtain ⟨t, b1, b2⟩ := kk p e s m args below meth c (H.push (vp_cell (D.1 101) (L, .inr (.inl f)))) locs la C (hP.push (show (H.push _)[sz]? = some _ by rw [← hP.1, Array.getElem?_push_size]) (by rw [Array.size_push, hP.1]) (fun q hq => by rw [Array.getElem?_push, if_neg (by rw [hP.1]; omega)])) hL hl
    ((T.setVm vm').pushCell (vp_cell (D.1 101) (L, .inr (.inl f)))) (by rw [← hT]; rfl) X'
  refine ⟨t, st2 t ?_, b2⟩
  rw [hcellE, hT, hP.1]
  exact b1
theorem xa_nar_rf (C : String) (r : Option Nat) : narrow (.object C) (va_rf r) = va_rf r ∧ fits (.object C) (va_rf r) = true := by cases r <;> exact ⟨rfl, rfl⟩
end XCL
section PI
variable {l : Launch} {D : va_G} {H0 : Heap} {h : xa_H} {sz : Nat} {R : Room}
theorem xa_args7 (p B : Nat) (bf ob : Option Nat) (x y z : Int32) : lv_args 0 [.ref p, va_rf bf, va_rf ob, .ref B, .int x, .int y, .int z] = [(0, .ref p), (1, va_rf bf), (2, va_rf ob), (3, .ref B), (4, .int x), (5, .int y), (6, .int z)] := by cases bf <;> cases ob <;> rfl
theorem xa_fit7 (p B : Nat) (bf ob : Option Nat) (x y z : Int32) : Nat.ble (lg_sl [.ref p, va_rf bf, va_rf ob, .ref B, .int x, .int y, .int z]).length 7 = true := by cases bf <;> cases ob <;> rfl
theorem c_Pos_init {p B nb : Nat} {bf ob : Option Nat} {pt x y : Int32} (hp : h p = some (.inr (6, [.null, .null, .null, .int 0, .int 0, .int 0, .int 0]))) (hb : (bf = none ∧ nb = 0) ∨ ∃ (a k : Nat) (v1 v2 v3 v5 v6 v7 : Value), bf = some a ∧ a ≠ p ∧ h a = some (.inr (6, [v1, v2, v3, .int (nI k), v5, v6, v7])) ∧ nb = k + 1) :
    xa_M l D H0 M_Pos_init 1 20 0 0 [.ref p, va_rf bf, va_rf ob, .ref B, .int pt, .int x, .int y] h sz (fun v h' sz' => v = none ∧ h' = xa_u h p (.inr (6, [va_rf bf, va_rf ob, .ref B, .int (nI nb), .int pt, .int x, .int y])) ∧ sz' = sz) := by
  refine xa_enter (by decide) rfl (xa_fit7 _ _ _ _ _ _ _) ?_
  rw [xa_args7]
  refine xa_aload_n d_Pos_init_0 rfl ?_
  refine xa_objInit k_Pos_1 w_oi w_oc d_Pos_init_1 (by decide) (by decide) ?_
  refine xa_aload_n d_Pos_init_4 rfl ?_
  refine xa_aload_nQ d_Pos_init_5 rfl ?_
  refine xa_putF f_Pos_7 rfl (fun q hq => by cases hq; rfl) d_Pos_init_6 hp (Nat.le_of_ble_eq_true rfl) (xa_nar_rf _ _).1 (xa_nar_rf _ _).2 ?_
  refine xa_aload_n d_Pos_init_9 rfl ?_
  refine xa_aload_nQ d_Pos_init_10 rfl ?_
  refine xa_putF f_Pos_13 rfl (fun q hq => by cases hq; rfl) d_Pos_init_11 (xa_u_eq _ _ _) (Nat.le_of_ble_eq_true rfl) (xa_nar_rf _ _).1 (xa_nar_rf _ _).2 ?_
  rw [xa_uu]
  refine xa_aload_n d_Pos_init_14 rfl ?_
  refine xa_aload_n d_Pos_init_15 rfl ?_
  refine xa_putF f_Pos_16 rfl (fun q hq => by cases hq; rfl) d_Pos_init_16 (xa_u_eq _ _ _) (Nat.le_of_ble_eq_true rfl) rfl rfl ?_
  rw [xa_uu]
  have rest : xa_X l D H0 M_Pos_init (xa_rm 1 0 0 20) (xa_Zr D H0 0 0 (fun v h' sz' => v = none ∧ h' = xa_u h p (.inr (6, [va_rf bf, va_rf ob, .ref B, .int (nI nb), .int pt, .int x, .int y])) ∧ sz' = sz)) 0 0 (xa_u h p (.inr (6, [va_rf bf, va_rf ob, .ref B, .int 0, .int 0, .int 0, .int 0]))) sz 34 [(0, .ref p), (1, va_rf bf), (2, va_rf ob), (3, .ref B), (4, .int pt), (5, .int x), (6, .int y)] [.int (nI nb), .ref p] := by
    refine xa_putF f_Pos_20 rfl (fun q hq => by cases hq; rfl) d_Pos_init_34 (xa_u_eq _ _ _) (Nat.le_of_ble_eq_true rfl) rfl rfl ?_
    rw [xa_uu]
    refine xa_aload_n d_Pos_init_37 rfl ?_
    refine xa_iload d_Pos_init_38 rfl ?_
    refine xa_putF f_Pos_24 rfl (fun q hq => by cases hq; rfl) d_Pos_init_40 (xa_u_eq _ _ _) (Nat.le_of_ble_eq_true rfl) rfl rfl ?_
    rw [xa_uu]
    refine xa_aload_n d_Pos_init_43 rfl ?_
    refine xa_iload d_Pos_init_44 rfl ?_
    refine xa_putF f_Pos_27 rfl (fun q hq => by cases hq; rfl) d_Pos_init_46 (xa_u_eq _ _ _) (Nat.le_of_ble_eq_true rfl) rfl rfl ?_
    rw [xa_uu]
    refine xa_aload_n d_Pos_init_49 rfl ?_
    refine xa_iload d_Pos_init_50 rfl ?_
    refine xa_putF f_Pos_30 rfl (fun q hq => by cases hq; rfl) d_Pos_init_52 (xa_u_eq _ _ _) (Nat.le_of_ble_eq_true rfl) rfl rfl ?_
    rw [xa_uu]
    exact xa_return d_Pos_init_55 rfl (by omega) (by omega) ⟨rfl, rfl, rfl⟩
  refine xa_aload_n d_Pos_init_19 rfl ?_
  rcases hb with ⟨rfl, rfl⟩ | ⟨a, k, v1, v2, v3, v5, v6, v7, rfl, hne, ha, rfl⟩
  · refine xa_aload_nN d_Pos_init_20 rfl ?_
    refine xa_ifnonnullN d_Pos_init_21 ?_
    refine xa_iconst (v := nI 0) d_Pos_init_24 rfl ?_
    refine xa_goto (tgt := 34) d_Pos_init_25 (by decide) ?_
    exact rest
  · refine xa_aload_n d_Pos_init_20 rfl ?_
    refine xa_ifnonnull (tgt := 28) d_Pos_init_21 (by decide) ?_
    refine xa_aload_n d_Pos_init_28 rfl ?_
    refine xa_getf f_Pos_20 d_Pos_init_29 (xa_u_ne ha hne) rfl ?_
    refine xa_iconst (v := nI 1) d_Pos_init_32 rfl ?_
    refine xa_iaddN d_Pos_init_33 ?_
    exact rest
end PI
