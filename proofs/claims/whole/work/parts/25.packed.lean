/-! New arrays of the kinds in use; long arrays that look alike; Packed. -/
section XN
variable {l : Launch} {D : va_G} {H0 : Heap} {μ : xa_Mu} {R : Room} {Z : xa_Z} {k n : Nat} {h : xa_H} {sz pc : Nat} {ls : List (Nat × Value)} {st : List Value}
theorem xa_newI {N : Nat} {i : Int32} (hd : decode μ.2.1 pc = .ok (.newarray .int, 2)) (hi : i = nI N) (hN : N < 2 ^ 20) (hk : k + 1 ≤ R.cells) (hs : n + N ≤ R.slots) (kk : xa_X l D H0 μ R Z (k + 1) (n + N) (xa_u h sz (.inl (D.1 100, N, .inl (fun _ => 0)))) (sz + 1) (pc + 2) ls (.ref sz :: st)) : xa_X l D H0 μ R Z k n h sz pc ls (.int i :: st) :=
  xa_newa (t0 := 0) (ty := .int) (x := (N, .inl (fun _ => 0))) w_arr_i rfl rfl (fun U cA h => h) (fun cA => rfl) hd hi (by omega) (by show N * 4 ≤ 536870912; omega) hk hs kk
theorem xa_newL {N : Nat} {i : Int32} (hd : decode μ.2.1 pc = .ok (.newarray .long, 2)) (hi : i = nI N) (hN : N < 2 ^ 20) (hk : k + 1 ≤ R.cells) (hs : n + N ≤ R.slots) (kk : xa_X l D H0 μ R Z (k + 1) (n + N) (xa_u h sz (.inl (D.1 101, N, .inr (.inl (fun _ => 0))))) (sz + 1) (pc + 2) ls (.ref sz :: st)) : xa_X l D H0 μ R Z k n h sz pc ls (.int i :: st) :=
  xa_newa (t0 := 1) (ty := .long) (x := (N, .inr (.inl (fun _ => 0)))) w_arr_l rfl rfl (fun U cA h => h) (fun cA => rfl) hd hi (by omega) (by show N * 8 ≤ 536870912; omega) hk hs kk
theorem xa_newZ {N : Nat} {i : Int32} (hd : decode μ.2.1 pc = .ok (.newarray .boolean, 2)) (hi : i = nI N) (hN : N < 2 ^ 20) (hk : k + 1 ≤ R.cells) (hs : n + N ≤ R.slots) (kk : xa_X l D H0 μ R Z (k + 1) (n + N) (xa_u h sz (.inl (D.1 102, N, .inl (fun _ => 0)))) (sz + 1) (pc + 2) ls (.ref sz :: st)) : xa_X l D H0 μ R Z k n h sz pc ls (.int i :: st) :=
  xa_newa (t0 := 2) (ty := .boolean) (x := (N, .inl (fun _ => 0))) w_arr_z rfl rfl (fun U cA h => h) (fun cA => rfl) hd hi (by omega) (by show N * 1 ≤ 536870912; omega) hk hs kk
theorem xa_newB {N : Nat} {i : Int32} (hd : decode μ.2.1 pc = .ok (.newarray .byte, 2)) (hi : i = nI N) (hN : N < 2 ^ 20) (hk : k + 1 ≤ R.cells) (hs : n + N ≤ R.slots) (kk : xa_X l D H0 μ R Z (k + 1) (n + N) (xa_u h sz (.inl (D.1 104, N, .inl (fun _ => 0)))) (sz + 1) (pc + 2) ls (.ref sz :: st)) : xa_X l D H0 μ R Z k n h sz pc ls (.int i :: st) :=
  xa_newa (t0 := 4) (ty := .byte) (x := (N, .inl (fun _ => 0))) w_arr_b rfl rfl (fun U cA h => h) (fun cA => rfl) hd hi (by omega) (by show N * 1 ≤ 536870912; omega) hk hs kk
theorem xa_cell_l {cA : ClassId} {N : Nat} {f g : Nat → Int64} (he : ∀ j, j < N → f j = g j) : vp_cell cA (N, .inr (.inl f)) = vp_cell cA (N, .inr (.inl g)) := by
  rw [vp_cell_l, vp_cell_l]
  unfold arrV
  congr 2
  funext j
  show Value.long (f j.val) = Value.long (g j.val)
  rw [he j.val j.isLt]
theorem xa_cellL {a N : Nat} {cA : ClassId} {f g : Nat → Int64} (he : ∀ j, j < N → f j = g j) (kk : xa_X l D H0 μ R Z k n (xa_u h a (.inl (cA, N, .inr (.inl g)))) sz pc ls st) : xa_X l D H0 μ R Z k n (xa_u h a (.inl (cA, N, .inr (.inl f)))) sz pc ls st := by
  intro p e s m args below meth c H locs la C hP hL hl
  refine kk p e s m args below meth c H locs la C (hP.alike fun b e' hb => ?_) hL hl
  unfold xa_u at hb ⊢
  by_cases hq : b = a
  · rw [if_pos hq] at hb ⊢
    cases hb
    refine ⟨_, rfl, fun hv => ?_⟩
    have hv' : H[b]? = some (vp_cell cA (N, .inr (.inl f))) := hv
    show H[b]? = some (vp_cell cA (N, .inr (.inl g)))
    rw [← xa_cell_l he]
    exact hv'
  · rw [if_neg hq] at hb ⊢
    exact ⟨e', hb, fun hv => hv⟩
theorem xa_lastE {a N j : Nat} {f : Nat → Int64} {i : Int32} {x : Int64} (hd : decode μ.2.1 pc = .ok (.lastore, 1)) (ha : h a = some (.inl (D.1 101, N, .inr (.inl f)))) (hi : i = nI j) (hj : j < N) (hN : N < 2 ^ 31) (kk : xa_X l D H0 μ R Z k n (xa_u h a (.inl (D.1 101, N, .inr (.inl (vp_updL f j x))))) sz (pc + 1) ls st) : xa_X l D H0 μ R Z k n h sz pc ls (.long x :: .int i :: .ref a :: st) := xa_last hd ha hj hi hN kk
end XN
section PK
variable {l : Launch} {D : va_G} {H0 : Heap} {h : xa_H} {sz : Nat} {R : Room}
/-- a packed board's cell -/
abbrev xp_c (D : va_G) (N : Nat) (V : Nat → Nat) : va_E := .inl (D.1 101, (N + 31) / 32, .inr (.inl (fun i => lN (V i))))
theorem c_Packed_kindAt {aB N p : Nat} {b V : Nat → Nat} (hB : h aB = some (xp_c D N V)) (hV : gp_B N b V) (hp : p < N) (hN : N < 1000) :
    xa_M l D H0 M_Packed_kindAt 0 0 0 0 [.ref aB, .int (nI p)] h sz (fun v h' sz' => v = some (.int (nI (b p))) ∧ h' = h ∧ sz' = sz) := by
  refine xa_enter (by decide) rfl rfl ?_
  refine xa_iconst (v := nI 2) d_Packed_kindAt_0 rfl ?_
  refine xa_iload_n d_Packed_kindAt_1 rfl ?_
  refine xa_bipush (v := nI 32) d_Packed_kindAt_2 (by decide) ?_
  refine xa_iremN d_Packed_kindAt_4 (by omega) (by omega) (by omega) ?_
  refine xa_imulN d_Packed_kindAt_5 ?_
  refine xa_istore_n d_Packed_kindAt_6 rfl rfl ?_
  refine xa_aload_n d_Packed_kindAt_7 rfl ?_
  refine xa_iload_n d_Packed_kindAt_8 rfl ?_
  refine xa_bipush (v := nI 32) d_Packed_kindAt_9 (by decide) ?_
  refine xa_idivN d_Packed_kindAt_11 (by omega) (by omega) (by omega) ?_
  refine xa_laldE d_Packed_kindAt_12 hB rfl (by omega) (by omega) rfl ?_
  refine xa_iload_n d_Packed_kindAt_13 rfl ?_
  refine xa_lushr d_Packed_kindAt_14 rfl ?_
  refine xa_ldc2 w_Packed_9 d_Packed_kindAt_15 ?_
  refine xa_land d_Packed_kindAt_18 ?_
  refine xa_l2i d_Packed_kindAt_19 rfl ?_
  refine xa_int (gp_get (hV (p / 32) (by omega)).1 (show p % 32 < 32 by omega)) ?_
  rw [gp_B_at hV hp]
  exact xa_ireturn d_Packed_kindAt_20 rfl (by omega) (by omega) ⟨rfl, rfl, rfl⟩
theorem c_Packed_setKind {aB N p k : Nat} {b V : Nat → Nat} (hB : h aB = some (xp_c D N V)) (hV : gp_B N b V) (hp : p < N) (hk : k < 4) (hN : N < 1000) :
    xa_M l D H0 M_Packed_setKind 0 0 0 0 [.ref aB, .int (nI p), .int (nI k)] h sz (fun v h' sz' => v = none ∧ h' = xa_u h aB (xp_c D N (fun i => if i = p / 32 then gp_set (V (p / 32)) (p % 32) k else V i)) ∧ sz' = sz) := by
  refine xa_enter (by decide) rfl rfl ?_
  refine xa_iload_n d_Packed_setKind_0 rfl ?_
  refine xa_bipush (v := nI 32) d_Packed_setKind_1 (by decide) ?_
  refine xa_idivN d_Packed_setKind_3 (by omega) (by omega) (by omega) ?_
  refine xa_istore_n d_Packed_setKind_4 rfl rfl ?_
  refine xa_iconst (v := nI 2) d_Packed_setKind_5 rfl ?_
  refine xa_iload_n d_Packed_setKind_6 rfl ?_
  refine xa_bipush (v := nI 32) d_Packed_setKind_7 (by decide) ?_
  refine xa_iremN d_Packed_setKind_9 (by omega) (by omega) (by omega) ?_
  refine xa_imulN d_Packed_setKind_10 ?_
  refine xa_istore d_Packed_setKind_11 rfl rfl ?_
  refine xa_aload_n d_Packed_setKind_13 rfl ?_
  refine xa_iload_n d_Packed_setKind_14 rfl ?_
  refine xa_aload_n d_Packed_setKind_15 rfl ?_
  refine xa_iload_n d_Packed_setKind_16 rfl ?_
  refine xa_laldE d_Packed_setKind_17 hB rfl (by omega) (by omega) rfl ?_
  refine xa_ldc2 w_Packed_9 d_Packed_setKind_18 ?_
  refine xa_iload d_Packed_setKind_21 rfl ?_
  refine xa_lshl d_Packed_setKind_23 rfl ?_
  refine xa_ldc2 w_Packed_11 d_Packed_setKind_24 ?_
  refine xa_lxor d_Packed_setKind_27 ?_
  refine xa_land d_Packed_setKind_28 ?_
  refine xa_iload_n d_Packed_setKind_29 rfl ?_
  refine xa_i2l d_Packed_setKind_30 rfl ?_
  refine xa_iload d_Packed_setKind_31 rfl ?_
  refine xa_lshl d_Packed_setKind_33 rfl ?_
  refine xa_lor d_Packed_setKind_34 ?_
  rw [gp_put (hV (p / 32) (by omega)).1 (show p % 32 < 32 by omega) hk]
  refine xa_lastE d_Packed_setKind_35 hB rfl (by omega) (by omega) ?_
  refine xa_cellL (g := fun i => lN (if i = p / 32 then gp_set (V (p / 32)) (p % 32) k else V i)) (fun j hj => ?_) ?_
  · by_cases hjp : j = p / 32
    · simp [vp_updL, hjp]
    · simp [vp_updL, hjp]
  exact xa_return d_Packed_setKind_36 rfl (by omega) (by omega) ⟨rfl, rfl, rfl⟩
theorem w_Packed_unpack {aB aK N : Nat} {b V : Nat → Nat} {K : Nat → Int32} (hR : 1 ≤ R.frames ∧ 22 ≤ R.locals) (hB : h aB = some (xp_c D N V)) (hne : aB ≠ aK) (hV : gp_B N b V) (hN : N < 1000) (i : Nat) (hi : i ≤ N) :
    xa_X l D H0 M_Packed_unpack R (xa_Zr D H0 0 0 (fun v h' sz' => v = none ∧ h' = xa_u h aK (.inl (D.1 100, N, .inl (fun q => nI (b q)))) ∧ sz' = sz)) 0 0 (xa_u h aK (.inl (D.1 100, N, .inl (fun q => if q < i then nI (b q) else K q)))) sz 2 [(0, .ref aB), (1, .ref aK), (2, .int (nI i))] [] := by
  have hB' : xa_u h aK (.inl (D.1 100, N, .inl (fun q => if q < i then nI (b q) else K q))) aB = some (xp_c D N V) := xa_u_ne hB hne
  have hK' : xa_u h aK (.inl (D.1 100, N, .inl (fun q => if q < i then nI (b q) else K q))) aK = some (.inl (D.1 100, N, .inl (fun q => if q < i then nI (b q) else K q))) := xa_u_eq _ _ _
  refine xa_iload_n d_Packed_unpack_2 rfl ?_
  refine xa_aload_n d_Packed_unpack_3 rfl ?_
  refine xa_alen (t0 := 0) rfl d_Packed_unpack_4 (by assumption) (by rfl) ?_
  refine xa_icmp_geN (tgt := 22) d_Packed_unpack_5 (by decide) (by omega) (by omega) (fun hb => ?_) (fun hb => ?_)
  · refine xa_cellI (g := fun q => nI (b q)) (fun j hj => if_pos (by omega)) ?_
    exact xa_return d_Packed_unpack_22 rfl (by omega) (by omega) ⟨rfl, rfl, rfl⟩
  ·
    refine xa_aload_n d_Packed_unpack_8 rfl ?_
    refine xa_iload_n d_Packed_unpack_9 rfl ?_
    refine xa_aload_n d_Packed_unpack_10 rfl ?_
    refine xa_iload_n d_Packed_unpack_11 rfl ?_
    refine xa_callSr (As := [.ref aB, .int (nI i)]) (st := [.int (nI i), .ref aK]) d_Packed_unpack_12 k_Packed_13 (c_Packed_kindAt hB' hV hb hN) rfl rfl (Nat.le_of_ble_eq_true rfl) ⟨hR.1, hR.2⟩ (by omega) (by omega) ?_
    refine xa_iastE d_Packed_unpack_15 hK' rfl hb (by omega) ?_
    rw [xa_uu]
    refine xa_cellI (g := fun q => if q < i + 1 then nI (b q) else K q) (fun j hj => ?_) ?_
    · show (if j = i then nI (b i) else if j < i then nI (b j) else K j) = if j < i + 1 then nI (b j) else K j
      by_cases h1 : j = i
      · rw [if_pos h1, if_pos (by omega), h1]
      · rw [if_neg h1]
        by_cases h2 : j < i
        · rw [if_pos h2, if_pos (by omega)]
        · rw [if_neg h2, if_neg (by omega)]
    refine xa_iincN d_Packed_unpack_16 rfl rfl rfl ?_
    refine xa_goto (tgt := 2) d_Packed_unpack_19 (by decide) ?_
    refine xa_ls ?_ (w_Packed_unpack hR hB hne hV hN (i + 1) (by omega))
    exact ⟨rfl, rfl, rfl, trivial⟩
termination_by N - i
decreasing_by omega
theorem c_Packed_unpack {aB aK N : Nat} {b V : Nat → Nat} {K : Nat → Int32} (hB : h aB = some (xp_c D N V)) (hK : h aK = some (.inl (D.1 100, N, .inl K))) (hne : aB ≠ aK) (hV : gp_B N b V) (hN : N < 1000) :
    xa_M l D H0 M_Packed_unpack 1 22 0 0 [.ref aB, .ref aK] h sz (fun v h' sz' => v = none ∧ h' = xa_u h aK (.inl (D.1 100, N, .inl (fun q => nI (b q)))) ∧ sz' = sz) := by
  refine xa_enter (by decide) rfl rfl ?_
  refine xa_iconst (v := nI 0) d_Packed_unpack_0 rfl ?_
  refine xa_istore_n d_Packed_unpack_1 rfl rfl ?_
  refine xa_heap (xa_us h hK).symm ?_
  refine xa_cellI (g := fun q => if q < 0 then nI (b q) else K q) (fun j hj => (if_neg (by omega)).symm) ?_
  refine xa_ls ?_ (w_Packed_unpack ⟨by decide, by decide⟩ hB hne hV hN 0 (by omega))
  exact ⟨rfl, rfl, rfl, trivial⟩
theorem c_Packed_freeBoard {N : Nat} (hN : N ≤ 169) :
    xa_M l D H0 M_Packed_freeBoard 0 0 1 6 [.int (nI N)] h sz (fun v h' sz' => v = some (.ref sz) ∧ h' = xa_u h sz (xp_c D N (fun _ => 0)) ∧ sz' = sz + 1) := by
  refine xa_enter (by decide) rfl rfl ?_
  refine xa_iload_n d_Packed_freeBoard_0 rfl ?_
  refine xa_bipush (v := nI 32) d_Packed_freeBoard_1 (by decide) ?_
  refine xa_iaddN d_Packed_freeBoard_3 ?_
  refine xa_iconst (v := nI 1) d_Packed_freeBoard_4 rfl ?_
  refine xa_isubN d_Packed_freeBoard_5 (by omega) ?_
  refine xa_bipush (v := nI 32) d_Packed_freeBoard_6 (by decide) ?_
  refine xa_idivN d_Packed_freeBoard_8 (by omega) (by omega) (by omega) ?_
  refine xa_newL d_Packed_freeBoard_9 rfl (by omega) (Nat.le_refl 1) (by show 0 + _ ≤ 6; omega) ?_
  refine xa_heap (show xa_u h sz (.inl (D.1 101, (N + 32 - 1) / 32, .inr (.inl (fun _ => 0)))) = xa_u h sz (xp_c D N (fun _ => 0)) from by rw [show N + 32 - 1 = N + 31 by omega]; rfl) ?_
  exact xa_areturn d_Packed_freeBoard_11 rfl (Or.inr ⟨_, rfl⟩) (by omega) (by omega) ⟨rfl, rfl, rfl⟩
end PK
