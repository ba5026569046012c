/-! The reference's constructor. -/
theorem gx_size_a {v : Int32} (h : ¬ nI 2 ≤ v) : nI 2 = nI (gx_size v) := by
  have h2 : v < 2 := by
    rw [Int32.le_iff_toInt_le] at h
    rw [i32_lt]
    have e1 : (nI 2).toInt = 2 := by decide
    have e2 : (2 : Int32).toInt = 2 := by decide
    omega
  unfold gx_size
  rw [if_pos h2]
theorem gx_size_b {v : Int32} (h : nI 2 ≤ v) (h' : ¬ v ≤ nI 13) : nI 13 = nI (gx_size v) := by
  have e1 : (nI 2).toInt = 2 := by decide
  have e2 : (2 : Int32).toInt = 2 := by decide
  have e3 : (nI 13).toInt = 13 := by decide
  have e4 : (13 : Int32).toInt = 13 := by decide
  rw [Int32.le_iff_toInt_le] at h h'
  unfold gx_size
  rw [if_neg (by rw [i32_lt]; omega), if_pos (by rw [i32_lt]; omega)]
theorem gx_size_c {v : Int32} (h : nI 2 ≤ v) (h' : v ≤ nI 13) : v = nI (gx_size v) := by
  have e0 : (0 : Int32).toInt = 0 := by decide
  have e1 : (nI 2).toInt = 2 := by decide
  have e2 : (2 : Int32).toInt = 2 := by decide
  have e3 : (nI 13).toInt = 13 := by decide
  have e4 : (13 : Int32).toInt = 13 := by decide
  rw [Int32.le_iff_toInt_le] at h h'
  obtain ⟨j, hj, rfl⟩ := nI_of (x := v) (fun h0 => by rw [i32_lt] at h0; omega)
  unfold gx_size
  rw [if_neg (by rw [i32_lt]; omega), if_neg (by rw [i32_lt]; omega), nI_clamp hj]
section RI0
variable {l : Launch} {D : va_G} {H0 : Heap} {h : xa_H} {sz : Nat} {R : Room}
theorem c_Ref_init {r : Nat} {v0 : Int32} (ho : h r = some (.inr (8, [.int 0, .int 0, .int 0, .null, .null, .int 0, .int 0, .null, .null, .null, .null, .int 0, .int 0, .null, .null, .int 0, .null, .null, .null, .null, .int 0, .int 0, .null, .null]))) (hs : sz = r + 1) :
    xa_M l D H0 M_Ref_init 1 20 14 173862 [.ref r, .int v0] h sz (fun v h' sz' => v = none ∧ xR_S D h' r (gx_size v0) 1 (fun _ => 0) 0 (fun _ _ => 0) (fun _ => -2) (fun _ => 0) (fun _ => 0) 0 ∧ (∀ q, q < r ∨ r + 15 ≤ q → h' q = h q) ∧ sz' = sz + 14) := by
  refine xa_enter (by decide) rfl rfl ?_
  subst hs
  refine xa_aload_n d_Ref_init_0 rfl ?_
  refine xa_objInit k_Ref_1 w_oi w_oc d_Ref_init_1 (by decide) (by decide) ?_
  have fr0 : ∀ q, q < r ∨ r + 15 ≤ q → h q = h q := fun q _ => rfl
  refine xa_aload_n d_Ref_init_4 rfl ?_
  refine xa_sipush (v := nI 169) d_Ref_init_5 (by decide) ?_
  refine xa_newI (N := 169) d_Ref_init_8 rfl (by decide) (Nat.le_of_ble_eq_true rfl) (Nat.le_of_ble_eq_true rfl) ?_
  refine xa_putF f_Ref_7 rfl (fun q hq => by cases hq; rfl) d_Ref_init_10 (xa_u_ne ho (by omega)) (Nat.le_of_ble_eq_true rfl) rfl rfl ?_
  refine xa_heap (h' := xa_u (xa_u h (r + 1) (.inl (D.1 100, 169, .inl (fun _ => 0)))) r (.inr (8, [.int 0, .int 0, .int 0, .ref (r + 1), .null, .int 0, .int 0, .null, .null, .null, .null, .int 0, .int 0, .null, .null, .int 0, .null, .null, .null, .null, .int 0, .int 0, .null, .null]))) rfl ?_
  generalize hg : xa_u (xa_u h (r + 1) (.inl (D.1 100, 169, .inl (fun _ => 0)))) r (.inr (8, [.int 0, .int 0, .int 0, .ref (r + 1), .null, .int 0, .int 0, .null, .null, .null, .null, .int 0, .int 0, .null, .null, .int 0, .null, .null, .null, .null, .int 0, .int 0, .null, .null])) = G1
  have a1_0 : G1 r = some (.inr (8, [.int 0, .int 0, .int 0, .ref (r + 1), .null, .int 0, .int 0, .null, .null, .null, .null, .int 0, .int 0, .null, .null, .int 0, .null, .null, .null, .null, .int 0, .int 0, .null, .null])) := by rw [← hg]; exact xa_u_eq _ _ _
  have b1_1 : G1 (r + 1) = some (.inl (D.1 100, 169, .inl (fun _ => 0))) := by rw [← hg]; exact xa_u_ne (xa_u_eq _ _ _) (by omega)
  have fr1 : ∀ q, q < r ∨ r + 15 ≤ q → G1 q = h q := fun q hq => by rw [← hg]; exact xa_u_ne (xa_u_ne (fr0 q hq) (by omega)) (by omega)
  clear hg  fr0
  refine xa_aload_n d_Ref_init_13 rfl ?_
  refine xa_sipush (v := nI 169) d_Ref_init_14 (by decide) ?_
  refine xa_newI (N := 169) d_Ref_init_17 rfl (by decide) (Nat.le_of_ble_eq_true rfl) (Nat.le_of_ble_eq_true rfl) ?_
  refine xa_putF f_Ref_13 rfl (fun q hq => by cases hq; rfl) d_Ref_init_19 (xa_u_ne a1_0 (by omega)) (Nat.le_of_ble_eq_true rfl) rfl rfl ?_
  refine xa_heap (h' := xa_u (xa_u G1 (r + 2) (.inl (D.1 100, 169, .inl (fun _ => 0)))) r (.inr (8, [.int 0, .int 0, .int 0, .ref (r + 1), .ref (r + 2), .int 0, .int 0, .null, .null, .null, .null, .int 0, .int 0, .null, .null, .int 0, .null, .null, .null, .null, .int 0, .int 0, .null, .null]))) rfl ?_
  generalize hg : xa_u (xa_u G1 (r + 2) (.inl (D.1 100, 169, .inl (fun _ => 0)))) r (.inr (8, [.int 0, .int 0, .int 0, .ref (r + 1), .ref (r + 2), .int 0, .int 0, .null, .null, .null, .null, .int 0, .int 0, .null, .null, .int 0, .null, .null, .null, .null, .int 0, .int 0, .null, .null])) = G2
  have a2_0 : G2 r = some (.inr (8, [.int 0, .int 0, .int 0, .ref (r + 1), .ref (r + 2), .int 0, .int 0, .null, .null, .null, .null, .int 0, .int 0, .null, .null, .int 0, .null, .null, .null, .null, .int 0, .int 0, .null, .null])) := by rw [← hg]; exact xa_u_eq _ _ _
  have b2_2 : G2 (r + 2) = some (.inl (D.1 100, 169, .inl (fun _ => 0))) := by rw [← hg]; exact xa_u_ne (xa_u_eq _ _ _) (by omega)
  have b2_1 : G2 (r + 1) = some (.inl (D.1 100, 169, .inl (fun _ => 0))) := by rw [← hg]; exact xa_u_ne (xa_u_ne b1_1 (by omega)) (by omega)
  have fr2 : ∀ q, q < r ∨ r + 15 ≤ q → G2 q = h q := fun q hq => by rw [← hg]; exact xa_u_ne (xa_u_ne (fr1 q hq) (by omega)) (by omega)
  clear hg b1_1 a1_0 fr1
  refine xa_aload_n d_Ref_init_22 rfl ?_
  refine xa_ldc w_Ref_16 d_Ref_init_23 ?_
  refine xa_newB (N := 169169) d_Ref_init_25 (by decide) (by decide) (Nat.le_of_ble_eq_true rfl) (Nat.le_of_ble_eq_true rfl) ?_
  refine xa_putF f_Ref_17 rfl (fun q hq => by cases hq; rfl) d_Ref_init_27 (xa_u_ne a2_0 (by omega)) (Nat.le_of_ble_eq_true rfl) rfl rfl ?_
  refine xa_heap (h' := xa_u (xa_u G2 (r + 3) (.inl (D.1 104, 169169, .inl (fun _ => 0)))) r (.inr (8, [.int 0, .int 0, .int 0, .ref (r + 1), .ref (r + 2), .int 0, .int 0, .ref (r + 3), .null, .null, .null, .int 0, .int 0, .null, .null, .int 0, .null, .null, .null, .null, .int 0, .int 0, .null, .null]))) rfl ?_
  generalize hg : xa_u (xa_u G2 (r + 3) (.inl (D.1 104, 169169, .inl (fun _ => 0)))) r (.inr (8, [.int 0, .int 0, .int 0, .ref (r + 1), .ref (r + 2), .int 0, .int 0, .ref (r + 3), .null, .null, .null, .int 0, .int 0, .null, .null, .int 0, .null, .null, .null, .null, .int 0, .int 0, .null, .null])) = G3
  have a3_0 : G3 r = some (.inr (8, [.int 0, .int 0, .int 0, .ref (r + 1), .ref (r + 2), .int 0, .int 0, .ref (r + 3), .null, .null, .null, .int 0, .int 0, .null, .null, .int 0, .null, .null, .null, .null, .int 0, .int 0, .null, .null])) := by rw [← hg]; exact xa_u_eq _ _ _
  have b3_3 : G3 (r + 3) = some (.inl (D.1 104, 169169, .inl (fun _ => 0))) := by rw [← hg]; exact xa_u_ne (xa_u_eq _ _ _) (by omega)
  have b3_2 : G3 (r + 2) = some (.inl (D.1 100, 169, .inl (fun _ => 0))) := by rw [← hg]; exact xa_u_ne (xa_u_ne b2_2 (by omega)) (by omega)
  have b3_1 : G3 (r + 1) = some (.inl (D.1 100, 169, .inl (fun _ => 0))) := by rw [← hg]; exact xa_u_ne (xa_u_ne b2_1 (by omega)) (by omega)
  have fr3 : ∀ q, q < r ∨ r + 15 ≤ q → G3 q = h q := fun q hq => by rw [← hg]; exact xa_u_ne (xa_u_ne (fr2 q hq) (by omega)) (by omega)
  clear hg b2_2 b2_1 a2_0 fr2
  refine xa_aload_n d_Ref_init_30 rfl ?_
  refine xa_sipush (v := nI 1000) d_Ref_init_31 (by decide) ?_
  refine xa_newI (N := 1000) d_Ref_init_34 rfl (by decide) (Nat.le_of_ble_eq_true rfl) (Nat.le_of_ble_eq_true rfl) ?_
  refine xa_putF f_Ref_21 rfl (fun q hq => by cases hq; rfl) d_Ref_init_36 (xa_u_ne a3_0 (by omega)) (Nat.le_of_ble_eq_true rfl) rfl rfl ?_
  refine xa_heap (h' := xa_u (xa_u G3 (r + 4) (.inl (D.1 100, 1000, .inl (fun _ => 0)))) r (.inr (8, [.int 0, .int 0, .int 0, .ref (r + 1), .ref (r + 2), .int 0, .int 0, .ref (r + 3), .ref (r + 4), .null, .null, .int 0, .int 0, .null, .null, .int 0, .null, .null, .null, .null, .int 0, .int 0, .null, .null]))) rfl ?_
  generalize hg : xa_u (xa_u G3 (r + 4) (.inl (D.1 100, 1000, .inl (fun _ => 0)))) r (.inr (8, [.int 0, .int 0, .int 0, .ref (r + 1), .ref (r + 2), .int 0, .int 0, .ref (r + 3), .ref (r + 4), .null, .null, .int 0, .int 0, .null, .null, .int 0, .null, .null, .null, .null, .int 0, .int 0, .null, .null])) = G4
  have a4_0 : G4 r = some (.inr (8, [.int 0, .int 0, .int 0, .ref (r + 1), .ref (r + 2), .int 0, .int 0, .ref (r + 3), .ref (r + 4), .null, .null, .int 0, .int 0, .null, .null, .int 0, .null, .null, .null, .null, .int 0, .int 0, .null, .null])) := by rw [← hg]; exact xa_u_eq _ _ _
  have b4_4 : G4 (r + 4) = some (.inl (D.1 100, 1000, .inl (fun _ => 0))) := by rw [← hg]; exact xa_u_ne (xa_u_eq _ _ _) (by omega)
  have b4_3 : G4 (r + 3) = some (.inl (D.1 104, 169169, .inl (fun _ => 0))) := by rw [← hg]; exact xa_u_ne (xa_u_ne b3_3 (by omega)) (by omega)
  have b4_2 : G4 (r + 2) = some (.inl (D.1 100, 169, .inl (fun _ => 0))) := by rw [← hg]; exact xa_u_ne (xa_u_ne b3_2 (by omega)) (by omega)
  have b4_1 : G4 (r + 1) = some (.inl (D.1 100, 169, .inl (fun _ => 0))) := by rw [← hg]; exact xa_u_ne (xa_u_ne b3_1 (by omega)) (by omega)
  have fr4 : ∀ q, q < r ∨ r + 15 ≤ q → G4 q = h q := fun q hq => by rw [← hg]; exact xa_u_ne (xa_u_ne (fr3 q hq) (by omega)) (by omega)
  clear hg b3_3 b3_2 b3_1 a3_0 fr3
  refine xa_aload_n d_Ref_init_39 rfl ?_
  refine xa_sipush (v := nI 1000) d_Ref_init_40 (by decide) ?_
  refine xa_newI (N := 1000) d_Ref_init_43 rfl (by decide) (Nat.le_of_ble_eq_true rfl) (Nat.le_of_ble_eq_true rfl) ?_
  refine xa_putF f_Ref_24 rfl (fun q hq => by cases hq; rfl) d_Ref_init_45 (xa_u_ne a4_0 (by omega)) (Nat.le_of_ble_eq_true rfl) rfl rfl ?_
  refine xa_heap (h' := xa_u (xa_u G4 (r + 5) (.inl (D.1 100, 1000, .inl (fun _ => 0)))) r (.inr (8, [.int 0, .int 0, .int 0, .ref (r + 1), .ref (r + 2), .int 0, .int 0, .ref (r + 3), .ref (r + 4), .ref (r + 5), .null, .int 0, .int 0, .null, .null, .int 0, .null, .null, .null, .null, .int 0, .int 0, .null, .null]))) rfl ?_
  generalize hg : xa_u (xa_u G4 (r + 5) (.inl (D.1 100, 1000, .inl (fun _ => 0)))) r (.inr (8, [.int 0, .int 0, .int 0, .ref (r + 1), .ref (r + 2), .int 0, .int 0, .ref (r + 3), .ref (r + 4), .ref (r + 5), .null, .int 0, .int 0, .null, .null, .int 0, .null, .null, .null, .null, .int 0, .int 0, .null, .null])) = G5
  have a5_0 : G5 r = some (.inr (8, [.int 0, .int 0, .int 0, .ref (r + 1), .ref (r + 2), .int 0, .int 0, .ref (r + 3), .ref (r + 4), .ref (r + 5), .null, .int 0, .int 0, .null, .null, .int 0, .null, .null, .null, .null, .int 0, .int 0, .null, .null])) := by rw [← hg]; exact xa_u_eq _ _ _
  have b5_5 : G5 (r + 5) = some (.inl (D.1 100, 1000, .inl (fun _ => 0))) := by rw [← hg]; exact xa_u_ne (xa_u_eq _ _ _) (by omega)
  have b5_4 : G5 (r + 4) = some (.inl (D.1 100, 1000, .inl (fun _ => 0))) := by rw [← hg]; exact xa_u_ne (xa_u_ne b4_4 (by omega)) (by omega)
  have b5_3 : G5 (r + 3) = some (.inl (D.1 104, 169169, .inl (fun _ => 0))) := by rw [← hg]; exact xa_u_ne (xa_u_ne b4_3 (by omega)) (by omega)
  have b5_2 : G5 (r + 2) = some (.inl (D.1 100, 169, .inl (fun _ => 0))) := by rw [← hg]; exact xa_u_ne (xa_u_ne b4_2 (by omega)) (by omega)
  have b5_1 : G5 (r + 1) = some (.inl (D.1 100, 169, .inl (fun _ => 0))) := by rw [← hg]; exact xa_u_ne (xa_u_ne b4_1 (by omega)) (by omega)
  have fr5 : ∀ q, q < r ∨ r + 15 ≤ q → G5 q = h q := fun q hq => by rw [← hg]; exact xa_u_ne (xa_u_ne (fr4 q hq) (by omega)) (by omega)
  clear hg b4_4 b4_3 b4_2 b4_1 a4_0 fr4
  refine xa_aload_n d_Ref_init_48 rfl ?_
  refine xa_sipush (v := nI 1000) d_Ref_init_49 (by decide) ?_
  refine xa_newI (N := 1000) d_Ref_init_52 rfl (by decide) (Nat.le_of_ble_eq_true rfl) (Nat.le_of_ble_eq_true rfl) ?_
  refine xa_putF f_Ref_27 rfl (fun q hq => by cases hq; rfl) d_Ref_init_54 (xa_u_ne a5_0 (by omega)) (Nat.le_of_ble_eq_true rfl) rfl rfl ?_
  refine xa_heap (h' := xa_u (xa_u G5 (r + 6) (.inl (D.1 100, 1000, .inl (fun _ => 0)))) r (.inr (8, [.int 0, .int 0, .int 0, .ref (r + 1), .ref (r + 2), .int 0, .int 0, .ref (r + 3), .ref (r + 4), .ref (r + 5), .ref (r + 6), .int 0, .int 0, .null, .null, .int 0, .null, .null, .null, .null, .int 0, .int 0, .null, .null]))) rfl ?_
  generalize hg : xa_u (xa_u G5 (r + 6) (.inl (D.1 100, 1000, .inl (fun _ => 0)))) r (.inr (8, [.int 0, .int 0, .int 0, .ref (r + 1), .ref (r + 2), .int 0, .int 0, .ref (r + 3), .ref (r + 4), .ref (r + 5), .ref (r + 6), .int 0, .int 0, .null, .null, .int 0, .null, .null, .null, .null, .int 0, .int 0, .null, .null])) = G6
  have a6_0 : G6 r = some (.inr (8, [.int 0, .int 0, .int 0, .ref (r + 1), .ref (r + 2), .int 0, .int 0, .ref (r + 3), .ref (r + 4), .ref (r + 5), .ref (r + 6), .int 0, .int 0, .null, .null, .int 0, .null, .null, .null, .null, .int 0, .int 0, .null, .null])) := by rw [← hg]; exact xa_u_eq _ _ _
  have b6_6 : G6 (r + 6) = some (.inl (D.1 100, 1000, .inl (fun _ => 0))) := by rw [← hg]; exact xa_u_ne (xa_u_eq _ _ _) (by omega)
  have b6_5 : G6 (r + 5) = some (.inl (D.1 100, 1000, .inl (fun _ => 0))) := by rw [← hg]; exact xa_u_ne (xa_u_ne b5_5 (by omega)) (by omega)
  have b6_4 : G6 (r + 4) = some (.inl (D.1 100, 1000, .inl (fun _ => 0))) := by rw [← hg]; exact xa_u_ne (xa_u_ne b5_4 (by omega)) (by omega)
  have b6_3 : G6 (r + 3) = some (.inl (D.1 104, 169169, .inl (fun _ => 0))) := by rw [← hg]; exact xa_u_ne (xa_u_ne b5_3 (by omega)) (by omega)
  have b6_2 : G6 (r + 2) = some (.inl (D.1 100, 169, .inl (fun _ => 0))) := by rw [← hg]; exact xa_u_ne (xa_u_ne b5_2 (by omega)) (by omega)
  have b6_1 : G6 (r + 1) = some (.inl (D.1 100, 169, .inl (fun _ => 0))) := by rw [← hg]; exact xa_u_ne (xa_u_ne b5_1 (by omega)) (by omega)
  have fr6 : ∀ q, q < r ∨ r + 15 ≤ q → G6 q = h q := fun q hq => by rw [← hg]; exact xa_u_ne (xa_u_ne (fr5 q hq) (by omega)) (by omega)
  clear hg b5_5 b5_4 b5_3 b5_2 b5_1 a5_0 fr5
  refine xa_aload_n d_Ref_init_57 rfl ?_
  refine xa_iconst (v := nI 1) d_Ref_init_58 rfl ?_
  refine xa_putf f_Ref_30 d_Ref_init_59 a6_0 (Nat.le_of_ble_eq_true rfl) rfl rfl ?_
  refine xa_heap (h' := xa_u G6 r (.inr (8, [.int 0, .int 0, .int 0, .ref (r + 1), .ref (r + 2), .int 0, .int 0, .ref (r + 3), .ref (r + 4), .ref (r + 5), .ref (r + 6), .int 0, .int (nI 1), .null, .null, .int 0, .null, .null, .null, .null, .int 0, .int 0, .null, .null]))) rfl ?_
  generalize hg : xa_u G6 r (.inr (8, [.int 0, .int 0, .int 0, .ref (r + 1), .ref (r + 2), .int 0, .int 0, .ref (r + 3), .ref (r + 4), .ref (r + 5), .ref (r + 6), .int 0, .int (nI 1), .null, .null, .int 0, .null, .null, .null, .null, .int 0, .int 0, .null, .null])) = K7
  have ak7 : K7 r = some (.inr (8, [.int 0, .int 0, .int 0, .ref (r + 1), .ref (r + 2), .int 0, .int 0, .ref (r + 3), .ref (r + 4), .ref (r + 5), .ref (r + 6), .int 0, .int (nI 1), .null, .null, .int 0, .null, .null, .null, .null, .int 0, .int 0, .null, .null])) := by rw [← hg]; exact xa_u_eq _ _ _
  have k6 : K7 (r + 6) = some (.inl (D.1 100, 1000, .inl (fun _ => 0))) := by rw [← hg]; exact xa_u_ne b6_6 (by omega)
  have k5 : K7 (r + 5) = some (.inl (D.1 100, 1000, .inl (fun _ => 0))) := by rw [← hg]; exact xa_u_ne b6_5 (by omega)
  have k4 : K7 (r + 4) = some (.inl (D.1 100, 1000, .inl (fun _ => 0))) := by rw [← hg]; exact xa_u_ne b6_4 (by omega)
  have k3 : K7 (r + 3) = some (.inl (D.1 104, 169169, .inl (fun _ => 0))) := by rw [← hg]; exact xa_u_ne b6_3 (by omega)
  have k2 : K7 (r + 2) = some (.inl (D.1 100, 169, .inl (fun _ => 0))) := by rw [← hg]; exact xa_u_ne b6_2 (by omega)
  have k1 : K7 (r + 1) = some (.inl (D.1 100, 169, .inl (fun _ => 0))) := by rw [← hg]; exact xa_u_ne b6_1 (by omega)
  have frk : ∀ q, q < r ∨ r + 15 ≤ q → K7 q = h q := fun q hq => by rw [← hg]; exact xa_u_ne (fr6 q hq) (by omega)
  clear hg b6_6 b6_5 b6_4 b6_3 b6_2 b6_1 a6_0 fr6
  refine xa_aload_n d_Ref_init_62 rfl ?_
  refine xa_sipush (v := nI 169) d_Ref_init_63 (by decide) ?_
  refine xa_newZ (N := 169) d_Ref_init_66 rfl (by decide) (Nat.le_of_ble_eq_true rfl) (Nat.le_of_ble_eq_true rfl) ?_
  refine xa_putF f_Ref_34 rfl (fun q hq => by cases hq; rfl) d_Ref_init_68 (xa_u_ne ak7 (by omega)) (Nat.le_of_ble_eq_true rfl) rfl rfl ?_
  refine xa_heap (h' := xa_u (xa_u K7 (r + 7) (.inl (D.1 102, 169, .inl (fun _ => 0)))) r (.inr (8, [.int 0, .int 0, .int 0, .ref (r + 1), .ref (r + 2), .int 0, .int 0, .ref (r + 3), .ref (r + 4), .ref (r + 5), .ref (r + 6), .int 0, .int (nI 1), .ref (r + 7), .null, .int 0, .null, .null, .null, .null, .int 0, .int 0, .null, .null]))) rfl ?_
  generalize hg : xa_u (xa_u K7 (r + 7) (.inl (D.1 102, 169, .inl (fun _ => 0)))) r (.inr (8, [.int 0, .int 0, .int 0, .ref (r + 1), .ref (r + 2), .int 0, .int 0, .ref (r + 3), .ref (r + 4), .ref (r + 5), .ref (r + 6), .int 0, .int (nI 1), .ref (r + 7), .null, .int 0, .null, .null, .null, .null, .int 0, .int 0, .null, .null])) = G7
  have a7_0 : G7 r = some (.inr (8, [.int 0, .int 0, .int 0, .ref (r + 1), .ref (r + 2), .int 0, .int 0, .ref (r + 3), .ref (r + 4), .ref (r + 5), .ref (r + 6), .int 0, .int (nI 1), .ref (r + 7), .null, .int 0, .null, .null, .null, .null, .int 0, .int 0, .null, .null])) := by rw [← hg]; exact xa_u_eq _ _ _
  have b7_7 : G7 (r + 7) = some (.inl (D.1 102, 169, .inl (fun _ => 0))) := by rw [← hg]; exact xa_u_ne (xa_u_eq _ _ _) (by omega)
  have b7_6 : G7 (r + 6) = some (.inl (D.1 100, 1000, .inl (fun _ => 0))) := by rw [← hg]; exact xa_u_ne (xa_u_ne k6 (by omega)) (by omega)
  have b7_5 : G7 (r + 5) = some (.inl (D.1 100, 1000, .inl (fun _ => 0))) := by rw [← hg]; exact xa_u_ne (xa_u_ne k5 (by omega)) (by omega)
  have b7_4 : G7 (r + 4) = some (.inl (D.1 100, 1000, .inl (fun _ => 0))) := by rw [← hg]; exact xa_u_ne (xa_u_ne k4 (by omega)) (by omega)
  have b7_3 : G7 (r + 3) = some (.inl (D.1 104, 169169, .inl (fun _ => 0))) := by rw [← hg]; exact xa_u_ne (xa_u_ne k3 (by omega)) (by omega)
  have b7_2 : G7 (r + 2) = some (.inl (D.1 100, 169, .inl (fun _ => 0))) := by rw [← hg]; exact xa_u_ne (xa_u_ne k2 (by omega)) (by omega)
  have b7_1 : G7 (r + 1) = some (.inl (D.1 100, 169, .inl (fun _ => 0))) := by rw [← hg]; exact xa_u_ne (xa_u_ne k1 (by omega)) (by omega)
  have fr7 : ∀ q, q < r ∨ r + 15 ≤ q → G7 q = h q := fun q hq => by rw [← hg]; exact xa_u_ne (xa_u_ne (frk q hq) (by omega)) (by omega)
  clear hg k6 k5 k4 k3 k2 k1 ak7 frk
  refine xa_aload_n d_Ref_init_71 rfl ?_
  refine xa_sipush (v := nI 169) d_Ref_init_72 (by decide) ?_
  refine xa_newI (N := 169) d_Ref_init_75 rfl (by decide) (Nat.le_of_ble_eq_true rfl) (Nat.le_of_ble_eq_true rfl) ?_
  refine xa_putF f_Ref_38 rfl (fun q hq => by cases hq; rfl) d_Ref_init_77 (xa_u_ne a7_0 (by omega)) (Nat.le_of_ble_eq_true rfl) rfl rfl ?_
  refine xa_heap (h' := xa_u (xa_u G7 (r + 8) (.inl (D.1 100, 169, .inl (fun _ => 0)))) r (.inr (8, [.int 0, .int 0, .int 0, .ref (r + 1), .ref (r + 2), .int 0, .int 0, .ref (r + 3), .ref (r + 4), .ref (r + 5), .ref (r + 6), .int 0, .int (nI 1), .ref (r + 7), .ref (r + 8), .int 0, .null, .null, .null, .null, .int 0, .int 0, .null, .null]))) rfl ?_
  generalize hg : xa_u (xa_u G7 (r + 8) (.inl (D.1 100, 169, .inl (fun _ => 0)))) r (.inr (8, [.int 0, .int 0, .int 0, .ref (r + 1), .ref (r + 2), .int 0, .int 0, .ref (r + 3), .ref (r + 4), .ref (r + 5), .ref (r + 6), .int 0, .int (nI 1), .ref (r + 7), .ref (r + 8), .int 0, .null, .null, .null, .null, .int 0, .int 0, .null, .null])) = G8
  have a8_0 : G8 r = some (.inr (8, [.int 0, .int 0, .int 0, .ref (r + 1), .ref (r + 2), .int 0, .int 0, .ref (r + 3), .ref (r + 4), .ref (r + 5), .ref (r + 6), .int 0, .int (nI 1), .ref (r + 7), .ref (r + 8), .int 0, .null, .null, .null, .null, .int 0, .int 0, .null, .null])) := by rw [← hg]; exact xa_u_eq _ _ _
  have b8_8 : G8 (r + 8) = some (.inl (D.1 100, 169, .inl (fun _ => 0))) := by rw [← hg]; exact xa_u_ne (xa_u_eq _ _ _) (by omega)
  have b8_7 : G8 (r + 7) = some (.inl (D.1 102, 169, .inl (fun _ => 0))) := by rw [← hg]; exact xa_u_ne (xa_u_ne b7_7 (by omega)) (by omega)
  have b8_6 : G8 (r + 6) = some (.inl (D.1 100, 1000, .inl (fun _ => 0))) := by rw [← hg]; exact xa_u_ne (xa_u_ne b7_6 (by omega)) (by omega)
  have b8_5 : G8 (r + 5) = some (.inl (D.1 100, 1000, .inl (fun _ => 0))) := by rw [← hg]; exact xa_u_ne (xa_u_ne b7_5 (by omega)) (by omega)
  have b8_4 : G8 (r + 4) = some (.inl (D.1 100, 1000, .inl (fun _ => 0))) := by rw [← hg]; exact xa_u_ne (xa_u_ne b7_4 (by omega)) (by omega)
  have b8_3 : G8 (r + 3) = some (.inl (D.1 104, 169169, .inl (fun _ => 0))) := by rw [← hg]; exact xa_u_ne (xa_u_ne b7_3 (by omega)) (by omega)
  have b8_2 : G8 (r + 2) = some (.inl (D.1 100, 169, .inl (fun _ => 0))) := by rw [← hg]; exact xa_u_ne (xa_u_ne b7_2 (by omega)) (by omega)
  have b8_1 : G8 (r + 1) = some (.inl (D.1 100, 169, .inl (fun _ => 0))) := by rw [← hg]; exact xa_u_ne (xa_u_ne b7_1 (by omega)) (by omega)
  have fr8 : ∀ q, q < r ∨ r + 15 ≤ q → G8 q = h q := fun q hq => by rw [← hg]; exact xa_u_ne (xa_u_ne (fr7 q hq) (by omega)) (by omega)
  clear hg b7_7 b7_6 b7_5 b7_4 b7_3 b7_2 b7_1 a7_0 fr7
  refine xa_aload_n d_Ref_init_80 rfl ?_
  refine xa_sipush (v := nI 169) d_Ref_init_81 (by decide) ?_
  refine xa_newI (N := 169) d_Ref_init_84 rfl (by decide) (Nat.le_of_ble_eq_true rfl) (Nat.le_of_ble_eq_true rfl) ?_
  refine xa_putF f_Ref_41 rfl (fun q hq => by cases hq; rfl) d_Ref_init_86 (xa_u_ne a8_0 (by omega)) (Nat.le_of_ble_eq_true rfl) rfl rfl ?_
  refine xa_heap (h' := xa_u (xa_u G8 (r + 9) (.inl (D.1 100, 169, .inl (fun _ => 0)))) r (.inr (8, [.int 0, .int 0, .int 0, .ref (r + 1), .ref (r + 2), .int 0, .int 0, .ref (r + 3), .ref (r + 4), .ref (r + 5), .ref (r + 6), .int 0, .int (nI 1), .ref (r + 7), .ref (r + 8), .int 0, .ref (r + 9), .null, .null, .null, .int 0, .int 0, .null, .null]))) rfl ?_
  generalize hg : xa_u (xa_u G8 (r + 9) (.inl (D.1 100, 169, .inl (fun _ => 0)))) r (.inr (8, [.int 0, .int 0, .int 0, .ref (r + 1), .ref (r + 2), .int 0, .int 0, .ref (r + 3), .ref (r + 4), .ref (r + 5), .ref (r + 6), .int 0, .int (nI 1), .ref (r + 7), .ref (r + 8), .int 0, .ref (r + 9), .null, .null, .null, .int 0, .int 0, .null, .null])) = G9
  have a9_0 : G9 r = some (.inr (8, [.int 0, .int 0, .int 0, .ref (r + 1), .ref (r + 2), .int 0, .int 0, .ref (r + 3), .ref (r + 4), .ref (r + 5), .ref (r + 6), .int 0, .int (nI 1), .ref (r + 7), .ref (r + 8), .int 0, .ref (r + 9), .null, .null, .null, .int 0, .int 0, .null, .null])) := by rw [← hg]; exact xa_u_eq _ _ _
  have b9_9 : G9 (r + 9) = some (.inl (D.1 100, 169, .inl (fun _ => 0))) := by rw [← hg]; exact xa_u_ne (xa_u_eq _ _ _) (by omega)
  have b9_8 : G9 (r + 8) = some (.inl (D.1 100, 169, .inl (fun _ => 0))) := by rw [← hg]; exact xa_u_ne (xa_u_ne b8_8 (by omega)) (by omega)
  have b9_7 : G9 (r + 7) = some (.inl (D.1 102, 169, .inl (fun _ => 0))) := by rw [← hg]; exact xa_u_ne (xa_u_ne b8_7 (by omega)) (by omega)
  have b9_6 : G9 (r + 6) = some (.inl (D.1 100, 1000, .inl (fun _ => 0))) := by rw [← hg]; exact xa_u_ne (xa_u_ne b8_6 (by omega)) (by omega)
  have b9_5 : G9 (r + 5) = some (.inl (D.1 100, 1000, .inl (fun _ => 0))) := by rw [← hg]; exact xa_u_ne (xa_u_ne b8_5 (by omega)) (by omega)
  have b9_4 : G9 (r + 4) = some (.inl (D.1 100, 1000, .inl (fun _ => 0))) := by rw [← hg]; exact xa_u_ne (xa_u_ne b8_4 (by omega)) (by omega)
  have b9_3 : G9 (r + 3) = some (.inl (D.1 104, 169169, .inl (fun _ => 0))) := by rw [← hg]; exact xa_u_ne (xa_u_ne b8_3 (by omega)) (by omega)
  have b9_2 : G9 (r + 2) = some (.inl (D.1 100, 169, .inl (fun _ => 0))) := by rw [← hg]; exact xa_u_ne (xa_u_ne b8_2 (by omega)) (by omega)
  have b9_1 : G9 (r + 1) = some (.inl (D.1 100, 169, .inl (fun _ => 0))) := by rw [← hg]; exact xa_u_ne (xa_u_ne b8_1 (by omega)) (by omega)
  have fr9 : ∀ q, q < r ∨ r + 15 ≤ q → G9 q = h q := fun q hq => by rw [← hg]; exact xa_u_ne (xa_u_ne (fr8 q hq) (by omega)) (by omega)
  clear hg b8_8 b8_7 b8_6 b8_5 b8_4 b8_3 b8_2 b8_1 a8_0 fr8
  refine xa_aload_n d_Ref_init_89 rfl ?_
  refine xa_sipush (v := nI 169) d_Ref_init_90 (by decide) ?_
  refine xa_newI (N := 169) d_Ref_init_93 rfl (by decide) (Nat.le_of_ble_eq_true rfl) (Nat.le_of_ble_eq_true rfl) ?_
  refine xa_putF f_Ref_44 rfl (fun q hq => by cases hq; rfl) d_Ref_init_95 (xa_u_ne a9_0 (by omega)) (Nat.le_of_ble_eq_true rfl) rfl rfl ?_
  refine xa_heap (h' := xa_u (xa_u G9 (r + 10) (.inl (D.1 100, 169, .inl (fun _ => 0)))) r (.inr (8, [.int 0, .int 0, .int 0, .ref (r + 1), .ref (r + 2), .int 0, .int 0, .ref (r + 3), .ref (r + 4), .ref (r + 5), .ref (r + 6), .int 0, .int (nI 1), .ref (r + 7), .ref (r + 8), .int 0, .ref (r + 9), .ref (r + 10), .null, .null, .int 0, .int 0, .null, .null]))) rfl ?_
  generalize hg : xa_u (xa_u G9 (r + 10) (.inl (D.1 100, 169, .inl (fun _ => 0)))) r (.inr (8, [.int 0, .int 0, .int 0, .ref (r + 1), .ref (r + 2), .int 0, .int 0, .ref (r + 3), .ref (r + 4), .ref (r + 5), .ref (r + 6), .int 0, .int (nI 1), .ref (r + 7), .ref (r + 8), .int 0, .ref (r + 9), .ref (r + 10), .null, .null, .int 0, .int 0, .null, .null])) = G10
  have a10_0 : G10 r = some (.inr (8, [.int 0, .int 0, .int 0, .ref (r + 1), .ref (r + 2), .int 0, .int 0, .ref (r + 3), .ref (r + 4), .ref (r + 5), .ref (r + 6), .int 0, .int (nI 1), .ref (r + 7), .ref (r + 8), .int 0, .ref (r + 9), .ref (r + 10), .null, .null, .int 0, .int 0, .null, .null])) := by rw [← hg]; exact xa_u_eq _ _ _
  have b10_10 : G10 (r + 10) = some (.inl (D.1 100, 169, .inl (fun _ => 0))) := by rw [← hg]; exact xa_u_ne (xa_u_eq _ _ _) (by omega)
  have b10_9 : G10 (r + 9) = some (.inl (D.1 100, 169, .inl (fun _ => 0))) := by rw [← hg]; exact xa_u_ne (xa_u_ne b9_9 (by omega)) (by omega)
  have b10_8 : G10 (r + 8) = some (.inl (D.1 100, 169, .inl (fun _ => 0))) := by rw [← hg]; exact xa_u_ne (xa_u_ne b9_8 (by omega)) (by omega)
  have b10_7 : G10 (r + 7) = some (.inl (D.1 102, 169, .inl (fun _ => 0))) := by rw [← hg]; exact xa_u_ne (xa_u_ne b9_7 (by omega)) (by omega)
  have b10_6 : G10 (r + 6) = some (.inl (D.1 100, 1000, .inl (fun _ => 0))) := by rw [← hg]; exact xa_u_ne (xa_u_ne b9_6 (by omega)) (by omega)
  have b10_5 : G10 (r + 5) = some (.inl (D.1 100, 1000, .inl (fun _ => 0))) := by rw [← hg]; exact xa_u_ne (xa_u_ne b9_5 (by omega)) (by omega)
  have b10_4 : G10 (r + 4) = some (.inl (D.1 100, 1000, .inl (fun _ => 0))) := by rw [← hg]; exact xa_u_ne (xa_u_ne b9_4 (by omega)) (by omega)
  have b10_3 : G10 (r + 3) = some (.inl (D.1 104, 169169, .inl (fun _ => 0))) := by rw [← hg]; exact xa_u_ne (xa_u_ne b9_3 (by omega)) (by omega)
  have b10_2 : G10 (r + 2) = some (.inl (D.1 100, 169, .inl (fun _ => 0))) := by rw [← hg]; exact xa_u_ne (xa_u_ne b9_2 (by omega)) (by omega)
  have b10_1 : G10 (r + 1) = some (.inl (D.1 100, 169, .inl (fun _ => 0))) := by rw [← hg]; exact xa_u_ne (xa_u_ne b9_1 (by omega)) (by omega)
  have fr10 : ∀ q, q < r ∨ r + 15 ≤ q → G10 q = h q := fun q hq => by rw [← hg]; exact xa_u_ne (xa_u_ne (fr9 q hq) (by omega)) (by omega)
  clear hg b9_9 b9_8 b9_7 b9_6 b9_5 b9_4 b9_3 b9_2 b9_1 a9_0 fr9
  refine xa_aload_n d_Ref_init_98 rfl ?_
  refine xa_sipush (v := nI 170) d_Ref_init_99 (by decide) ?_
  refine xa_newZ (N := 170) d_Ref_init_102 rfl (by decide) (Nat.le_of_ble_eq_true rfl) (Nat.le_of_ble_eq_true rfl) ?_
  refine xa_putF f_Ref_47 rfl (fun q hq => by cases hq; rfl) d_Ref_init_104 (xa_u_ne a10_0 (by omega)) (Nat.le_of_ble_eq_true rfl) rfl rfl ?_
  refine xa_heap (h' := xa_u (xa_u G10 (r + 11) (.inl (D.1 102, 170, .inl (fun _ => 0)))) r (.inr (8, [.int 0, .int 0, .int 0, .ref (r + 1), .ref (r + 2), .int 0, .int 0, .ref (r + 3), .ref (r + 4), .ref (r + 5), .ref (r + 6), .int 0, .int (nI 1), .ref (r + 7), .ref (r + 8), .int 0, .ref (r + 9), .ref (r + 10), .ref (r + 11), .null, .int 0, .int 0, .null, .null]))) rfl ?_
  generalize hg : xa_u (xa_u G10 (r + 11) (.inl (D.1 102, 170, .inl (fun _ => 0)))) r (.inr (8, [.int 0, .int 0, .int 0, .ref (r + 1), .ref (r + 2), .int 0, .int 0, .ref (r + 3), .ref (r + 4), .ref (r + 5), .ref (r + 6), .int 0, .int (nI 1), .ref (r + 7), .ref (r + 8), .int 0, .ref (r + 9), .ref (r + 10), .ref (r + 11), .null, .int 0, .int 0, .null, .null])) = G11
  have a11_0 : G11 r = some (.inr (8, [.int 0, .int 0, .int 0, .ref (r + 1), .ref (r + 2), .int 0, .int 0, .ref (r + 3), .ref (r + 4), .ref (r + 5), .ref (r + 6), .int 0, .int (nI 1), .ref (r + 7), .ref (r + 8), .int 0, .ref (r + 9), .ref (r + 10), .ref (r + 11), .null, .int 0, .int 0, .null, .null])) := by rw [← hg]; exact xa_u_eq _ _ _
  have b11_11 : G11 (r + 11) = some (.inl (D.1 102, 170, .inl (fun _ => 0))) := by rw [← hg]; exact xa_u_ne (xa_u_eq _ _ _) (by omega)
  have b11_10 : G11 (r + 10) = some (.inl (D.1 100, 169, .inl (fun _ => 0))) := by rw [← hg]; exact xa_u_ne (xa_u_ne b10_10 (by omega)) (by omega)
  have b11_9 : G11 (r + 9) = some (.inl (D.1 100, 169, .inl (fun _ => 0))) := by rw [← hg]; exact xa_u_ne (xa_u_ne b10_9 (by omega)) (by omega)
  have b11_8 : G11 (r + 8) = some (.inl (D.1 100, 169, .inl (fun _ => 0))) := by rw [← hg]; exact xa_u_ne (xa_u_ne b10_8 (by omega)) (by omega)
  have b11_7 : G11 (r + 7) = some (.inl (D.1 102, 169, .inl (fun _ => 0))) := by rw [← hg]; exact xa_u_ne (xa_u_ne b10_7 (by omega)) (by omega)
  have b11_6 : G11 (r + 6) = some (.inl (D.1 100, 1000, .inl (fun _ => 0))) := by rw [← hg]; exact xa_u_ne (xa_u_ne b10_6 (by omega)) (by omega)
  have b11_5 : G11 (r + 5) = some (.inl (D.1 100, 1000, .inl (fun _ => 0))) := by rw [← hg]; exact xa_u_ne (xa_u_ne b10_5 (by omega)) (by omega)
  have b11_4 : G11 (r + 4) = some (.inl (D.1 100, 1000, .inl (fun _ => 0))) := by rw [← hg]; exact xa_u_ne (xa_u_ne b10_4 (by omega)) (by omega)
  have b11_3 : G11 (r + 3) = some (.inl (D.1 104, 169169, .inl (fun _ => 0))) := by rw [← hg]; exact xa_u_ne (xa_u_ne b10_3 (by omega)) (by omega)
  have b11_2 : G11 (r + 2) = some (.inl (D.1 100, 169, .inl (fun _ => 0))) := by rw [← hg]; exact xa_u_ne (xa_u_ne b10_2 (by omega)) (by omega)
  have b11_1 : G11 (r + 1) = some (.inl (D.1 100, 169, .inl (fun _ => 0))) := by rw [← hg]; exact xa_u_ne (xa_u_ne b10_1 (by omega)) (by omega)
  have fr11 : ∀ q, q < r ∨ r + 15 ≤ q → G11 q = h q := fun q hq => by rw [← hg]; exact xa_u_ne (xa_u_ne (fr10 q hq) (by omega)) (by omega)
  clear hg b10_10 b10_9 b10_8 b10_7 b10_6 b10_5 b10_4 b10_3 b10_2 b10_1 a10_0 fr10
  refine xa_aload_n d_Ref_init_107 rfl ?_
  refine xa_sipush (v := nI 170) d_Ref_init_108 (by decide) ?_
  refine xa_newZ (N := 170) d_Ref_init_111 rfl (by decide) (Nat.le_of_ble_eq_true rfl) (Nat.le_of_ble_eq_true rfl) ?_
  refine xa_putF f_Ref_50 rfl (fun q hq => by cases hq; rfl) d_Ref_init_113 (xa_u_ne a11_0 (by omega)) (Nat.le_of_ble_eq_true rfl) rfl rfl ?_
  refine xa_heap (h' := xa_u (xa_u G11 (r + 12) (.inl (D.1 102, 170, .inl (fun _ => 0)))) r (.inr (8, [.int 0, .int 0, .int 0, .ref (r + 1), .ref (r + 2), .int 0, .int 0, .ref (r + 3), .ref (r + 4), .ref (r + 5), .ref (r + 6), .int 0, .int (nI 1), .ref (r + 7), .ref (r + 8), .int 0, .ref (r + 9), .ref (r + 10), .ref (r + 11), .ref (r + 12), .int 0, .int 0, .null, .null]))) rfl ?_
  generalize hg : xa_u (xa_u G11 (r + 12) (.inl (D.1 102, 170, .inl (fun _ => 0)))) r (.inr (8, [.int 0, .int 0, .int 0, .ref (r + 1), .ref (r + 2), .int 0, .int 0, .ref (r + 3), .ref (r + 4), .ref (r + 5), .ref (r + 6), .int 0, .int (nI 1), .ref (r + 7), .ref (r + 8), .int 0, .ref (r + 9), .ref (r + 10), .ref (r + 11), .ref (r + 12), .int 0, .int 0, .null, .null])) = G12
  have a12_0 : G12 r = some (.inr (8, [.int 0, .int 0, .int 0, .ref (r + 1), .ref (r + 2), .int 0, .int 0, .ref (r + 3), .ref (r + 4), .ref (r + 5), .ref (r + 6), .int 0, .int (nI 1), .ref (r + 7), .ref (r + 8), .int 0, .ref (r + 9), .ref (r + 10), .ref (r + 11), .ref (r + 12), .int 0, .int 0, .null, .null])) := by rw [← hg]; exact xa_u_eq _ _ _
  have b12_12 : G12 (r + 12) = some (.inl (D.1 102, 170, .inl (fun _ => 0))) := by rw [← hg]; exact xa_u_ne (xa_u_eq _ _ _) (by omega)
  have b12_11 : G12 (r + 11) = some (.inl (D.1 102, 170, .inl (fun _ => 0))) := by rw [← hg]; exact xa_u_ne (xa_u_ne b11_11 (by omega)) (by omega)
  have b12_10 : G12 (r + 10) = some (.inl (D.1 100, 169, .inl (fun _ => 0))) := by rw [← hg]; exact xa_u_ne (xa_u_ne b11_10 (by omega)) (by omega)
  have b12_9 : G12 (r + 9) = some (.inl (D.1 100, 169, .inl (fun _ => 0))) := by rw [← hg]; exact xa_u_ne (xa_u_ne b11_9 (by omega)) (by omega)
  have b12_8 : G12 (r + 8) = some (.inl (D.1 100, 169, .inl (fun _ => 0))) := by rw [← hg]; exact xa_u_ne (xa_u_ne b11_8 (by omega)) (by omega)
  have b12_7 : G12 (r + 7) = some (.inl (D.1 102, 169, .inl (fun _ => 0))) := by rw [← hg]; exact xa_u_ne (xa_u_ne b11_7 (by omega)) (by omega)
  have b12_6 : G12 (r + 6) = some (.inl (D.1 100, 1000, .inl (fun _ => 0))) := by rw [← hg]; exact xa_u_ne (xa_u_ne b11_6 (by omega)) (by omega)
  have b12_5 : G12 (r + 5) = some (.inl (D.1 100, 1000, .inl (fun _ => 0))) := by rw [← hg]; exact xa_u_ne (xa_u_ne b11_5 (by omega)) (by omega)
  have b12_4 : G12 (r + 4) = some (.inl (D.1 100, 1000, .inl (fun _ => 0))) := by rw [← hg]; exact xa_u_ne (xa_u_ne b11_4 (by omega)) (by omega)
  have b12_3 : G12 (r + 3) = some (.inl (D.1 104, 169169, .inl (fun _ => 0))) := by rw [← hg]; exact xa_u_ne (xa_u_ne b11_3 (by omega)) (by omega)
  have b12_2 : G12 (r + 2) = some (.inl (D.1 100, 169, .inl (fun _ => 0))) := by rw [← hg]; exact xa_u_ne (xa_u_ne b11_2 (by omega)) (by omega)
  have b12_1 : G12 (r + 1) = some (.inl (D.1 100, 169, .inl (fun _ => 0))) := by rw [← hg]; exact xa_u_ne (xa_u_ne b11_1 (by omega)) (by omega)
  have fr12 : ∀ q, q < r ∨ r + 15 ≤ q → G12 q = h q := fun q hq => by rw [← hg]; exact xa_u_ne (xa_u_ne (fr11 q hq) (by omega)) (by omega)
  clear hg b11_11 b11_10 b11_9 b11_8 b11_7 b11_6 b11_5 b11_4 b11_3 b11_2 b11_1 a11_0 fr11
  refine xa_aload_n d_Ref_init_116 rfl ?_
  refine xa_sipush (v := nI 169) d_Ref_init_117 (by decide) ?_
  refine xa_newZ (N := 169) d_Ref_init_120 rfl (by decide) (Nat.le_of_ble_eq_true rfl) (Nat.le_of_ble_eq_true rfl) ?_
  refine xa_putF f_Ref_53 rfl (fun q hq => by cases hq; rfl) d_Ref_init_122 (xa_u_ne a12_0 (by omega)) (Nat.le_of_ble_eq_true rfl) rfl rfl ?_
  refine xa_heap (h' := xa_u (xa_u G12 (r + 13) (.inl (D.1 102, 169, .inl (fun _ => 0)))) r (.inr (8, [.int 0, .int 0, .int 0, .ref (r + 1), .ref (r + 2), .int 0, .int 0, .ref (r + 3), .ref (r + 4), .ref (r + 5), .ref (r + 6), .int 0, .int (nI 1), .ref (r + 7), .ref (r + 8), .int 0, .ref (r + 9), .ref (r + 10), .ref (r + 11), .ref (r + 12), .int 0, .int 0, .ref (r + 13), .null]))) rfl ?_
  generalize hg : xa_u (xa_u G12 (r + 13) (.inl (D.1 102, 169, .inl (fun _ => 0)))) r (.inr (8, [.int 0, .int 0, .int 0, .ref (r + 1), .ref (r + 2), .int 0, .int 0, .ref (r + 3), .ref (r + 4), .ref (r + 5), .ref (r + 6), .int 0, .int (nI 1), .ref (r + 7), .ref (r + 8), .int 0, .ref (r + 9), .ref (r + 10), .ref (r + 11), .ref (r + 12), .int 0, .int 0, .ref (r + 13), .null])) = G13
  have a13_0 : G13 r = some (.inr (8, [.int 0, .int 0, .int 0, .ref (r + 1), .ref (r + 2), .int 0, .int 0, .ref (r + 3), .ref (r + 4), .ref (r + 5), .ref (r + 6), .int 0, .int (nI 1), .ref (r + 7), .ref (r + 8), .int 0, .ref (r + 9), .ref (r + 10), .ref (r + 11), .ref (r + 12), .int 0, .int 0, .ref (r + 13), .null])) := by rw [← hg]; exact xa_u_eq _ _ _
  have b13_13 : G13 (r + 13) = some (.inl (D.1 102, 169, .inl (fun _ => 0))) := by rw [← hg]; exact xa_u_ne (xa_u_eq _ _ _) (by omega)
  have b13_12 : G13 (r + 12) = some (.inl (D.1 102, 170, .inl (fun _ => 0))) := by rw [← hg]; exact xa_u_ne (xa_u_ne b12_12 (by omega)) (by omega)
  have b13_11 : G13 (r + 11) = some (.inl (D.1 102, 170, .inl (fun _ => 0))) := by rw [← hg]; exact xa_u_ne (xa_u_ne b12_11 (by omega)) (by omega)
  have b13_10 : G13 (r + 10) = some (.inl (D.1 100, 169, .inl (fun _ => 0))) := by rw [← hg]; exact xa_u_ne (xa_u_ne b12_10 (by omega)) (by omega)
  have b13_9 : G13 (r + 9) = some (.inl (D.1 100, 169, .inl (fun _ => 0))) := by rw [← hg]; exact xa_u_ne (xa_u_ne b12_9 (by omega)) (by omega)
  have b13_8 : G13 (r + 8) = some (.inl (D.1 100, 169, .inl (fun _ => 0))) := by rw [← hg]; exact xa_u_ne (xa_u_ne b12_8 (by omega)) (by omega)
  have b13_7 : G13 (r + 7) = some (.inl (D.1 102, 169, .inl (fun _ => 0))) := by rw [← hg]; exact xa_u_ne (xa_u_ne b12_7 (by omega)) (by omega)
  have b13_6 : G13 (r + 6) = some (.inl (D.1 100, 1000, .inl (fun _ => 0))) := by rw [← hg]; exact xa_u_ne (xa_u_ne b12_6 (by omega)) (by omega)
  have b13_5 : G13 (r + 5) = some (.inl (D.1 100, 1000, .inl (fun _ => 0))) := by rw [← hg]; exact xa_u_ne (xa_u_ne b12_5 (by omega)) (by omega)
  have b13_4 : G13 (r + 4) = some (.inl (D.1 100, 1000, .inl (fun _ => 0))) := by rw [← hg]; exact xa_u_ne (xa_u_ne b12_4 (by omega)) (by omega)
  have b13_3 : G13 (r + 3) = some (.inl (D.1 104, 169169, .inl (fun _ => 0))) := by rw [← hg]; exact xa_u_ne (xa_u_ne b12_3 (by omega)) (by omega)
  have b13_2 : G13 (r + 2) = some (.inl (D.1 100, 169, .inl (fun _ => 0))) := by rw [← hg]; exact xa_u_ne (xa_u_ne b12_2 (by omega)) (by omega)
  have b13_1 : G13 (r + 1) = some (.inl (D.1 100, 169, .inl (fun _ => 0))) := by rw [← hg]; exact xa_u_ne (xa_u_ne b12_1 (by omega)) (by omega)
  have fr13 : ∀ q, q < r ∨ r + 15 ≤ q → G13 q = h q := fun q hq => by rw [← hg]; exact xa_u_ne (xa_u_ne (fr12 q hq) (by omega)) (by omega)
  clear hg b12_12 b12_11 b12_10 b12_9 b12_8 b12_7 b12_6 b12_5 b12_4 b12_3 b12_2 b12_1 a12_0 fr12
  refine xa_aload_n d_Ref_init_125 rfl ?_
  refine xa_sipush (v := nI 170) d_Ref_init_126 (by decide) ?_
  refine xa_newZ (N := 170) d_Ref_init_129 rfl (by decide) (Nat.le_of_ble_eq_true rfl) (Nat.le_of_ble_eq_true rfl) ?_
  refine xa_putF f_Ref_56 rfl (fun q hq => by cases hq; rfl) d_Ref_init_131 (xa_u_ne a13_0 (by omega)) (Nat.le_of_ble_eq_true rfl) rfl rfl ?_
  refine xa_heap (h' := xa_u (xa_u G13 (r + 14) (.inl (D.1 102, 170, .inl (fun _ => 0)))) r (.inr (8, [.int 0, .int 0, .int 0, .ref (r + 1), .ref (r + 2), .int 0, .int 0, .ref (r + 3), .ref (r + 4), .ref (r + 5), .ref (r + 6), .int 0, .int (nI 1), .ref (r + 7), .ref (r + 8), .int 0, .ref (r + 9), .ref (r + 10), .ref (r + 11), .ref (r + 12), .int 0, .int 0, .ref (r + 13), .ref (r + 14)]))) rfl ?_
  generalize hg : xa_u (xa_u G13 (r + 14) (.inl (D.1 102, 170, .inl (fun _ => 0)))) r (.inr (8, [.int 0, .int 0, .int 0, .ref (r + 1), .ref (r + 2), .int 0, .int 0, .ref (r + 3), .ref (r + 4), .ref (r + 5), .ref (r + 6), .int 0, .int (nI 1), .ref (r + 7), .ref (r + 8), .int 0, .ref (r + 9), .ref (r + 10), .ref (r + 11), .ref (r + 12), .int 0, .int 0, .ref (r + 13), .ref (r + 14)])) = G14
  have a14_0 : G14 r = some (.inr (8, [.int 0, .int 0, .int 0, .ref (r + 1), .ref (r + 2), .int 0, .int 0, .ref (r + 3), .ref (r + 4), .ref (r + 5), .ref (r + 6), .int 0, .int (nI 1), .ref (r + 7), .ref (r + 8), .int 0, .ref (r + 9), .ref (r + 10), .ref (r + 11), .ref (r + 12), .int 0, .int 0, .ref (r + 13), .ref (r + 14)])) := by rw [← hg]; exact xa_u_eq _ _ _
  have b14_14 : G14 (r + 14) = some (.inl (D.1 102, 170, .inl (fun _ => 0))) := by rw [← hg]; exact xa_u_ne (xa_u_eq _ _ _) (by omega)
  have b14_13 : G14 (r + 13) = some (.inl (D.1 102, 169, .inl (fun _ => 0))) := by rw [← hg]; exact xa_u_ne (xa_u_ne b13_13 (by omega)) (by omega)
  have b14_12 : G14 (r + 12) = some (.inl (D.1 102, 170, .inl (fun _ => 0))) := by rw [← hg]; exact xa_u_ne (xa_u_ne b13_12 (by omega)) (by omega)
  have b14_11 : G14 (r + 11) = some (.inl (D.1 102, 170, .inl (fun _ => 0))) := by rw [← hg]; exact xa_u_ne (xa_u_ne b13_11 (by omega)) (by omega)
  have b14_10 : G14 (r + 10) = some (.inl (D.1 100, 169, .inl (fun _ => 0))) := by rw [← hg]; exact xa_u_ne (xa_u_ne b13_10 (by omega)) (by omega)
  have b14_9 : G14 (r + 9) = some (.inl (D.1 100, 169, .inl (fun _ => 0))) := by rw [← hg]; exact xa_u_ne (xa_u_ne b13_9 (by omega)) (by omega)
  have b14_8 : G14 (r + 8) = some (.inl (D.1 100, 169, .inl (fun _ => 0))) := by rw [← hg]; exact xa_u_ne (xa_u_ne b13_8 (by omega)) (by omega)
  have b14_7 : G14 (r + 7) = some (.inl (D.1 102, 169, .inl (fun _ => 0))) := by rw [← hg]; exact xa_u_ne (xa_u_ne b13_7 (by omega)) (by omega)
  have b14_6 : G14 (r + 6) = some (.inl (D.1 100, 1000, .inl (fun _ => 0))) := by rw [← hg]; exact xa_u_ne (xa_u_ne b13_6 (by omega)) (by omega)
  have b14_5 : G14 (r + 5) = some (.inl (D.1 100, 1000, .inl (fun _ => 0))) := by rw [← hg]; exact xa_u_ne (xa_u_ne b13_5 (by omega)) (by omega)
  have b14_4 : G14 (r + 4) = some (.inl (D.1 100, 1000, .inl (fun _ => 0))) := by rw [← hg]; exact xa_u_ne (xa_u_ne b13_4 (by omega)) (by omega)
  have b14_3 : G14 (r + 3) = some (.inl (D.1 104, 169169, .inl (fun _ => 0))) := by rw [← hg]; exact xa_u_ne (xa_u_ne b13_3 (by omega)) (by omega)
  have b14_2 : G14 (r + 2) = some (.inl (D.1 100, 169, .inl (fun _ => 0))) := by rw [← hg]; exact xa_u_ne (xa_u_ne b13_2 (by omega)) (by omega)
  have b14_1 : G14 (r + 1) = some (.inl (D.1 100, 169, .inl (fun _ => 0))) := by rw [← hg]; exact xa_u_ne (xa_u_ne b13_1 (by omega)) (by omega)
  have fr14 : ∀ q, q < r ∨ r + 15 ≤ q → G14 q = h q := fun q hq => by rw [← hg]; exact xa_u_ne (xa_u_ne (fr13 q hq) (by omega)) (by omega)
  clear hg b13_13 b13_12 b13_11 b13_10 b13_9 b13_8 b13_7 b13_6 b13_5 b13_4 b13_3 b13_2 b13_1 a13_0 fr13
  have fin : xa_X l D H0 M_Ref_init (xa_rm 1 14 173862 20) (xa_Zr D H0 14 173862 (fun v h' sz' => v = none ∧ xR_S D h' r (gx_size v0) 1 (fun _ => 0) 0 (fun _ _ => 0) (fun _ => -2) (fun _ => 0) (fun _ => 0) 0 ∧ (∀ q, q < r ∨ r + 15 ≤ q → h' q = h q) ∧ sz' = r + 1 + 14)) 14 173862 G14 (r + 1 + 14) 156 [(0, .ref r)] [.int (nI (gx_size v0)), .ref r] := by
    refine xa_putF f_Ref_59 rfl (fun q hq => by cases hq; rfl) d_Ref_init_156 a14_0 (Nat.le_of_ble_eq_true rfl) rfl rfl ?_
    refine xa_heap (h' := xa_u G14 r (.inr (8, [.int 0, .int (nI (gx_size v0)), .int 0, .ref (r + 1), .ref (r + 2), .int 0, .int 0, .ref (r + 3), .ref (r + 4), .ref (r + 5), .ref (r + 6), .int 0, .int (nI 1), .ref (r + 7), .ref (r + 8), .int 0, .ref (r + 9), .ref (r + 10), .ref (r + 11), .ref (r + 12), .int 0, .int 0, .ref (r + 13), .ref (r + 14)]))) rfl ?_
    have q0 : xa_u G14 r (.inr (8, [.int 0, .int (nI (gx_size v0)), .int 0, .ref (r + 1), .ref (r + 2), .int 0, .int 0, .ref (r + 3), .ref (r + 4), .ref (r + 5), .ref (r + 6), .int 0, .int (nI 1), .ref (r + 7), .ref (r + 8), .int 0, .ref (r + 9), .ref (r + 10), .ref (r + 11), .ref (r + 12), .int 0, .int 0, .ref (r + 13), .ref (r + 14)])) r = some (.inr (8, [.int 0, .int (nI (gx_size v0)), .int 0, .ref (r + 1), .ref (r + 2), .int 0, .int 0, .ref (r + 3), .ref (r + 4), .ref (r + 5), .ref (r + 6), .int 0, .int (nI 1), .ref (r + 7), .ref (r + 8), .int 0, .ref (r + 9), .ref (r + 10), .ref (r + 11), .ref (r + 12), .int 0, .int 0, .ref (r + 13), .ref (r + 14)])) := xa_u_eq _ _ _
    refine xa_aload_n d_Ref_init_159 rfl ?_
    refine xa_aload_n d_Ref_init_160 rfl ?_
    refine xa_getf f_Ref_59 d_Ref_init_161 (by assumption) (by rfl) ?_
    refine xa_aload_n d_Ref_init_164 rfl ?_
    refine xa_getf f_Ref_59 d_Ref_init_165 (by assumption) (by rfl) ?_
    refine xa_imulN d_Ref_init_168 ?_
    refine xa_putF f_Ref_62 rfl (fun q hq => by cases hq; rfl) d_Ref_init_169 q0 (Nat.le_of_ble_eq_true rfl) rfl rfl ?_
    refine xa_heap (h' := xa_u G14 r (.inr (8, [.int 0, .int (nI (gx_size v0)), .int (nI ((gx_size v0) * (gx_size v0))), .ref (r + 1), .ref (r + 2), .int 0, .int 0, .ref (r + 3), .ref (r + 4), .ref (r + 5), .ref (r + 6), .int 0, .int (nI 1), .ref (r + 7), .ref (r + 8), .int 0, .ref (r + 9), .ref (r + 10), .ref (r + 11), .ref (r + 12), .int 0, .int 0, .ref (r + 13), .ref (r + 14)]))) (xa_uu _ _ _ _) ?_
    refine xa_return d_Ref_init_172 rfl (by decide) (by decide) ⟨rfl, ⟨fun i => if i = 4 then 1 else 0, _, _, _, _, _, ⟨xa_u_eq _ _ _, xa_u_ne b14_1 (by omega), xa_u_ne b14_3 (by omega), xa_u_ne b14_4 (by omega), xa_u_ne b14_5 (by omega), xa_u_ne b14_6 (by omega), _, _, _, _, _, _, _, _, _, xa_u_ne b14_2 (by omega), xa_u_ne b14_7 (by omega), xa_u_ne b14_8 (by omega), xa_u_ne b14_9 (by omega), xa_u_ne b14_10 (by omega), xa_u_ne b14_11 (by omega), xa_u_ne b14_12 (by omega), xa_u_ne b14_13 (by omega), xa_u_ne b14_14 (by omega)⟩, ⟨rfl, rfl, rfl⟩, fun q _ => rfl, fun i _ q _ => rfl, fun i hi => absurd hi (Nat.not_lt_zero _), fun i hi => absurd hi (Nat.not_lt_zero _), fun i hi => absurd hi (Nat.not_lt_zero _)⟩, fun q hq => xa_u_ne (fr14 q hq) (by omega), rfl⟩
  refine xa_aload_n d_Ref_init_134 rfl ?_
  refine xa_iload_n d_Ref_init_135 rfl ?_
  refine xa_iconst (v := nI 2) d_Ref_init_136 rfl ?_
  refine xa_icmp_ge (tgt := 144) d_Ref_init_137 (by decide) (fun hz => ?_) (fun hz => ?_)
  ·
    refine xa_iload_n d_Ref_init_144 rfl ?_
    refine xa_bipush (v := nI 13) d_Ref_init_145 (by decide) ?_
    refine xa_icmp_le (tgt := 155) d_Ref_init_147 (by decide) (fun hz2 => ?_) (fun hz2 => ?_)
    ·
      refine xa_iload_n d_Ref_init_155 rfl ?_
      refine xa_int (gx_size_c hz hz2) ?_
      exact xa_sl fin ⟨rfl, trivial⟩
    ·
      refine xa_bipush (v := nI 13) d_Ref_init_150 (by decide) ?_
      refine xa_goto (tgt := 156) d_Ref_init_152 (by decide) ?_
      refine xa_int (gx_size_b hz hz2) ?_
      exact xa_sl fin ⟨rfl, trivial⟩
  ·
    refine xa_iconst (v := nI 2) d_Ref_init_140 rfl ?_
    refine xa_goto (tgt := 156) d_Ref_init_141 (by decide) ?_
    refine xa_int (gx_size_a hz) ?_
    exact xa_sl fin ⟨rfl, trivial⟩
end RI0
