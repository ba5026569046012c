/-! Life(), StoneBoard(); the class's state. -/
theorem i32_lt (x y : Int32) : x < y ↔ x.toInt < y.toInt := Int32.lt_iff_toInt_lt
def gx_size (v : Int32) : Nat := if v < 2 then 2 else if 13 < v then 13 else v.toNatClampNeg
theorem gx_size_le (v : Int32) : 2 ≤ gx_size v ∧ gx_size v ≤ 13 := by
  unfold gx_size
  by_cases h1 : v < 2
  · rw [if_pos h1]; omega
  · rw [if_neg h1]
    by_cases h2 : 13 < v
    · rw [if_pos h2]; omega
    · rw [if_neg h2]
      obtain ⟨j, hj, rfl⟩ := nI_of (x := v) (fun h0 => h1 (by
        rw [i32_lt] at h0 ⊢
        have e0 : (0 : Int32).toInt = 0 := by decide
        have e2 : (2 : Int32).toInt = 2 := by decide
        omega))
      have g1 : ¬ nI j < nI 2 := h1
      have g2 : ¬ nI 13 < nI j := h2
      rw [nI_ltI hj (by decide)] at g1
      rw [nI_ltI (by decide) hj] at g2
      rw [nI_clamp hj]
      omega
theorem gx_size_eq (v : Int32) : (if nI 2 < (if v < nI 13 then v else nI 13) then (if v < nI 13 then v else nI 13) else nI 2) = nI (gx_size v) := by
  unfold gx_size
  by_cases h0 : v < 0
  · have e0 : (0 : Int32).toInt = 0 := by decide
    have e2 : (2 : Int32).toInt = 2 := by decide
    have e3 : (nI 13).toInt = 13 := by decide
    have e4 : (nI 2).toInt = 2 := by decide
    have h0' := (i32_lt _ _).mp h0
    rw [if_pos (show v < nI 13 by rw [i32_lt]; omega), if_neg (show ¬ nI 2 < v by rw [i32_lt]; omega), if_pos (show v < 2 by rw [i32_lt]; omega)]
  · obtain ⟨j, hj, rfl⟩ := nI_of h0
    have c2 : (nI j < 2) ↔ j < 2 := nI_ltI hj (by decide)
    have c3 : ((13 : Int32) < nI j) ↔ 13 < j := nI_ltI (by decide) hj
    have c4 : (nI j < nI 13) ↔ j < 13 := nI_ltI hj (by decide)
    have c5 : (nI 2 < nI j) ↔ 2 < j := nI_ltI (by decide) hj
    by_cases g1 : j < 13
    · rw [if_pos (c4.mpr g1)]
      by_cases g2 : 2 < j
      · rw [if_pos (c5.mpr g2), if_neg (fun z => by have := c2.mp z; omega), if_neg (fun z => by have := c3.mp z; omega), nI_clamp hj]
      · rw [if_neg (fun z => g2 (c5.mp z))]
        by_cases g3 : j < 2
        · rw [if_pos (c2.mpr g3)]
        · have : j = 2 := by omega
          subst this
          rfl
    · rw [if_neg (fun z => g1 (c4.mp z)), if_pos (by decide), if_neg (fun z => by have := c2.mp z; omega)]
      by_cases g3 : 13 < j
      · rw [if_pos (c3.mpr g3)]
      · have : j = 13 := by omega
        subst this
        rfl
/-- the class's state -/
def xS_S (D : va_G) (h : xa_H) (o T n fs : Nat) (b : Nat → Nat) (m : Nat) (bd : Nat → Nat → Nat) (pt : Nat → Int32) (tb tw : Nat → Nat) : Prop :=
  h o = some (.inr (0, [.int (nI n), .ref (o + 1), .ref (o + 3), .ref (o + 4), .ref (o + 13), .ref (o + 15), .ref (o + 19), .int (nI fs)])) ∧ xC_S D h n (o + 4) (o + 1) (o + 3) b ∧ xT_S D h (o + 13) (o + 1) (o + 3) (o + 4) (n * n) ∧ xh_S D h (o + 15) T (n * n) m bd pt tb tw ∧ xL_S D h (o + 19) (o + 1) (o + 3) (n * n)
section SI
variable {l : Launch} {D : va_G} {H0 : Heap} {h : xa_H} {sz : Nat} {R : Room}
theorem c_Life_init {N lf g aK : Nat} {v2 : Value} (hl : h lf = some (.inr (5, [.null, .null, .null, .null, .null, .null, .null]))) (hg : h g = some (.inr (3, [.int (nI N), v2]))) (hlt : g < lf) (hs : sz = lf + 1) (hN : N ≤ 169) :
    xa_M l D H0 M_Life_init 2 41 8 1696 [.ref lf, .ref g, .ref aK] h sz (fun v h' sz' => v = none ∧ xL_S D h' lf g aK N ∧ (∀ q, q < lf → h' q = h q) ∧ sz' = sz + 8) := by
  refine xa_enter (by decide) rfl rfl ?_
  subst hs
  refine xa_aload_n d_Life_init_0 rfl ?_
  refine xa_objInit k_Life_3 w_oi w_oc d_Life_init_1 (by decide) (by decide) ?_
  refine xa_aload_n d_Life_init_4 rfl ?_
  refine xa_aload_n d_Life_init_5 rfl ?_
  refine xa_putF f_Life_9 rfl (fun q hq => by cases hq; rfl) d_Life_init_6 hl (Nat.le_of_ble_eq_true rfl) rfl rfl ?_
  refine xa_aload_n d_Life_init_9 rfl ?_
  refine xa_aload_n d_Life_init_10 rfl ?_
  refine xa_putF f_Life_15 rfl (fun q hq => by cases hq; rfl) d_Life_init_11 (xa_u_eq _ _ _) (Nat.le_of_ble_eq_true rfl) rfl rfl ?_
  rw [xa_uu]
  refine xa_heap (h' := xa_u h lf (.inr (5, [.ref g, .ref aK, .null, .null, .null, .null, .null]))) rfl ?_
  refine xa_aload_n d_Life_init_14 rfl ?_
  refine xa_aload_n d_Life_init_15 rfl ?_
  refine xa_getf f_Life_19 d_Life_init_16 (xa_u_ne hg (by omega)) (by rfl) ?_
  refine xa_newI (N := N) d_Life_init_19 rfl (by omega) (Nat.le_of_ble_eq_true rfl) (show 0 + N ≤ 1696 by omega) ?_
  refine xa_putF f_Life_25 rfl (fun q hq => by cases hq; rfl) d_Life_init_21 (xa_u_ne (xa_u_eq _ _ _) (by omega)) (Nat.le_of_ble_eq_true rfl) rfl rfl ?_
  refine xa_heap (h' := xa_u (xa_u h (lf + 1) (.inl (D.1 100, N, .inl (fun _ => 0)))) lf (.inr (5, [.ref g, .ref aK, .ref (lf + 1), .null, .null, .null, .null]))) (by show xa_u (xa_u (xa_u h lf _) (lf + 1) _) lf _ = _; rw [xa_uc _ (by omega), xa_sw _ (show lf ≠ lf + 1 by omega)]; rfl) ?_
  refine xa_aload_n d_Life_init_24 rfl ?_
  refine xa_new n_Life_28 d_Life_init_25 (Nat.le_of_ble_eq_true rfl) (show 0 + N + 5 ≤ 1696 by omega) ?_
  refine xa_dup d_Life_init_28 rfl ?_
  refine xa_aload_n d_Life_init_29 rfl ?_
  refine xa_callIr (As := [.ref g]) (st := [.ref (lf + 1 + 1), .ref lf]) d_Life_init_30 k_Life_30 (c_Areas_init (N := N) (xa_u_eq _ _ _) (xa_u_ne (xa_u_ne (xa_u_ne hg (by omega)) (by omega)) (by omega)) (by omega) rfl hN) rfl rfl (Nat.le_of_ble_eq_true rfl) ⟨by decide, by decide⟩ (Nat.le_of_ble_eq_true rfl) (show 0 + N + 5 + 508 ≤ 1696 by omega) ?_
  generalize hg0 : xt_h D (xa_u (xa_u (xa_u h (lf + 1) (.inl (D.1 100, N, .inl (fun _ => 0)))) lf (.inr (5, [.ref g, .ref aK, .ref (lf + 1), .null, .null, .null, .null]))) (lf + 1 + 1) (.inr (1, [.int 0, .null, .null, .null, .null]))) (lf + 1 + 1) g (lf + 1 + 1 + 1) (lf + 1 + 1 + 2) (lf + 1 + 1 + 3) N 0 (fun _ => 0) (fun _ => 0) (fun _ => 0) = G
  have a0 : G lf = some (.inr (5, [.ref g, .ref aK, .ref (lf + 1), .null, .null, .null, .null])) := by rw [← hg0]; exact xt_hn (xa_u_ne (xa_u_eq _ _ _) (by omega)) (by omega) (by omega) (by omega) (by omega)
  have b1 : G (lf + 1) = some (.inl (D.1 100, N, .inl (fun _ => 0))) := by rw [← hg0]; exact xt_hn (xa_u_ne (xa_u_ne (xa_u_eq _ _ _) (by omega)) (by omega)) (by omega) (by omega) (by omega) (by omega)
  have a1 : G (lf + 2) = some (.inr (1, [.int (nI 0), .ref g, .ref (lf + 3), .ref (lf + 4), .ref (lf + 5)])) := by rw [← hg0]; exact xt_ha
  have a2 : G (lf + 3) = some (.inl (D.1 100, N, .inl (fun _ => 0))) := by rw [← hg0]; exact xt_hA (by omega) (by omega) (by omega)
  have a3 : G (lf + 4) = some (.inl (D.1 100, N, .inl (fun _ => 0))) := by rw [← hg0]; exact xt_hO (by omega) (by omega)
  have a4 : G (lf + 5) = some (.inl (D.1 100, N + 1, .inl (fun _ => 0))) := by rw [← hg0]; exact xt_hS (by omega)
  have a5 : ∀ q, q < lf → G q = h q := fun q hq => by rw [← hg0]; exact xt_hn (xa_u_ne (xa_u_ne (xa_u_ne rfl (by omega)) (by omega)) (by omega)) (by omega) (by omega) (by omega) (by omega)
  have a6 : G g = some (.inr (3, [.int (nI N), v2])) := by rw [a5 g (by omega)]; exact hg
  refine xa_putF f_Life_33 rfl (fun q hq => by cases hq; rfl) d_Life_init_33 a0 (Nat.le_of_ble_eq_true rfl) rfl rfl ?_
  refine xa_heap (h' := xa_u G lf (.inr (5, [.ref g, .ref aK, .ref (lf + 1), .ref (lf + 2), .null, .null, .null]))) rfl ?_
  refine xa_aload_n d_Life_init_36 rfl ?_
  refine xa_aload_n d_Life_init_37 rfl ?_
  refine xa_getf f_Life_19 d_Life_init_38 (xa_u_ne a6 (by omega)) (by rfl) ?_
  refine xa_newZ (N := N) d_Life_init_41 rfl (by omega) (Nat.le_of_ble_eq_true rfl) (show 0 + N + 5 + 508 + N ≤ 1696 by omega) ?_
  refine xa_putF f_Life_37 rfl (fun q hq => by cases hq; rfl) d_Life_init_43 (xa_u_ne (xa_u_eq _ _ _) (by omega)) (Nat.le_of_ble_eq_true rfl) rfl rfl ?_
  refine xa_heap (h' := xa_u (xa_u G (lf + 6) (.inl (D.1 102, N, .inl (fun _ => 0)))) lf (.inr (5, [.ref g, .ref aK, .ref (lf + 1), .ref (lf + 2), .ref (lf + 6), .null, .null]))) (by show xa_u (xa_u (xa_u G lf _) (lf + 6) _) lf _ = _; rw [xa_uc _ (by omega), xa_sw _ (show lf ≠ lf + 6 by omega)]; rfl) ?_
  refine xa_aload_n d_Life_init_46 rfl ?_
  refine xa_iconst (v := nI 4) d_Life_init_47 rfl ?_
  refine xa_aload_n d_Life_init_48 rfl ?_
  refine xa_getf f_Life_19 d_Life_init_49 (xa_u_ne (xa_u_ne a6 (by omega)) (by omega)) (by rfl) ?_
  refine xa_imulN d_Life_init_52 ?_
  refine xa_newI (N := 4 * N) d_Life_init_53 rfl (by omega) (Nat.le_of_ble_eq_true rfl) (show 0 + N + 5 + 508 + N + 4 * N ≤ 1696 by omega) ?_
  refine xa_putF f_Life_41 rfl (fun q hq => by cases hq; rfl) d_Life_init_55 (xa_u_ne (xa_u_eq _ _ _) (by omega)) (Nat.le_of_ble_eq_true rfl) rfl rfl ?_
  refine xa_heap (h' := xa_u (xa_u (xa_u G (lf + 6) (.inl (D.1 102, N, .inl (fun _ => 0)))) (lf + 7) (.inl (D.1 100, 4 * N, .inl (fun _ => 0)))) lf (.inr (5, [.ref g, .ref aK, .ref (lf + 1), .ref (lf + 2), .ref (lf + 6), .ref (lf + 7), .null]))) (by show xa_u (xa_u (xa_u (xa_u G (lf + 6) _) lf _) (lf + 7) _) lf _ = _; rw [xa_uc _ (by omega), xa_sw _ (show lf ≠ lf + 7 by omega)]; rfl) ?_
  refine xa_aload_n d_Life_init_58 rfl ?_
  refine xa_aload_n d_Life_init_59 rfl ?_
  refine xa_getf f_Life_19 d_Life_init_60 (xa_u_ne (xa_u_ne (xa_u_ne a6 (by omega)) (by omega)) (by omega)) (by rfl) ?_
  refine xa_newI (N := N) d_Life_init_63 rfl (by omega) (Nat.le_of_ble_eq_true rfl) (show 0 + N + 5 + 508 + N + 4 * N + N ≤ 1696 by omega) ?_
  refine xa_putF f_Life_44 rfl (fun q hq => by cases hq; rfl) d_Life_init_65 (xa_u_ne (xa_u_eq _ _ _) (by omega)) (Nat.le_of_ble_eq_true rfl) rfl rfl ?_
  refine xa_heap (h' := xa_u (xa_u (xa_u (xa_u G (lf + 6) (.inl (D.1 102, N, .inl (fun _ => 0)))) (lf + 7) (.inl (D.1 100, 4 * N, .inl (fun _ => 0)))) (lf + 8) (.inl (D.1 100, N, .inl (fun _ => 0)))) lf (.inr (5, [.ref g, .ref aK, .ref (lf + 1), .ref (lf + 2), .ref (lf + 6), .ref (lf + 7), .ref (lf + 8)]))) (by show xa_u (xa_u (xa_u (xa_u (xa_u G (lf + 6) _) (lf + 7) _) lf _) (lf + 8) _) lf _ = _; rw [xa_uc _ (by omega), xa_sw _ (show lf ≠ lf + 8 by omega)]; rfl) ?_
  have fr : ∀ (E : va_E) (q : Nat), q ≠ lf → (q < lf + 6 ∨ lf + 9 ≤ q) → xa_u (xa_u (xa_u (xa_u G (lf + 6) (.inl (D.1 102, N, .inl (fun _ => 0)))) (lf + 7) (.inl (D.1 100, 4 * N, .inl (fun _ => 0)))) (lf + 8) (.inl (D.1 100, N, .inl (fun _ => 0)))) lf E q = G q := fun E q h1 h2 => xa_u_ne (xa_u_ne (xa_u_ne (xa_u_ne rfl (by omega)) (by omega)) (by omega)) h1
  refine xa_return d_Life_init_68 rfl (Nat.le_of_ble_eq_true rfl) (show 0 + N + 5 + 508 + N + 4 * N + N ≤ 1696 by omega) ⟨rfl, ?_, fun q hq => by rw [fr _ q (by omega) (by omega), a5 q hq], rfl⟩
  refine ⟨0, fun _ => 0, fun _ => 0, fun _ => 0, fun _ => 0, fun _ => 0, fun _ => 0, fun _ => 0, xa_u_eq _ _ _, ?_, ?_, ?_, ?_, ?_, ?_, ?_, ?_⟩
  · rw [fr _ _ (by omega) (by omega)]; exact b1
  · rw [fr _ _ (by omega) (by omega)]; exact a1
  · rw [fr _ _ (by omega) (by omega)]; exact a2
  · rw [fr _ _ (by omega) (by omega)]; exact a3
  · rw [fr _ _ (by omega) (by omega)]; exact a4
  · exact xa_u_ne (xa_u_ne (xa_u_ne (xa_u_eq _ _ _) (by omega)) (by omega)) (by omega)
  · exact xa_u_ne (xa_u_ne (xa_u_eq _ _ _) (by omega)) (by omega)
  · exact xa_u_ne (xa_u_eq _ _ _) (by omega)
theorem c_SB_init {o T : Nat} {v0 : Int32} (ho : h o = some (.inr (0, [.int 0, .null, .null, .null, .null, .null, .null, .int 0]))) (hs : sz = o + 1) :
    xa_M l D H0 M_SB_init 5 115 27 3901 [.ref o, .int v0] h sz (fun v h' sz' => v = none ∧ xS_S D h' o T (gx_size v0) 1 (fun _ => 0) 0 (fun _ _ => 0) (fun _ => -2) (fun _ => 0) (fun _ => 0) ∧ (∀ q, q < o → h' q = h q) ∧ sz' = sz + 27) := by
  have hn := gx_size_le v0
  have hsz := gx_size_eq v0
  generalize gx_size v0 = n at hn hsz
  have hN : n * n ≤ 169 := Nat.mul_le_mul hn.2 hn.2
  refine xa_enter (by decide) rfl rfl ?_
  subst hs
  refine xa_aload_n d_SB_init_0 rfl ?_
  refine xa_objInit k_SB_1 w_oi w_oc d_SB_init_1 (by decide) (by decide) ?_
  refine xa_iconst (v := nI 2) d_SB_init_4 rfl ?_
  refine xa_bipush (v := nI 13) d_SB_init_5 (by decide) ?_
  refine xa_iload_n d_SB_init_7 rfl ?_
  refine xa_min k_SB_9 d_SB_init_8 (by decide) (Nat.le_of_ble_eq_true rfl) (Nat.le_of_ble_eq_true rfl) (Nat.le_of_ble_eq_true rfl) ?_
  refine xa_max k_SB_15 d_SB_init_11 (by decide) (Nat.le_of_ble_eq_true rfl) (Nat.le_of_ble_eq_true rfl) (Nat.le_of_ble_eq_true rfl) ?_
  refine xa_int hsz ?_
  refine xa_istore_n d_SB_init_14 rfl rfl ?_
  refine xa_new n_SB_18 d_SB_init_15 (Nat.le_of_ble_eq_true rfl) (Nat.le_of_ble_eq_true rfl) ?_
  refine xa_dup d_SB_init_18 rfl ?_
  refine xa_iload_n d_SB_init_19 rfl ?_
  refine xa_callI (As := [.int (nI n)]) (st := [.ref (o + 1)]) d_SB_init_20 k_SB_20 (c_Grid_init hn (xa_u_eq _ _ _) rfl) rfl rfl (Nat.le_of_ble_eq_true rfl) ⟨by decide, by decide⟩ (Nat.le_of_ble_eq_true rfl) (Nat.le_of_ble_eq_true rfl) (fun v h' sz' hq => ?_)
  obtain ⟨f, hf, e1, e2, e3⟩ := hq
  rw [e1, e2, e3]
  generalize hg1 : xg_h D (xa_u h (o + 1) (.inr (3, [.int 0, .null]))) (o + 1) (n * n) f = G1
  have a1 : G1 (o + 1) = some (.inr (3, [.int (nI (n * n)), .ref (o + 2)])) := by rw [← hg1]; exact xa_u_ne (xa_u_eq _ _ _) (by omega)
  have a2 : G1 (o + 2) = some (.inl (D.1 100, 4 * (n * n), .inl f)) := by rw [← hg1]; exact xa_u_eq _ _ _
  have a3 : ∀ q, q < o + 1 → G1 q = h q := fun q hq => by rw [← hg1]; exact xa_u_ne (xa_u_ne (xa_u_ne rfl (by omega)) (by omega)) (by omega)
  have a4 : G1 o = some (.inr (0, [.int 0, .null, .null, .null, .null, .null, .null, .int 0])) := by rw [a3 o (by omega)]; exact ho
  refine xa_astore_n d_SB_init_23 rfl rfl ?_
  refine xa_aload_n d_SB_init_24 rfl ?_
  refine xa_getf f_SB_23 d_SB_init_25 (by assumption) (by rfl) ?_
  refine xa_newI (N := n * n) d_SB_init_28 rfl (by omega) (Nat.le_of_ble_eq_true rfl) (show 0 + 2 + 676 + n * n ≤ 3901 by omega) ?_
  refine xa_astore d_SB_init_30 rfl rfl ?_
  refine xa_aload_n d_SB_init_32 rfl ?_
  refine xa_iload_n d_SB_init_33 rfl ?_
  refine xa_putF f_SB_27 rfl (fun q hq => by cases hq; rfl) d_SB_init_34 (xa_u_ne a4 (by omega)) (Nat.le_of_ble_eq_true rfl) rfl rfl ?_
  refine xa_aload_n d_SB_init_37 rfl ?_
  refine xa_aload_n d_SB_init_38 rfl ?_
  refine xa_putF f_SB_30 rfl (fun q hq => by cases hq; rfl) d_SB_init_39 (xa_u_eq _ _ _) (Nat.le_of_ble_eq_true rfl) rfl rfl ?_
  rw [xa_uu]
  refine xa_aload_n d_SB_init_42 rfl ?_
  refine xa_aload d_SB_init_43 rfl ?_
  refine xa_putF f_SB_34 rfl (fun q hq => by cases hq; rfl) d_SB_init_45 (xa_u_eq _ _ _) (Nat.le_of_ble_eq_true rfl) rfl rfl ?_
  rw [xa_uu]
  refine xa_heap (h' := xa_u (xa_u G1 (o + 3) (.inl (D.1 100, n * n, .inl (fun q => nI ((fun _ => 0) q))))) o (.inr (0, [.int (nI n), .ref (o + 1), .ref (o + 3), .null, .null, .null, .null, .int 0]))) rfl ?_
  refine xa_aload_n d_SB_init_48 rfl ?_
  refine xa_new n_SB_38 d_SB_init_49 (Nat.le_of_ble_eq_true rfl) (show 0 + 2 + 676 + n * n + 7 ≤ 3901 by omega) ?_
  refine xa_dup d_SB_init_52 rfl ?_
  refine xa_aload_n d_SB_init_53 rfl ?_
  refine xa_aload d_SB_init_54 rfl ?_
  generalize hg2 : xa_u (xa_u (xa_u G1 (o + 3) (.inl (D.1 100, n * n, .inl (fun q => nI ((fun _ => 0) q))))) o (.inr (0, [.int (nI n), .ref (o + 1), .ref (o + 3), .null, .null, .null, .null, .int 0]))) (o + 1 + 1 + 1 + 1) (.inr (2, [.null, .null, .null, .null, .null, .null, .null])) = G2
  have b0 : G2 o = some (.inr (0, [.int (nI n), .ref (o + 1), .ref (o + 3), .null, .null, .null, .null, .int 0])) := by rw [← hg2]; exact xa_u_ne (xa_u_eq _ _ _) (by omega)
  have b1 : G2 (o + 1) = some (.inr (3, [.int (nI (n * n)), .ref (o + 2)])) := by rw [← hg2]; exact xa_u_ne (xa_u_ne (xa_u_ne a1 (by omega)) (by omega)) (by omega)
  have b2 : G2 (o + 2) = some (.inl (D.1 100, 4 * (n * n), .inl f)) := by rw [← hg2]; exact xa_u_ne (xa_u_ne (xa_u_ne a2 (by omega)) (by omega)) (by omega)
  have b3 : G2 (o + 3) = some (.inl (D.1 100, n * n, .inl (fun q => nI ((fun _ => 0) q)))) := by rw [← hg2]; exact xa_u_ne (xa_u_ne (xa_u_eq _ _ _) (by omega)) (by omega)
  have b4 : G2 (o + 4) = some (.inr (2, [.null, .null, .null, .null, .null, .null, .null])) := by rw [← hg2]; exact xa_u_eq _ _ _
  have b5 : ∀ q, q < o → G2 q = h q := fun q hq => by rw [← hg2, ← a3 q (by omega)]; exact xa_u_ne (xa_u_ne (xa_u_ne rfl (by omega)) (by omega)) (by omega)
  refine xa_callI (As := [.ref (o + 1), .ref (o + 3)]) (st := [.ref (o + 4), .ref o]) d_SB_init_56 k_SB_40 (c_Chart_init (n := n) (g := o + 1) (aK := o + 3) (f := f) (b := fun _ => 0) b4 b1 b2 b3 (by omega) hN hf (fun _ _ => by omega) rfl) rfl rfl (Nat.le_of_ble_eq_true rfl) ⟨by decide, by decide⟩ (Nat.le_of_ble_eq_true rfl) (show 0 + 2 + 676 + n * n + 7 + 1189 ≤ 3901 by omega) (fun v h' sz' hq => ?_)
  obtain ⟨e1, hC, hfr, e3⟩ := hq
  rw [e1, e3]
  refine xa_putF f_SB_43 rfl (fun q hq => by cases hq; rfl) d_SB_init_59 (by rw [hfr o (by omega)]; exact b0) (Nat.le_of_ble_eq_true rfl) rfl rfl ?_
  have c0 : xa_u h' o (.inr (0, [.int (nI n), .ref (o + 1), .ref (o + 3), .ref (o + 4), .null, .null, .null, .int 0])) o = some (.inr (0, [.int (nI n), .ref (o + 1), .ref (o + 3), .ref (o + 4), .null, .null, .null, .int 0])) := xa_u_eq _ _ _
  refine xa_heap (h' := xa_u h' o (.inr (0, [.int (nI n), .ref (o + 1), .ref (o + 3), .ref (o + 4), .null, .null, .null, .int 0]))) rfl ?_
  refine xa_aload_n d_SB_init_62 rfl ?_
  refine xa_new n_SB_47 d_SB_init_63 (Nat.le_of_ble_eq_true rfl) (show 0 + 2 + 676 + n * n + 7 + 1189 + 6 ≤ 3901 by omega) ?_
  refine xa_dup d_SB_init_66 rfl ?_
  refine xa_aload_n d_SB_init_67 rfl ?_
  refine xa_aload d_SB_init_68 rfl ?_
  refine xa_aload_n d_SB_init_70 rfl ?_
  refine xa_getf f_SB_43 d_SB_init_71 (xa_u_ne c0 (by omega)) (by rfl) ?_
  generalize hg3 : xa_u (xa_u h' o (.inr (0, [.int (nI n), .ref (o + 1), .ref (o + 3), .ref (o + 4), .null, .null, .null, .int 0]))) (o + 1 + 1 + 1 + 1 + 1 + 8) (.inr (7, [.null, .int 0, .int 0, .null, .null, .null])) = G3
  have c1 : G3 o = some (.inr (0, [.int (nI n), .ref (o + 1), .ref (o + 3), .ref (o + 4), .null, .null, .null, .int 0])) := by rw [← hg3]; exact xa_u_ne c0 (by omega)
  have c2 : ∀ q, q ≠ o → q < o + 13 → G3 q = h' q := fun q h1 h2 => by rw [← hg3]; exact xa_u_ne (xa_u_ne rfl h1) (by omega)
  have c3 : G3 (o + 1) = some (.inr (3, [.int (nI (n * n)), .ref (o + 2)])) := by rw [c2 _ (by omega) (by omega), hfr _ (by omega)]; exact b1
  have c4 : xC_S D G3 n (o + 4) (o + 1) (o + 3) (fun _ => 0) := hC.frame (fun q hq => c2 q (by omega) (by omega))
  have c5 : ∀ q, q < o → G3 q = h q := fun q hq => by rw [c2 q (by omega) (by omega), hfr q (by omega), b5 q hq]
  refine xa_callI (As := [.ref (o + 1), .ref (o + 3), .ref (o + 4)]) (st := [.ref (o + 13), .ref o]) d_SB_init_74 k_SB_49 (c_Trial_init (N := n * n) (tr := o + 13) (g := o + 1) (aK := o + 3) (ch := o + 4) (by rw [← hg3]; exact xa_u_eq _ _ _) c3 (by omega) rfl hN) rfl rfl (Nat.le_of_ble_eq_true rfl) ⟨by decide, by decide⟩ (Nat.le_of_ble_eq_true rfl) (show 0 + 2 + 676 + n * n + 7 + 1189 + 6 + 6 ≤ 3901 by omega) (fun v h4 sz4 hq => ?_)
  obtain ⟨e1, hT, hfr4, e3⟩ := hq
  rw [e1, e3]
  refine xa_putF f_SB_52 rfl (fun q hq => by cases hq; rfl) d_SB_init_77 (by rw [hfr4 o (by omega)]; exact c1) (Nat.le_of_ble_eq_true rfl) rfl rfl ?_
  refine xa_heap (h' := xa_u h4 o (.inr (0, [.int (nI n), .ref (o + 1), .ref (o + 3), .ref (o + 4), .ref (o + 13), .null, .null, .int 0]))) rfl ?_
  refine xa_aload_n d_SB_init_80 rfl ?_
  refine xa_new n_SB_56 d_SB_init_81 (Nat.le_of_ble_eq_true rfl) (show 0 + 2 + 676 + n * n + 7 + 1189 + 6 + 6 + 2 ≤ 3901 by omega) ?_
  generalize hg5 : xa_u (xa_u h4 o (.inr (0, [.int (nI n), .ref (o + 1), .ref (o + 3), .ref (o + 4), .ref (o + 13), .null, .null, .int 0]))) (o + 1 + 1 + 1 + 1 + 1 + 8 + 1 + 1) (.inr (4, [.null, .null])) = G5
  have d1 : G5 o = some (.inr (0, [.int (nI n), .ref (o + 1), .ref (o + 3), .ref (o + 4), .ref (o + 13), .null, .null, .int 0])) := by rw [← hg5]; exact xa_u_ne (xa_u_eq _ _ _) (by omega)
  have d2 : ∀ q, q ≠ o → q < o + 15 → G5 q = h4 q := fun q h1 h2 => by rw [← hg5]; exact xa_u_ne (xa_u_ne rfl h1) (by omega)
  have d3 : G5 (o + 1) = some (.inr (3, [.int (nI (n * n)), .ref (o + 2)])) := by rw [d2 _ (by omega) (by omega), hfr4 _ (by omega)]; exact c3
  have d4 : xC_S D G5 n (o + 4) (o + 1) (o + 3) (fun _ => 0) := c4.frame (fun q hq => by rw [d2 q (by omega) (by omega), hfr4 q (by omega)])
  have d6 : xT_S D G5 (o + 13) (o + 1) (o + 3) (o + 4) (n * n) := by
    obtain ⟨V, k, ls, t1, t2⟩ := hT
    exact ⟨V, k, ls, by rw [d2 _ (by omega) (by omega)]; exact t1, by rw [d2 _ (by omega) (by omega)]; exact t2⟩
  have d5 : ∀ q, q < o → G5 q = h q := fun q hq => by rw [d2 q (by omega) (by omega), hfr4 q (by omega), c5 q hq]
  refine xa_dup d_SB_init_84 rfl ?_
  refine xa_aload_n d_SB_init_85 rfl ?_
  refine xa_getf f_SB_23 d_SB_init_86 (by assumption) (by rfl) ?_
  refine xa_callI (As := [.int (nI (n * n))]) (st := [.ref (o + 15), .ref o]) d_SB_init_89 k_SB_58 (c_History_init (T := T) (hi := o + 15) (by rw [← hg5]; exact xa_u_eq _ _ _) rfl hN) rfl rfl (Nat.le_of_ble_eq_true rfl) ⟨by decide, by decide⟩ (Nat.le_of_ble_eq_true rfl) (show 0 + 2 + 676 + n * n + 7 + 1189 + 6 + 6 + 2 + 141 ≤ 3901 by omega) (fun v h6 sz6 hq => ?_)
  obtain ⟨e1, hH, hfr6, e3⟩ := hq
  rw [e1, e3]
  refine xa_pre (fun hp1 hp2 => ?_)
  refine xa_putF f_SB_59 rfl (fun q hq => by cases hq; rfl) d_SB_init_92 (by rw [hfr6 o (by omega)]; exact d1) (Nat.le_of_ble_eq_true rfl) rfl rfl ?_
  refine xa_heap (h' := xa_u h6 o (.inr (0, [.int (nI n), .ref (o + 1), .ref (o + 3), .ref (o + 4), .ref (o + 13), .ref (o + 15), .null, .int 0]))) rfl ?_
  refine xa_aload_n d_SB_init_95 rfl ?_
  refine xa_new n_SB_63 d_SB_init_96 (Nat.le_of_ble_eq_true rfl) (show 0 + 2 + 676 + n * n + 7 + 1189 + 6 + 6 + 2 + 141 + 7 ≤ 3901 by omega) ?_
  refine xa_dup d_SB_init_99 rfl ?_
  refine xa_aload_n d_SB_init_100 rfl ?_
  refine xa_aload d_SB_init_101 rfl ?_
  generalize hg7 : xa_u (xa_u h6 o (.inr (0, [.int (nI n), .ref (o + 1), .ref (o + 3), .ref (o + 4), .ref (o + 13), .ref (o + 15), .null, .int 0]))) (o + 1 + 1 + 1 + 1 + 1 + 8 + 1 + 1 + 1 + 3) (.inr (5, [.null, .null, .null, .null, .null, .null, .null])) = G7
  have g1 : G7 o = some (.inr (0, [.int (nI n), .ref (o + 1), .ref (o + 3), .ref (o + 4), .ref (o + 13), .ref (o + 15), .null, .int 0])) := by rw [← hg7]; exact xa_u_ne (xa_u_eq _ _ _) (by omega)
  have g2 : ∀ q, q ≠ o → q ≠ o + 19 → G7 q = h6 q := fun q h1 h2 => by rw [← hg7]; exact xa_u_ne (xa_u_ne rfl h1) (by omega)
  have g3 : G7 (o + 1) = some (.inr (3, [.int (nI (n * n)), .ref (o + 2)])) := by rw [g2 _ (by omega) (by omega), hfr6 _ (by omega)]; exact d3
  refine xa_callI (As := [.ref (o + 1), .ref (o + 3)]) (st := [.ref (o + 19), .ref o]) d_SB_init_103 k_SB_65 (c_Life_init (N := n * n) (lf := o + 19) (g := o + 1) (aK := o + 3) (by rw [← hg7]; exact xa_u_eq _ _ _) g3 (by omega) rfl hN) rfl rfl (Nat.le_of_ble_eq_true rfl) ⟨by decide, by decide⟩ (Nat.le_of_ble_eq_true rfl) (show 0 + 2 + 676 + n * n + 7 + 1189 + 6 + 6 + 2 + 141 + 7 + 1696 ≤ 3901 by omega) (fun v h8 sz8 hq => ?_)
  obtain ⟨e1, hL, hfr8, e3⟩ := hq
  rw [e1, e3]
  refine xa_putF f_SB_66 rfl (fun q hq => by cases hq; rfl) d_SB_init_106 (by rw [hfr8 o (by omega)]; exact g1) (Nat.le_of_ble_eq_true rfl) rfl rfl ?_
  refine xa_aload_n d_SB_init_109 rfl ?_
  refine xa_iconst (v := nI 1) d_SB_init_110 rfl ?_
  refine xa_putf f_SB_70 d_SB_init_111 (xa_u_eq _ _ _) (Nat.le_of_ble_eq_true rfl) rfl rfl ?_
  rw [xa_uu]
  have m1 : ∀ (E : va_E) (q : Nat), q ≠ o → xa_u h8 o E q = h8 q := fun E q hq => xa_u_ne rfl hq
  have m2 : ∀ (E : va_E) (q : Nat), q ≠ o → q < o + 19 → xa_u h8 o E q = h6 q := fun E q h1 h2 => by rw [m1 E q h1, hfr8 q h2, g2 q h1 (by omega)]
  have m3 : ∀ (E : va_E) (q : Nat), q ≠ o → q < o + 15 → xa_u h8 o E q = G5 q := fun E q h1 h2 => by rw [m2 E q h1 (by omega), hfr6 q h2]
  refine xa_return d_SB_init_114 rfl (Nat.le_of_ble_eq_true rfl) (show 0 + 2 + 676 + n * n + 7 + 1189 + 6 + 6 + 2 + 141 + 7 + 1696 ≤ 3901 by omega) ⟨rfl, ⟨xa_u_eq _ _ _, d4.frame (fun q hq => m3 _ q (by omega) (by omega)), ?_, ?_, ?_⟩, fun q hq => by rw [m3 _ q (by omega) (by omega), d5 q hq], by omega⟩
  · obtain ⟨V, k, ls, t1, t2⟩ := d6
    exact ⟨V, k, ls, by rw [m3 _ _ (by omega) (by omega)]; exact t1, by rw [m3 _ _ (by omega) (by omega)]; exact t2⟩
  · refine xh_S_frame hH (fun a e ha hk => ?_)
    have hlt : a < o + 19 := by have := (hp2 a e ha).2; omega
    have hao : a ≠ o := by
      rcases hk with hk | hk | ⟨hk, hk2⟩ <;> omega
    rw [m2 _ a hao hlt]
    exact ha
  · obtain ⟨c, K, A, O, S, ST, BT, RG, t0, t1, t2, t3, t4, t5, t6, t7, t8⟩ := hL
    exact ⟨c, K, A, O, S, ST, BT, RG, by rw [m1 _ _ (by omega)]; exact t0, by rw [m1 _ _ (by omega)]; exact t1, by rw [m1 _ _ (by omega)]; exact t2, by rw [m1 _ _ (by omega)]; exact t3, by rw [m1 _ _ (by omega)]; exact t4, by rw [m1 _ _ (by omega)]; exact t5, by rw [m1 _ _ (by omega)]; exact t6, by rw [m1 _ _ (by omega)]; exact t7, by rw [m1 _ _ (by omega)]; exact t8⟩
end SI
