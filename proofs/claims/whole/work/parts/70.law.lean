/-! The law: cell, the loop, the beginning. -/
theorem i32_and31 (x : Int32) : ∃ v, v < 32 ∧ x &&& nI 31 = nI v := by
  refine ⟨(x &&& nI 31).toBitVec.toNat, ?_, ?_⟩
  · rw [Int32.toBitVec_and, BitVec.toNat_and]
    exact Nat.lt_of_le_of_lt Nat.and_le_right (by decide)
  · apply Int32.toBitVec_inj.mp
    show _ = BitVec.ofNat 32 _
    rw [BitVec.ofNat_toNat, BitVec.setWidth_eq]
section LZ
variable {l : Launch} {D : va_G} {H0 : Heap} {h : xa_H} {sz : Nat} {R : Room} {Z0 : xa_Z} {a0 L o : Nat} {f : Nat → Int32}
theorem c_Law_cell (hsc : xL_S0 H0 a0 L) :
    xa_MY (xa_Sc H0 a0 L f) l D H0 M_Law_cell 0 0 0 0 [.ref a0, .int (nI 0)] h sz (fun v h' sz' => v = some (.int (if 0 < L then f 0 else 0)) ∧ h' = h ∧ sz' = sz) := by
  obtain ⟨hsa, hsL⟩ := hsc
  refine xa_enterY (by decide) rfl rfl ?_
  refine xa_iload_n d_Law_cell_0 rfl ?_
  refine xa_aload_n d_Law_cell_1 rfl ?_
  refine xa_alenB hsa d_Law_cell_2 ?_
  refine xa_icmp_geN (tgt := 12) d_Law_cell_3 (by decide) (by omega) (by omega) (fun hz => ?_) (fun hz => ?_)
  ·
    refine xa_iconst (v := nI 0) d_Law_cell_12 rfl ?_
    refine xa_Yw ?_
    exact xa_ireturn d_Law_cell_13 rfl (by decide) (by decide) ⟨by rw [if_neg (by omega)]; rfl, rfl, rfl⟩
  ·
    refine xa_aload_n d_Law_cell_6 rfl ?_
    refine xa_iload_n d_Law_cell_7 rfl ?_
    refine xa_ialdB (j := 0) hsa d_Law_cell_8 hz rfl hsL ?_
    refine xa_goto (tgt := 13) d_Law_cell_9 (by decide) ?_
    refine xa_Yw ?_
    exact xa_ireturn d_Law_cell_13 rfl (by decide) (by decide) ⟨by rw [if_pos hz], rfl, rfl⟩
theorem w_law (htr : l.stackTraces = false) (hsc : xL_S0 H0 a0 L) (hL : L ≤ 1537) (hR : 9 ≤ R.frames ∧ 179 ≤ R.locals) (hRc : 2000 ≤ R.cells) (hRs : 200000 ≤ R.slots)
    (fin : ∀ (k n0 : Nat) (h : xa_H) (sz : Nat) (ls : List (Nat × Value)), k ≤ 2000 → n0 ≤ 200000 → xa_X l D H0 M_Law_law R (xa_ZY (xa_Sc H0 a0 L f) Z0) k n0 h sz 1099 ls [])
    (j : Nat) (hj : 3 * j ≤ L + 2) (k n0 : Nat) (h : xa_H) (sz : Nat) (hk : k ≤ 44 + 2 * j) (hn0 : n0 ≤ 177796 + 13 * j) (hQ : xL_Q D h sz o j) :
    xa_X l D H0 M_Law_law R (xa_ZY (xa_Sc H0 a0 L f) Z0) k n0 h sz 33 [(0, .ref a0), (1, .ref o), (2, .ref (o + 28)), (3, .ref (o + 43)), (4, .int (nI (1 + 3 * j)))] [] := by
  have hsc0 := hsc
  obtain ⟨hsa, hsL⟩ := hsc0
  refine xa_iload d_Law_law_33 rfl ?_
  refine xa_aload_n d_Law_law_35 rfl ?_
  refine xa_alenB hsa d_Law_law_36 ?_
  refine xa_iconst (v := nI 3) d_Law_law_37 rfl ?_
  by_cases hL3 : L < 3
  · refine xa_isub d_Law_law_38 ?_
    have hj1 : j = 0 ∨ j = 1 := by omega
    refine xa_icmp_gt (tgt := 1099) d_Law_law_39 (by decide) (fun _ => fin _ _ _ _ _ (by omega) (by omega)) (fun hz => absurd ?_ hz)
    rcases (show L = 0 ∨ L = 1 ∨ L = 2 by omega) with e | e | e <;> rcases hj1 with e' | e' <;> subst e <;> subst e' <;> decide
  · refine xa_isubN d_Law_law_38 (by omega) ?_
    refine xa_icmp_gtN (tgt := 1099) d_Law_law_39 (by decide) (by omega) (by omega) (fun hz => ?_) (fun hz => ?_)
    · exact fin _ _ _ _ _ (by omega) (by omega)
    · obtain ⟨n, fs, b, m, bd, pt, tb, tw, cd, F, hS, hM, hF, hZ, hm, hsz⟩ := hQ
      have hi : 1 + 3 * j + 2 < L := by omega
      have hm1 : m < 1000 := by omega
      have next : ∀ (k' n' : Nat) (h' : xa_H) (sz' : Nat), k' ≤ k + 2 → n' ≤ n0 + 13 → xL_Q D h' sz' o (m + 1) → xa_X l D H0 M_Law_law R (xa_ZY (xa_Sc H0 a0 L f) Z0) k' n' h' sz' 1093 [(0, .ref a0), (1, .ref o), (2, .ref (o + 28)), (3, .ref (o + 43)), (4, .int (nI (1 + 3 * j)))] [] := by
        intro k' n' h' sz' hk' hn' hQ'
        have hQ2 : xL_Q D h' sz' o (j + 1) := by
          obtain ⟨n, fs, b, m', bd, pt, tb, tw, cd, F, q1, q2, q3, q4, q5, q6⟩ := hQ'
          exact ⟨n, fs, b, m', bd, pt, tb, tw, cd, F, q1, q2, q3, q4, by omega, q6⟩
        refine xa_iinc (v := nI (1 + 3 * (j + 1))) d_Law_law_1093 rfl (by rw [show 1 + 3 * (j + 1) = 1 + 3 * j + 3 by omega]; exact nI_add _ _) rfl rfl ?_
        refine xa_goto (tgt := 33) d_Law_law_1096 (by decide) ?_
        refine xa_ls ?_ (w_law htr hsc hL hR hRc hRs fin (j + 1) (by omega) k' n' h' sz' (by omega) (by omega) hQ2)
        exact ⟨rfl, rfl, rfl, rfl, rfl, trivial⟩
      have hk2 : k + 2 ≤ R.cells := by omega
      have hn2 : n0 + 13 ≤ R.slots := by omega
      refine xa_aload_n d_Law_law_42 rfl ?_
      refine xa_iload d_Law_law_43 rfl ?_
      refine xa_ialdB (j := 1 + 3 * j) hsa d_Law_law_45 (by omega) rfl hsL ?_
      refine xa_bipush (v := nI 31) d_Law_law_46 (by decide) ?_
      refine xa_iand d_Law_law_48 ?_
      obtain ⟨v, hv, e⟩ := i32_and31 (f (1 + 3 * j))
      refine xa_int e ?_
      rcases (show v = 0 ∨ v = 1 ∨ v = 2 ∨ v = 3 ∨ v = 4 ∨ v = 5 ∨ v = 6 ∨ v = 7 ∨ v = 8 ∨ v = 9 ∨ v = 10 ∨ v = 11 ∨ v = 12 ∨ v = 13 ∨ v = 14 ∨ v = 15 ∨ v = 16 ∨ v = 17 ∨ v = 18 ∨ v = 19 ∨ 20 ≤ v by omega) with e | e | e | e | e | e | e | e | e | e | e | e | e | e | e | e | e | e | e | e | e
      · subst e
        refine xa_tableIn (off := 95) (tgt := 144) d_Law_law_49 (by decide) (by decide) (by decide) (by decide) ?_
        exact w_o_size htr hsc hi hR hk2 hn2 hS hM hF hZ hm1 hsz next
      · subst e
        refine xa_tableIn (off := 108) (tgt := 157) d_Law_law_49 (by decide) (by decide) (by decide) (by decide) ?_
        exact w_o_at htr hsc hi hR hk2 hn2 hS hM hF hZ hm1 hsz next
      · subst e
        refine xa_tableIn (off := 164) (tgt := 213) d_Law_law_49 (by decide) (by decide) (by decide) (by decide) ?_
        exact w_o_put htr hsc hi hR hk2 hn2 hS hM hF hZ hm1 hsz next
      · subst e
        refine xa_tableIn (off := 239) (tgt := 288) d_Law_law_49 (by decide) (by decide) (by decide) (by decide) ?_
        exact w_o_first htr hsc hi hR hk2 hn2 hS hM hF hZ hm1 hsz next
      · subst e
        refine xa_tableIn (off := 275) (tgt := 324) d_Law_law_49 (by decide) (by decide) (by decide) (by decide) ?_
        exact w_o_turn htr hsc hi hR hk2 hn2 hS hM hF hZ hm1 hsz next
      · subst e
        refine xa_tableIn (off := 288) (tgt := 337) d_Law_law_49 (by decide) (by decide) (by decide) (by decide) ?_
        exact w_o_play htr hsc hi hR hk2 hn2 hS hM hF hZ hm1 hsz next
      · subst e
        refine xa_tableIn (off := 344) (tgt := 393) d_Law_law_49 (by decide) (by decide) (by decide) (by decide) ?_
        exact w_o_why htr hsc hi hR hk2 hn2 hS hM hF hZ hm1 hsz next
      · subst e
        refine xa_tableIn (off := 400) (tgt := 449) d_Law_law_49 (by decide) (by decide) (by decide) (by decide) ?_
        exact w_o_allowed htr hsc hi hR hk2 hn2 hS hM hF hZ hm1 hsz next
      · subst e
        refine xa_tableIn (off := 413) (tgt := 462) d_Law_law_49 (by decide) (by decide) (by decide) (by decide) ?_
        exact w_o_pass htr hsc hi hR hk2 hn2 hS hM hF hZ hm1 hsz next
      · subst e
        refine xa_tableIn (off := 464) (tgt := 513) d_Law_law_49 (by decide) (by decide) (by decide) (by decide) ?_
        exact w_o_back htr hsc hi hR hk2 hn2 hS hM hF hZ hm1 hsz next
      · subst e
        refine xa_tableIn (off := 508) (tgt := 557) d_Law_law_49 (by decide) (by decide) (by decide) (by decide) ?_
        exact w_o_moves htr hsc hi hR hk2 hn2 hS hM hF hZ hm1 hsz next
      · subst e
        refine xa_tableIn (off := 521) (tgt := 570) d_Law_law_49 (by decide) (by decide) (by decide) (by decide) ?_
        exact w_o_move htr hsc hi hR hk2 hn2 hS hM hF hZ hm1 hsz next
      · subst e
        refine xa_tableIn (off := 577) (tgt := 626) d_Law_law_49 (by decide) (by decide) (by decide) (by decide) ?_
        exact w_o_taken htr hsc hi hR hk2 hn2 hS hM hF hZ hm1 hsz next
      · subst e
        refine xa_tableIn (off := 633) (tgt := 682) d_Law_law_49 (by decide) (by decide) (by decide) (by decide) ?_
        exact w_o_string htr hsc hi hR hk2 hn2 hS hM hF hZ hm1 hsz next
      · subst e
        refine xa_tableIn (off := 701) (tgt := 750) d_Law_law_49 (by decide) (by decide) (by decide) (by decide) ?_
        exact w_o_strings htr hsc hi hR hk2 hn2 hS hM hF hZ hm1 hsz next
      · subst e
        refine xa_tableIn (off := 757) (tgt := 806) d_Law_law_49 (by decide) (by decide) (by decide) (by decide) ?_
        exact w_o_ground htr hsc hi hR hk2 hn2 hS hM hF hZ hm1 hsz next
      · subst e
        refine xa_tableIn (off := 813) (tgt := 862) d_Law_law_49 (by decide) (by decide) (by decide) (by decide) ?_
        exact w_o_owner htr hsc hi hR hk2 hn2 hS hM hF hZ hm1 hsz next
      · subst e
        refine xa_tableIn (off := 869) (tgt := 918) d_Law_law_49 (by decide) (by decide) (by decide) (by decide) ?_
        exact w_o_alive htr hsc hi hR hk2 hn2 hS hM hF hZ hm1 hsz next
      · subst e
        refine xa_tableIn (off := 932) (tgt := 981) d_Law_law_49 (by decide) (by decide) (by decide) (by decide) ?_
        exact w_o_safe htr hsc hi hR hk2 hn2 hS hM hF hZ hm1 hsz next
      · subst e
        refine xa_tableIn (off := 988) (tgt := 1037) d_Law_law_49 (by decide) (by decide) (by decide) (by decide) ?_
        exact w_o_ago htr hsc hi hR hk2 hn2 hS hM hF hZ hm1 hsz next
      · refine xa_tableOut (tgt := 1093) d_Law_law_49 (Or.inr (by rw [nI_toInt (by omega)]; omega)) (by decide) ?_
        exact next _ _ _ _ (by omega) (by omega) ⟨n, fs, b, m, bd, pt, tb, tw, cd, F, hS, hM, hF, hZ, by omega, hsz⟩
termination_by 600 - j
decreasing_by omega
theorem w_law_start (htr : l.stackTraces = false) (hsc : xL_S0 H0 a0 L) (hL : L ≤ 1537) (hR : 9 ≤ R.frames ∧ 179 ≤ R.locals) (hRc : 2000 ≤ R.cells) (hRs : 200000 ≤ R.slots)
    (fin : ∀ (k n0 : Nat) (h : xa_H) (sz : Nat) (ls : List (Nat × Value)), k ≤ 2000 → n0 ≤ 200000 → xa_X l D H0 M_Law_law R (xa_ZY (xa_Sc H0 a0 L f) Z0) k n0 h sz 1099 ls []) :
    xa_X l D H0 M_Law_law R (xa_ZY (xa_Sc H0 a0 L f) Z0) 0 0 (fun _ => none) o 0 [(0, .ref a0)] [] := by
  have hYm : ∀ u U : State, u.vm.Alike U.vm → xa_Sc H0 a0 L f u → xa_Sc H0 a0 L f U := fun u U hvm hY => va_X.moved hvm hY
  refine xa_new n_Law_8 d_Law_law_0 (by omega) (show 0 + 8 ≤ R.slots by omega) ?_
  refine xa_dup d_Law_law_3 rfl ?_
  refine xa_aload_n d_Law_law_4 rfl ?_
  refine xa_iconst (v := nI 0) d_Law_law_5 rfl ?_
  refine xa_callSY (As := [.ref a0, .int (nI 0)]) (st := [.ref o, .ref o]) hYm d_Law_law_6 k_Law_70 (c_Law_cell hsc) rfl rfl (Nat.le_of_ble_eq_true rfl) ⟨by have := hR.1; show 0 + 1 ≤ _; omega, by have := hR.2; show 8 + (2 + 11) + 0 ≤ _; omega⟩ (by omega) (show 0 + 8 + 0 ≤ R.slots by omega) (fun v h' sz' hq => ?_)
  obtain ⟨e1, e2, e3⟩ := hq
  rw [e1, e2, e3]
  generalize hv0 : (if 0 < L then f 0 else 0) = v0
  refine xa_callI (As := [.int v0]) (st := [.ref o]) d_Law_law_9 k_Law_76 (c_SB_init (o := o) (T := o + 44) (v0 := v0) (xa_u_eq _ _ _) rfl) rfl rfl (Nat.le_of_ble_eq_true rfl) ⟨by have := hR.1; show 5 + 1 ≤ _; omega, by have := hR.2; show 8 + (5 + 11) + 115 ≤ _; omega⟩ (by omega) (show 0 + 8 + 0 + 3901 ≤ R.slots by omega) (fun v h1 sz' hq => ?_)
  obtain ⟨e1, hS, hf, e3⟩ := hq
  rw [e1, show sz' = o + 28 by omega]
  refine xa_astore_n d_Law_law_12 rfl rfl ?_
  refine xa_new n_Law_78 d_Law_law_13 (by omega) (show 0 + 8 + 0 + 3901 + 24 ≤ R.slots by omega) ?_
  refine xa_dup d_Law_law_16 rfl ?_
  refine xa_aload_n d_Law_law_17 rfl ?_
  refine xa_iconst (v := nI 0) d_Law_law_18 rfl ?_
  refine xa_callSY (As := [.ref a0, .int (nI 0)]) (st := [.ref (o + 28), .ref (o + 28)]) hYm d_Law_law_19 k_Law_70 (c_Law_cell hsc) rfl rfl (Nat.le_of_ble_eq_true rfl) ⟨by have := hR.1; show 0 + 1 ≤ _; omega, by have := hR.2; show 8 + (2 + 11) + 0 ≤ _; omega⟩ (by omega) (show 0 + 8 + 0 + 3901 + 24 + 0 ≤ R.slots by omega) (fun v h' sz' hq => ?_)
  obtain ⟨e1, e2, e3⟩ := hq
  rw [e1, e2, e3, hv0]
  refine xa_callI (As := [.int v0]) (st := [.ref (o + 28)]) d_Law_law_22 k_Law_80 (c_Ref_init (r := o + 28) (v0 := v0) (xa_u_eq _ _ _) rfl) rfl rfl (Nat.le_of_ble_eq_true rfl) ⟨by have := hR.1; show 1 + 1 ≤ _; omega, by have := hR.2; show 8 + (2 + 11) + 20 ≤ _; omega⟩ (by omega) (show 0 + 8 + 0 + 3901 + 24 + 0 + 173862 ≤ R.slots by omega) (fun v h2 sz' hq => ?_)
  obtain ⟨e1, hM, hf2, e3⟩ := hq
  rw [e1, show sz' = o + 43 by omega]
  refine xa_astore_n d_Law_law_25 rfl rfl ?_
  refine xa_iconst (v := nI 1) d_Law_law_26 rfl ?_
  refine xa_newL (N := 1) d_Law_law_27 rfl (by decide) (by omega) (show 0 + 8 + 0 + 3901 + 24 + 0 + 173862 + 1 ≤ R.slots by omega) ?_
  refine xa_astore_n d_Law_law_29 rfl rfl ?_
  refine xa_iconst (v := nI 1) d_Law_law_30 rfl ?_
  refine xa_istore d_Law_law_31 rfl rfl ?_
  have hS2 : xS_S D (xa_u h2 (o + 43) (.inl (D.1 101, 1, .inr (.inl (fun _ => 0))))) o (o + 44) (gx_size v0) 1 (fun _ => 0) 0 (fun _ _ => 0) (fun _ => -2) (fun _ => 0) (fun _ => 0) := hS.frame (by omega) (fun q hq => xa_u_ne ((hf2 q (by omega)).trans (xa_u_ne rfl (by omega))) (by omega))
  have hM2 : xR_S D (xa_u h2 (o + 43) (.inl (D.1 101, 1, .inr (.inl (fun _ => 0))))) (o + 28) (gx_size v0) 1 (fun _ => 0) 0 (fun _ _ => 0) (fun _ => -2) (fun _ => 0) (fun _ => 0) 0 := hM.frame (fun q h1 h2 => xa_u_ne rfl (by omega))
  have hZ0 : xZ_I (gx_size v0) 1 (fun _ => 0) 0 (fun _ _ => 0) (fun _ => -2) (fun _ => 0) (fun _ => 0) := ⟨⟨gx_size_le v0, Or.inl rfl, by omega⟩, fun _ _ => rfl, fun _ _ _ _ => Nat.zero_le _, fun i hi p hp h0 => absurd rfl h0, ⟨rfl, fun i h1 h2 => by omega⟩, rfl, rfl⟩
  refine xa_ls ?_ (w_law (o := o) htr hsc hL hR hRc hRs fin 0 (by omega) _ _ _ _ (Nat.le_of_ble_eq_true rfl) (Nat.le_of_ble_eq_true rfl) ⟨gx_size v0, 1, _, 0, _, _, _, _, 0, _, hS2, hM2, xa_u_eq _ _ _, hZ0, by omega, by omega⟩)
  exact ⟨rfl, rfl, rfl, rfl, rfl, trivial⟩
end LZ
