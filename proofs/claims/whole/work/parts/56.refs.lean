/-! The reference: thrown, size, moves, turnNow, turn, isEnded, noPoint, noSide, at, move, taken, first. -/
theorem i32_pt (x : Int32) {N : Nat} (hN : N < 2 ^ 31) : (∃ p, p < N ∧ x = nI p) ∨ (x < 0 ∨ nI N ≤ x) := by
  by_cases h0 : x < 0
  · exact Or.inr (Or.inl h0)
  · obtain ⟨j, hj, rfl⟩ := nI_of h0
    by_cases h1 : j < N
    · exact Or.inl ⟨j, h1, rfl⟩
    · refine Or.inr (Or.inr ?_)
      rw [Int32.le_iff_toInt_le, nI_toInt hN, nI_toInt hj]
      omega
theorem i32_rg (x : Int32) {a N : Nat} (ha : a < 2 ^ 31) (hN : N < 2 ^ 31) : (∃ p, a ≤ p ∧ p ≤ N ∧ x = nI p) ∨ (x < nI a ∨ nI N < x) := by
  by_cases h0 : x < 0
  · refine Or.inr (Or.inl ?_)
    rw [i32_lt] at h0 ⊢
    rw [nI_toInt ha]
    have e0 : (0 : Int32).toInt = 0 := by decide
    omega
  · obtain ⟨j, hj, rfl⟩ := nI_of h0
    by_cases h1 : a ≤ j ∧ j ≤ N
    · exact Or.inl ⟨j, h1.1, h1.2, rfl⟩
    · refine Or.inr ?_
      rw [nI_ltI hj ha, nI_ltI hN hj]
      omega
/-- what a call of the reference leaves -/
abbrev xR_F (h h' : xa_H) (r : Nat) : Prop := ∀ q, q < r ∨ r + 15 ≤ q → h' q = h q
section RM
variable {l : Launch} {D : va_G} {H0 : Heap} {h : xa_H} {sz : Nat} {R : Room} {r n fs : Nat} {b : Nat → Nat} {m : Nat} {bd : Nat → Nat → Nat} {pt : Nat → Int32} {tb tw : Nat → Nat} {cd : Nat}

theorem c_Ref_thrown (hS : xR_S D h r n fs b m bd pt tb tw cd) :
    xa_M l D H0 M_Ref_thrown 0 0 0 0 [.ref r] h sz (fun v h' sz' => v = some (.int (nI cd)) ∧ h' = h ∧ sz' = sz) := by
  obtain ⟨v, h0, e0, e3, e4, hc⟩ := hS.code
  refine xa_enter (by decide) rfl rfl ?_
  refine xa_aload_n d_Ref_thrown_0 rfl ?_
  refine xa_getf f_Ref_65 d_Ref_thrown_1 (by assumption) (by rfl) ?_
  refine xa_int (y := nI cd) (by rw [e0]) ?_
  exact xa_ireturn d_Ref_thrown_4 rfl (by decide) (by decide) ⟨rfl, rfl, rfl⟩
theorem c_Ref_size (hS : xR_S D h r n fs b m bd pt tb tw cd) :
    xa_M l D H0 M_Ref_size 0 0 0 0 [.ref r] h sz (fun v h' sz' => v = some (.int (nI n)) ∧ xR_S D h' r n fs b m bd pt tb tw 0 ∧ xR_F h h' r ∧ sz' = sz) := by
  obtain ⟨v, h0, e0, e3, e4, hc⟩ := hS.code
  refine xa_enter (by decide) rfl rfl ?_
  refine xa_aload_n d_Ref_size_0 rfl ?_
  refine xa_iconst (v := nI 0) d_Ref_size_1 rfl ?_
  refine xa_putf f_Ref_65 d_Ref_size_2 h0 (Nat.le_of_ble_eq_true rfl) rfl rfl ?_
  refine xa_heap (h' := xa_u h r (xR_o r n (xh_up v 0 0))) rfl ?_
  have q0 : xa_u h r (xR_o r n (xh_up v 0 0)) r = some (xR_o r n (xh_up v 0 0)) := xa_u_eq _ _ _
  refine xa_aload_n d_Ref_size_5 rfl ?_
  refine xa_getf f_Ref_59 d_Ref_size_6 (by assumption) (by rfl) ?_
  exact xa_ireturn d_Ref_size_9 rfl (by decide) (by decide) ⟨rfl, hc 0, fun q hq => xa_u_ne rfl (by omega), rfl⟩
theorem c_Ref_moves (hS : xR_S D h r n fs b m bd pt tb tw cd) :
    xa_M l D H0 M_Ref_moves 0 0 0 0 [.ref r] h sz (fun v h' sz' => v = some (.int (nI m)) ∧ xR_S D h' r n fs b m bd pt tb tw 0 ∧ xR_F h h' r ∧ sz' = sz) := by
  obtain ⟨v, h0, e0, e3, e4, hc⟩ := hS.code
  refine xa_enter (by decide) rfl rfl ?_
  refine xa_aload_n d_Ref_moves_0 rfl ?_
  refine xa_iconst (v := nI 0) d_Ref_moves_1 rfl ?_
  refine xa_putf f_Ref_65 d_Ref_moves_2 h0 (Nat.le_of_ble_eq_true rfl) rfl rfl ?_
  refine xa_heap (h' := xa_u h r (xR_o r n (xh_up v 0 0))) rfl ?_
  have q0 : xa_u h r (xR_o r n (xh_up v 0 0)) r = some (xR_o r n (xh_up v 0 0)) := xa_u_eq _ _ _
  refine xa_aload_n d_Ref_moves_5 rfl ?_
  refine xa_getf f_Ref_96 d_Ref_moves_6 (by assumption) (by rfl) ?_
  refine xa_int (y := nI m) (by rw [← e3]; rfl) ?_
  exact xa_ireturn d_Ref_moves_9 rfl (by decide) (by decide) ⟨rfl, hc 0, fun q hq => xa_u_ne rfl (by omega), rfl⟩
theorem c_Ref_turnNow (hS : xR_S D h r n fs b m bd pt tb tw cd) (hfs : fs = 1 ∨ fs = 2) (hm : m ≤ 1000) :
    xa_M l D H0 M_Ref_turnNow 0 0 0 0 [.ref r] h sz (fun v h' sz' => v = some (.int (nI (gx_turn fs m))) ∧ h' = h ∧ sz' = sz) := by
  obtain ⟨v, h0, e0, e3, e4, hc⟩ := hS.code
  refine xa_enter (by decide) rfl rfl ?_
  refine xa_aload_n d_Ref_turnNow_0 rfl ?_
  refine xa_getf f_Ref_96 d_Ref_turnNow_1 (by assumption) (by rfl) ?_
  refine xa_int (y := nI m) (by rw [e3]) ?_
  refine xa_iconst (v := nI 2) d_Ref_turnNow_4 rfl ?_
  refine xa_iremN d_Ref_turnNow_5 (by omega) (by omega) (by omega) ?_
  refine xa_if_neN (tgt := 16) d_Ref_turnNow_6 (by decide) (by omega) (fun hz => ?_) (fun hz => ?_)
  ·
    refine xa_iconst (v := nI 3) d_Ref_turnNow_16 rfl ?_
    refine xa_aload_n d_Ref_turnNow_17 rfl ?_
    refine xa_getf f_Ref_30 d_Ref_turnNow_18 (by assumption) (by rfl) ?_
    refine xa_int (y := nI fs) (by rw [e4]) ?_
    refine xa_isubN d_Ref_turnNow_21 (by omega) ?_
    refine xa_ireturn d_Ref_turnNow_22 rfl (by decide) (by decide) ⟨?_, rfl, rfl⟩
    unfold gx_turn
    rw [if_neg (by omega)]
  ·
    refine xa_aload_n d_Ref_turnNow_9 rfl ?_
    refine xa_getf f_Ref_30 d_Ref_turnNow_10 (by assumption) (by rfl) ?_
    refine xa_int (y := nI fs) (by rw [e4]) ?_
    refine xa_goto (tgt := 22) d_Ref_turnNow_13 (by decide) ?_
    refine xa_ireturn d_Ref_turnNow_22 rfl (by decide) (by decide) ⟨?_, rfl, rfl⟩
    unfold gx_turn
    rw [if_pos hz]
theorem c_Ref_turn (hS : xR_S D h r n fs b m bd pt tb tw cd) (hfs : fs = 1 ∨ fs = 2) (hm : m ≤ 1000) :
    xa_M l D H0 M_Ref_turn 1 20 0 0 [.ref r] h sz (fun v h' sz' => v = some (.int (nI (gx_turn fs m))) ∧ xR_S D h' r n fs b m bd pt tb tw 0 ∧ xR_F h h' r ∧ sz' = sz) := by
  obtain ⟨v, h0, e0, e3, e4, hc⟩ := hS.code
  refine xa_enter (by decide) rfl rfl ?_
  refine xa_aload_n d_Ref_turn_0 rfl ?_
  refine xa_iconst (v := nI 0) d_Ref_turn_1 rfl ?_
  refine xa_putf f_Ref_65 d_Ref_turn_2 h0 (Nat.le_of_ble_eq_true rfl) rfl rfl ?_
  refine xa_heap (h' := xa_u h r (xR_o r n (xh_up v 0 0))) rfl ?_
  have q0 : xa_u h r (xR_o r n (xh_up v 0 0)) r = some (xR_o r n (xh_up v 0 0)) := xa_u_eq _ _ _
  refine xa_aload_n d_Ref_turn_5 rfl ?_
  refine xa_callVr (As := []) (st := []) d_Ref_turn_6 k_Ref_107 q0 (c_Ref_turnNow (hc 0) hfs hm) rfl rfl (Nat.le_of_ble_eq_true rfl) ⟨by decide, by decide⟩ (by decide) (by decide) ?_
  exact xa_ireturn d_Ref_turn_9 rfl (by decide) (by decide) ⟨rfl, hc 0, fun q hq => xa_u_ne rfl (by omega), rfl⟩
theorem c_Ref_isEnded (hS : xR_S D h r n fs b m bd pt tb tw cd) (hn : 2 ≤ n ∧ n ≤ 13) (hm : m ≤ 1000) (hP : pt 0 = -2 ∧ ∀ i, 1 ≤ i → i ≤ m → pt i = -1 ∨ ∃ p, p < n * n ∧ pt i = nI p) :
    xa_M l D H0 M_Ref_isEnded 0 0 0 0 [.ref r] h sz (fun v h' sz' => ((v = some (.int 1) ∧ gx_end pt m) ∨ (v = some (.int 0) ∧ ¬ gx_end pt m)) ∧ h' = h ∧ sz' = sz) := by
  obtain ⟨v, B, SD, MV, TB, TW, ⟨h0, h1, h3, h4, h5, h6, hX⟩, ⟨e0, e3, e4⟩, ⟨i1, i2, i3, i4, i5⟩⟩ := hS
  have hN : n * n ≤ 169 := Nat.mul_le_mul hn.2 hn.2
  have neg : ∀ i, i < m → (0 ≤ MV i → ¬ pt (i + 1) = -1) ∧ (¬ 0 ≤ MV i → pt (i + 1) = -1) := fun i hi => by
    rw [i3 i hi]
    refine ⟨fun z e => by rw [e] at z; exact absurd z (by decide), fun z => (hP.2 (i + 1) (by omega) (by omega)).resolve_right (fun ⟨p, hp, e⟩ => z ?_)⟩
    rw [e, Int32.le_iff_toInt_le, nI_toInt (by omega)]
    have e0 : (0 : Int32).toInt = 0 := by decide
    omega
  refine xa_enter (by decide) rfl rfl ?_
  refine xa_aload_n d_Ref_isEnded_0 rfl ?_
  refine xa_getf f_Ref_96 d_Ref_isEnded_1 (by assumption) (by rfl) ?_
  refine xa_int (y := nI m) (by rw [e3]) ?_
  refine xa_iconst (v := nI 1) d_Ref_isEnded_4 rfl ?_
  have no : ¬ gx_end pt m → xa_X l D H0 M_Ref_isEnded (xa_rm 0 0 0 0) (xa_Zr D H0 0 0 (fun v h' sz' => ((v = some (.int 1) ∧ gx_end pt m) ∨ (v = some (.int 0) ∧ ¬ gx_end pt m)) ∧ h' = h ∧ sz' = sz)) 0 0 h sz 40 [(0, .ref r)] [] := fun hno => by
    refine xa_iconst (v := nI 0) d_Ref_isEnded_40 rfl ?_
    exact xa_zreturn (v := nI 0) d_Ref_isEnded_41 rfl (by decide) (by decide) (by decide) ⟨Or.inr ⟨rfl, hno⟩, rfl, rfl⟩
  refine xa_icmp_leN (tgt := 40) d_Ref_isEnded_5 (by decide) (by omega) (by omega) (fun hz => ?_) (fun hz => ?_)
  · refine no (fun z => ?_)
    obtain ⟨z1, z2, z3⟩ := z
    have : m - 1 = 0 := by omega
    rw [this, hP.1] at z3
    exact absurd z3 (by decide)
  ·
    refine xa_aload_n d_Ref_isEnded_8 rfl ?_
    refine xa_getf f_Ref_21 d_Ref_isEnded_9 (by assumption) (by rfl) ?_
    refine xa_aload_n d_Ref_isEnded_12 rfl ?_
    refine xa_getf f_Ref_96 d_Ref_isEnded_13 (by assumption) (by rfl) ?_
    refine xa_int (y := nI m) (by rw [e3]) ?_
    refine xa_iconst (v := nI 1) d_Ref_isEnded_16 rfl ?_
    refine xa_isubN d_Ref_isEnded_17 (by omega) ?_
    refine xa_ialdE d_Ref_isEnded_18 h4 rfl (show m - 1 < 1000 by omega) (by omega) rfl ?_
    have n1 := neg (m - 1) (by omega)
    rw [show m - 1 + 1 = m by omega] at n1
    have n2 := neg (m - 2) (by omega)
    rw [show m - 2 + 1 = m - 1 by omega] at n2
    refine xa_if_ge (tgt := 40) d_Ref_isEnded_19 (by decide) (fun h7 => ?_) (fun h7 => ?_)
    · exact no (fun z => n1.1 h7 z.1)
    ·
      refine xa_aload_n d_Ref_isEnded_22 rfl ?_
      refine xa_getf f_Ref_21 d_Ref_isEnded_23 (by assumption) (by rfl) ?_
      refine xa_aload_n d_Ref_isEnded_26 rfl ?_
      refine xa_getf f_Ref_96 d_Ref_isEnded_27 (by assumption) (by rfl) ?_
      refine xa_int (y := nI m) (by rw [e3]) ?_
      refine xa_iconst (v := nI 2) d_Ref_isEnded_30 rfl ?_
      refine xa_isubN d_Ref_isEnded_31 (by omega) ?_
      refine xa_ialdE d_Ref_isEnded_32 h4 rfl (show m - 2 < 1000 by omega) (by omega) rfl ?_
      refine xa_if_ge (tgt := 40) d_Ref_isEnded_33 (by decide) (fun h8 => ?_) (fun h8 => ?_)
      · exact no (fun z => n2.1 h8 z.2.2)
      ·
        refine xa_iconst (v := nI 1) d_Ref_isEnded_36 rfl ?_
        refine xa_goto (tgt := 41) d_Ref_isEnded_37 (by decide) ?_
        exact xa_zreturn (v := nI 1) d_Ref_isEnded_41 rfl (by decide) (by decide) (by decide) ⟨Or.inl ⟨rfl, n1.2 h7, by omega, n2.2 h8⟩, rfl, rfl⟩
theorem c_Ref_noPoint {p : Nat} (hS : xR_S D h r n fs b m bd pt tb tw cd) (hn : 2 ≤ n ∧ n ≤ 13) (hp : p < n * n) :
    xa_M l D H0 M_Ref_noPoint 0 0 0 0 [.ref r, .int (nI p)] h sz (fun v h' sz' => v = some (.int (nI 0)) ∧ xR_S D h' r n fs b m bd pt tb tw 0 ∧ xR_F h h' r ∧ sz' = sz) := by
  obtain ⟨v, h0, e0, e3, e4, hc⟩ := hS.code
  have hN : n * n ≤ 169 := Nat.mul_le_mul hn.2 hn.2
  refine xa_enter (by decide) rfl rfl ?_
  refine xa_aload_n d_Ref_noPoint_0 rfl ?_
  refine xa_iload_n d_Ref_noPoint_1 rfl ?_
  refine xa_if_lt (tgt := 13) d_Ref_noPoint_2 (by decide) (fun hz => ?_) (fun hz => ?_)
  · exact absurd hz (nI_pos (by omega))
  ·
    refine xa_iload_n d_Ref_noPoint_5 rfl ?_
    refine xa_aload_n d_Ref_noPoint_6 rfl ?_
    refine xa_getf f_Ref_62 d_Ref_noPoint_7 (by assumption) (by rfl) ?_
    refine xa_icmp_ltN (tgt := 17) d_Ref_noPoint_10 (by decide) (by omega) (by omega) (fun hq => ?_) (fun hq => ?_)
    ·
      refine xa_iconst (v := nI 0) d_Ref_noPoint_17 rfl ?_
      refine xa_putf f_Ref_65 d_Ref_noPoint_18 h0 (Nat.le_of_ble_eq_true rfl) rfl rfl ?_
      refine xa_heap (h' := xa_u h r (xR_o r n (xh_up v 0 0))) rfl ?_
      have q0 : xa_u h r (xR_o r n (xh_up v 0 0)) r = some (xR_o r n (xh_up v 0 0)) := xa_u_eq _ _ _
      refine xa_aload_n d_Ref_noPoint_21 rfl ?_
      refine xa_getf f_Ref_65 d_Ref_noPoint_22 (by assumption) (by rfl) ?_
      refine xa_int (y := nI 0) rfl ?_
      refine xa_if_leN (tgt := 32) d_Ref_noPoint_25 (by decide) (by omega) (fun hz2 => ?_) (fun hz2 => ?_)
      ·
        refine xa_iconst (v := nI 0) d_Ref_noPoint_32 rfl ?_
        exact xa_zreturn (v := nI 0) d_Ref_noPoint_33 rfl (by decide) (by decide) (by decide) ⟨rfl, hc 0, fun q hq => xa_u_ne rfl (by omega), rfl⟩
      · omega
    · omega
theorem c_Ref_noPointX {x : Int32} (hS : xR_S D h r n fs b m bd pt tb tw cd) (hx : x < 0 ∨ nI (n * n) ≤ x) :
    xa_M l D H0 M_Ref_noPoint 0 0 0 0 [.ref r, .int x] h sz (fun v h' sz' => v = some (.int (nI 1)) ∧ xR_S D h' r n fs b m bd pt tb tw 1 ∧ xR_F h h' r ∧ sz' = sz) := by
  obtain ⟨v, h0, e0, e3, e4, hc⟩ := hS.code
  refine xa_enter (by decide) rfl rfl ?_
  have go : xa_X l D H0 M_Ref_noPoint (xa_rm 0 0 0 0) (xa_Zr D H0 0 0 (fun v h' sz' => v = some (.int (nI 1)) ∧ xR_S D h' r n fs b m bd pt tb tw 1 ∧ xR_F h h' r ∧ sz' = sz)) 0 0 h sz 13 [(0, .ref r), (1, .int x)] [.ref r] := by
    refine xa_iconst (v := nI 1) d_Ref_noPoint_13 rfl ?_
    refine xa_goto (tgt := 18) d_Ref_noPoint_14 (by decide) ?_
    refine xa_putf f_Ref_65 d_Ref_noPoint_18 h0 (Nat.le_of_ble_eq_true rfl) rfl rfl ?_
    refine xa_heap (h' := xa_u h r (xR_o r n (xh_up v 0 1))) rfl ?_
    have q0 : xa_u h r (xR_o r n (xh_up v 0 1)) r = some (xR_o r n (xh_up v 0 1)) := xa_u_eq _ _ _
    refine xa_aload_n d_Ref_noPoint_21 rfl ?_
    refine xa_getf f_Ref_65 d_Ref_noPoint_22 (by assumption) (by rfl) ?_
    refine xa_int (y := nI 1) rfl ?_
    refine xa_if_leN (tgt := 32) d_Ref_noPoint_25 (by decide) (by omega) (fun hz2 => ?_) (fun hz2 => ?_)
    · omega
    ·
      refine xa_iconst (v := nI 1) d_Ref_noPoint_28 rfl ?_
      refine xa_goto (tgt := 33) d_Ref_noPoint_29 (by decide) ?_
      exact xa_zreturn (v := nI 1) d_Ref_noPoint_33 rfl (by decide) (by decide) (by decide) ⟨rfl, hc 1, fun q hq => xa_u_ne rfl (by omega), rfl⟩
  refine xa_aload_n d_Ref_noPoint_0 rfl ?_
  refine xa_iload_n d_Ref_noPoint_1 rfl ?_
  refine xa_if_lt (tgt := 13) d_Ref_noPoint_2 (by decide) (fun hz => ?_) (fun hz => ?_)
  · exact go
  ·
    refine xa_iload_n d_Ref_noPoint_5 rfl ?_
    refine xa_aload_n d_Ref_noPoint_6 rfl ?_
    refine xa_getf f_Ref_62 d_Ref_noPoint_7 (by assumption) (by rfl) ?_
    refine xa_icmp_lt (tgt := 17) d_Ref_noPoint_10 (by decide) (fun hq => ?_) (fun hq => ?_)
    · exact absurd hq (fun z => by
        rcases hx with hx | hx
        · exact hz hx
        · rw [i32_lt] at z
          rw [Int32.le_iff_toInt_le] at hx
          omega)
    · exact go
theorem c_Ref_noSide {k a : Nat} (hS : xR_S D h r n fs b m bd pt tb tw cd) (hk : a ≤ k ∧ k ≤ 2) :
    xa_M l D H0 M_Ref_noSide 0 0 0 0 [.ref r, .int (nI k), .int (nI a)] h sz (fun v h' sz' => v = some (.int (nI 0)) ∧ xR_S D h' r n fs b m bd pt tb tw 0 ∧ xR_F h h' r ∧ sz' = sz) := by
  obtain ⟨v, h0, e0, e3, e4, hc⟩ := hS.code
  refine xa_enter (by decide) rfl rfl ?_
  refine xa_aload_n d_Ref_noSide_0 rfl ?_
  refine xa_iload_n d_Ref_noSide_1 rfl ?_
  refine xa_iload_n d_Ref_noSide_2 rfl ?_
  refine xa_icmp_ltN (tgt := 11) d_Ref_noSide_3 (by decide) (by omega) (by omega) (fun hz => ?_) (fun hz => ?_)
  · omega
  ·
    refine xa_iload_n d_Ref_noSide_6 rfl ?_
    refine xa_iconst (v := nI 2) d_Ref_noSide_7 rfl ?_
    refine xa_icmp_leN (tgt := 15) d_Ref_noSide_8 (by decide) (by omega) (by omega) (fun hq => ?_) (fun hq => ?_)
    ·
      refine xa_iconst (v := nI 0) d_Ref_noSide_15 rfl ?_
      refine xa_putf f_Ref_65 d_Ref_noSide_16 h0 (Nat.le_of_ble_eq_true rfl) rfl rfl ?_
      refine xa_heap (h' := xa_u h r (xR_o r n (xh_up v 0 0))) rfl ?_
      have q0 : xa_u h r (xR_o r n (xh_up v 0 0)) r = some (xR_o r n (xh_up v 0 0)) := xa_u_eq _ _ _
      refine xa_aload_n d_Ref_noSide_19 rfl ?_
      refine xa_getf f_Ref_65 d_Ref_noSide_20 (by assumption) (by rfl) ?_
      refine xa_int (y := nI 0) rfl ?_
      refine xa_if_leN (tgt := 30) d_Ref_noSide_23 (by decide) (by omega) (fun hz2 => ?_) (fun hz2 => ?_)
      ·
        refine xa_iconst (v := nI 0) d_Ref_noSide_30 rfl ?_
        exact xa_zreturn (v := nI 0) d_Ref_noSide_31 rfl (by decide) (by decide) (by decide) ⟨rfl, hc 0, fun q hq => xa_u_ne rfl (by omega), rfl⟩
      · omega
    · omega
theorem c_Ref_noSideX {x : Int32} {a : Nat} (hS : xR_S D h r n fs b m bd pt tb tw cd) (hx : x < nI a ∨ nI 2 < x) :
    xa_M l D H0 M_Ref_noSide 0 0 0 0 [.ref r, .int x, .int (nI a)] h sz (fun v h' sz' => v = some (.int (nI 1)) ∧ xR_S D h' r n fs b m bd pt tb tw 1 ∧ xR_F h h' r ∧ sz' = sz) := by
  obtain ⟨v, h0, e0, e3, e4, hc⟩ := hS.code
  refine xa_enter (by decide) rfl rfl ?_
  have go : xa_X l D H0 M_Ref_noSide (xa_rm 0 0 0 0) (xa_Zr D H0 0 0 (fun v h' sz' => v = some (.int (nI 1)) ∧ xR_S D h' r n fs b m bd pt tb tw 1 ∧ xR_F h h' r ∧ sz' = sz)) 0 0 h sz 11 [(0, .ref r), (1, .int x), (2, .int (nI a))] [.ref r] := by
    refine xa_iconst (v := nI 1) d_Ref_noSide_11 rfl ?_
    refine xa_goto (tgt := 16) d_Ref_noSide_12 (by decide) ?_
    refine xa_putf f_Ref_65 d_Ref_noSide_16 h0 (Nat.le_of_ble_eq_true rfl) rfl rfl ?_
    refine xa_heap (h' := xa_u h r (xR_o r n (xh_up v 0 1))) rfl ?_
    have q0 : xa_u h r (xR_o r n (xh_up v 0 1)) r = some (xR_o r n (xh_up v 0 1)) := xa_u_eq _ _ _
    refine xa_aload_n d_Ref_noSide_19 rfl ?_
    refine xa_getf f_Ref_65 d_Ref_noSide_20 (by assumption) (by rfl) ?_
    refine xa_int (y := nI 1) rfl ?_
    refine xa_if_leN (tgt := 30) d_Ref_noSide_23 (by decide) (by omega) (fun hz2 => ?_) (fun hz2 => ?_)
    · omega
    ·
      refine xa_iconst (v := nI 1) d_Ref_noSide_26 rfl ?_
      refine xa_goto (tgt := 31) d_Ref_noSide_27 (by decide) ?_
      exact xa_zreturn (v := nI 1) d_Ref_noSide_31 rfl (by decide) (by decide) (by decide) ⟨rfl, hc 1, fun q hq => xa_u_ne rfl (by omega), rfl⟩
  refine xa_aload_n d_Ref_noSide_0 rfl ?_
  refine xa_iload_n d_Ref_noSide_1 rfl ?_
  refine xa_iload_n d_Ref_noSide_2 rfl ?_
  refine xa_icmp_lt (tgt := 11) d_Ref_noSide_3 (by decide) (fun hz => ?_) (fun hz => ?_)
  · exact go
  ·
    refine xa_iload_n d_Ref_noSide_6 rfl ?_
    refine xa_iconst (v := nI 2) d_Ref_noSide_7 rfl ?_
    refine xa_icmp_le (tgt := 15) d_Ref_noSide_8 (by decide) (fun hq => ?_) (fun hq => ?_)
    · exact absurd hq (fun z => by
        rcases hx with hx | hx
        · exact hz hx
        · rw [i32_lt] at hx
          rw [Int32.le_iff_toInt_le] at z
          omega)
    · exact go
theorem xR_S.bB (hS : xR_S D h r n fs b m bd pt tb tw cd) : ∃ (v : Nat → Nat) (B : Nat → Int32), h r = some (xR_o r n v) ∧ h (r + 1) = some (.inl (D.1 100, 169, .inl B)) ∧ v 3 = m ∧ v 4 = fs ∧ ∀ q, q < n * n → B q = nI (b q) := by
  obtain ⟨v, B, SD, MV, TB, TW, ⟨h0, h1, h3, h4, h5, h6, hX⟩, ⟨e0, e3, e4⟩, ⟨i1, i2, i3, i4, i5⟩⟩ := hS
  exact ⟨v, B, h0, h1, e3, e4, i1⟩
theorem c_Ref_at {p : Nat} (hS : xR_S D h r n fs b m bd pt tb tw cd) (hn : 2 ≤ n ∧ n ≤ 13) (hp : p < n * n) :
    xa_M l D H0 M_Ref_at 1 21 0 0 [.ref r, .int (nI p)] h sz (fun v h' sz' => v = some (.int (nI (b p))) ∧ xR_S D h' r n fs b m bd pt tb tw 0 ∧ xR_F h h' r ∧ sz' = sz) := by
  obtain ⟨v, h0, e0, e3, e4, hc⟩ := hS.code
  have hN : n * n ≤ 169 := Nat.mul_le_mul hn.2 hn.2
  refine xa_enter (by decide) rfl rfl ?_
  refine xa_aload_n d_Ref_at_0 rfl ?_
  refine xa_iload_n d_Ref_at_1 rfl ?_
  refine xa_callV (As := [.int (nI p)]) (st := []) d_Ref_at_2 k_Ref_118 h0 (c_Ref_noPoint hS hn hp) rfl rfl (Nat.le_of_ble_eq_true rfl) ⟨by decide, by decide⟩ (by decide) (by decide) (fun v' h' sz' hq => ?_)
  obtain ⟨e1, hS', hF, e2⟩ := hq
  rw [e1, e2]
  obtain ⟨v2, B, g0, g1, -, -, gB⟩ := hS'.bB
  refine xa_if_eqN (tgt := 12) d_Ref_at_5 (by decide) (by omega) (fun hz => ?_) (fun hz => ?_)
  ·
    refine xa_aload_n d_Ref_at_12 rfl ?_
    refine xa_getf f_Ref_7 d_Ref_at_13 (by assumption) (by rfl) ?_
    refine xa_iload_n d_Ref_at_16 rfl ?_
    refine xa_ialdE d_Ref_at_17 g1 rfl (show p < 169 by omega) (by omega) (gB p hp) ?_
    exact xa_ireturn d_Ref_at_18 rfl (by decide) (by decide) ⟨rfl, hS', hF, rfl⟩
  · omega
theorem c_Ref_atX {x : Int32} (hS : xR_S D h r n fs b m bd pt tb tw cd) (hx : x < 0 ∨ nI (n * n) ≤ x) :
    xa_M l D H0 M_Ref_at 1 21 0 0 [.ref r, .int x] h sz (fun v h' sz' => v = some (.int (nI 0)) ∧ xR_S D h' r n fs b m bd pt tb tw 1 ∧ xR_F h h' r ∧ sz' = sz) := by
  obtain ⟨v, h0, e0, e3, e4, hc⟩ := hS.code
  refine xa_enter (by decide) rfl rfl ?_
  refine xa_aload_n d_Ref_at_0 rfl ?_
  refine xa_iload_n d_Ref_at_1 rfl ?_
  refine xa_callV (As := [.int x]) (st := []) d_Ref_at_2 k_Ref_118 h0 (c_Ref_noPointX hS hx) rfl rfl (Nat.le_of_ble_eq_true rfl) ⟨by decide, by decide⟩ (by decide) (by decide) (fun v' h' sz' hq => ?_)
  obtain ⟨e1, hS', hF, e2⟩ := hq
  rw [e1, e2]
  refine xa_if_eqN (tgt := 12) d_Ref_at_5 (by decide) (by omega) (fun hz => ?_) (fun hz => ?_)
  · omega
  ·
    refine xa_iconst (v := nI 0) d_Ref_at_8 rfl ?_
    refine xa_goto (tgt := 18) d_Ref_at_9 (by decide) ?_
    exact xa_ireturn d_Ref_at_18 rfl (by decide) (by decide) ⟨rfl, hS', hF, rfl⟩
theorem c_Ref_move {i : Nat} (hS : xR_S D h r n fs b m bd pt tb tw cd) (hm : m ≤ 1000) (hi : i < m) :
    xa_M l D H0 M_Ref_move 0 0 0 0 [.ref r, .int (nI i)] h sz (fun v h' sz' => v = some (.int (pt (i + 1))) ∧ xR_S D h' r n fs b m bd pt tb tw 0 ∧ xR_F h h' r ∧ sz' = sz) := by
  have hS0 := hS
  obtain ⟨v, B, SD, MV, TB, TW, ⟨h0, h1, h3, h4, h5, h6, hX⟩, ⟨e0, e3, e4⟩, ⟨i1, i2, i3, i4, i5⟩⟩ := hS
  obtain ⟨v', h0', -, e3', -, hc⟩ := hS0.code
  have hvv : h r = some (xR_o r n v') := h0'
  refine xa_enter (by decide) rfl rfl ?_
  clear h0
  refine xa_aload_n d_Ref_move_0 rfl ?_
  refine xa_iload_n d_Ref_move_1 rfl ?_
  refine xa_if_lt (tgt := 13) d_Ref_move_2 (by decide) (fun hz => ?_) (fun hz => ?_)
  · exact absurd hz (nI_pos (by omega))
  ·
    refine xa_iload_n d_Ref_move_5 rfl ?_
    refine xa_aload_n d_Ref_move_6 rfl ?_
    refine xa_getf f_Ref_96 d_Ref_move_7 (by assumption) (by rfl) ?_
    refine xa_int (y := nI m) (by rw [e3']) ?_
    refine xa_icmp_ltN (tgt := 17) d_Ref_move_10 (by decide) (by omega) (by omega) (fun hq => ?_) (fun hq => ?_)
    ·
      refine xa_iconst (v := nI 0) d_Ref_move_17 rfl ?_
      refine xa_putf f_Ref_65 d_Ref_move_18 hvv (Nat.le_of_ble_eq_true rfl) rfl rfl ?_
      refine xa_heap (h' := xa_u h r (xR_o r n (xh_up v' 0 0))) rfl ?_
      have q0 : xa_u h r (xR_o r n (xh_up v' 0 0)) r = some (xR_o r n (xh_up v' 0 0)) := xa_u_eq _ _ _
      refine xa_aload_n d_Ref_move_21 rfl ?_
      refine xa_getf f_Ref_65 d_Ref_move_22 (by assumption) (by rfl) ?_
      refine xa_int (y := nI 0) rfl ?_
      refine xa_if_leN (tgt := 32) d_Ref_move_25 (by decide) (by omega) (fun hz2 => ?_) (fun hz2 => ?_)
      ·
        refine xa_aload_n d_Ref_move_32 rfl ?_
        refine xa_getf f_Ref_21 d_Ref_move_33 (by assumption) (by rfl) ?_
        refine xa_iload_n d_Ref_move_36 rfl ?_
        have q4 : xa_u h r (xR_o r n (xh_up v' 0 0)) (r + 4) = some (.inl (D.1 100, 1000, .inl MV)) := xa_u_ne h4 (by omega)
        refine xa_ialdE d_Ref_move_37 q4 rfl (show i < 1000 by omega) (by omega) (i3 i hi) ?_
        exact xa_ireturn d_Ref_move_38 rfl (by decide) (by decide) ⟨rfl, hc 0, fun q hq => xa_u_ne rfl (by omega), rfl⟩
      · omega
    · omega
theorem c_Ref_moveX {x : Int32} (hS : xR_S D h r n fs b m bd pt tb tw cd) (hx : x < 0 ∨ nI m ≤ x) :
    xa_M l D H0 M_Ref_move 0 0 0 0 [.ref r, .int x] h sz (fun v h' sz' => v = some (.int (nI 0)) ∧ xR_S D h' r n fs b m bd pt tb tw 1 ∧ xR_F h h' r ∧ sz' = sz) := by
  obtain ⟨v, h0, e0, e3, e4, hc⟩ := hS.code
  refine xa_enter (by decide) rfl rfl ?_
  have go : xa_X l D H0 M_Ref_move (xa_rm 0 0 0 0) (xa_Zr D H0 0 0 (fun v h' sz' => v = some (.int (nI 0)) ∧ xR_S D h' r n fs b m bd pt tb tw 1 ∧ xR_F h h' r ∧ sz' = sz)) 0 0 h sz 13 [(0, .ref r), (1, .int x)] [.ref r] := by
    refine xa_iconst (v := nI 1) d_Ref_move_13 rfl ?_
    refine xa_goto (tgt := 18) d_Ref_move_14 (by decide) ?_
    refine xa_putf f_Ref_65 d_Ref_move_18 h0 (Nat.le_of_ble_eq_true rfl) rfl rfl ?_
    refine xa_heap (h' := xa_u h r (xR_o r n (xh_up v 0 1))) rfl ?_
    have q0 : xa_u h r (xR_o r n (xh_up v 0 1)) r = some (xR_o r n (xh_up v 0 1)) := xa_u_eq _ _ _
    refine xa_aload_n d_Ref_move_21 rfl ?_
    refine xa_getf f_Ref_65 d_Ref_move_22 (by assumption) (by rfl) ?_
    refine xa_int (y := nI 1) rfl ?_
    refine xa_if_leN (tgt := 32) d_Ref_move_25 (by decide) (by omega) (fun hz2 => ?_) (fun hz2 => ?_)
    · omega
    ·
      refine xa_iconst (v := nI 0) d_Ref_move_28 rfl ?_
      refine xa_goto (tgt := 38) d_Ref_move_29 (by decide) ?_
      exact xa_ireturn d_Ref_move_38 rfl (by decide) (by decide) ⟨rfl, hc 1, fun q hq => xa_u_ne rfl (by omega), rfl⟩
  refine xa_aload_n d_Ref_move_0 rfl ?_
  refine xa_iload_n d_Ref_move_1 rfl ?_
  refine xa_if_lt (tgt := 13) d_Ref_move_2 (by decide) (fun hz => ?_) (fun hz => ?_)
  · exact go
  ·
    refine xa_iload_n d_Ref_move_5 rfl ?_
    refine xa_aload_n d_Ref_move_6 rfl ?_
    refine xa_getf f_Ref_96 d_Ref_move_7 (by assumption) (by rfl) ?_
    refine xa_int (y := nI m) (by rw [e3]) ?_
    refine xa_icmp_lt (tgt := 17) d_Ref_move_10 (by decide) (fun hq => ?_) (fun hq => ?_)
    · exact absurd hq (fun z => by
        rcases hx with hx | hx
        · exact hz hx
        · rw [i32_lt] at z
          rw [Int32.le_iff_toInt_le] at hx
          omega)
    · exact go
theorem w_Ref_taken {Z : xa_Z} {sd : Nat} {v : Nat → Nat} {TB TW : Nat → Int32} (h0 : h r = some (xR_o r n v)) (h5 : h (r + 5) = some (.inl (D.1 100, 1000, .inl TB))) (h6 : h (r + 6) = some (.inl (D.1 100, 1000, .inl TW))) (e3 : v 3 = m) (hm : m ≤ 1000) (tt : Nat → Nat) (hsd : sd = 1 ∨ sd = 2) (hs1 : sd = 1 → ∀ i, i < m → ∃ k, TB i = nI k ∧ tt (i + 1) = tt i + k) (hs2 : sd = 2 → ∀ i, i < m → ∃ k, TW i = nI k ∧ tt (i + 1) = tt i + k) (kont : xa_X l D H0 M_Ref_taken R Z 0 0 h sz 52 [(2, .int (nI (tt m)))] []) (k : Nat) (hk : k ≤ m) :
    xa_X l D H0 M_Ref_taken R Z 0 0 h sz 15 [(0, .ref r), (1, .int (nI sd)), (2, .int (nI (tt k))), (3, .int (nI k))] [] := by
  refine xa_iload_n d_Ref_taken_15 rfl ?_
  refine xa_aload_n d_Ref_taken_16 rfl ?_
  refine xa_getf f_Ref_96 d_Ref_taken_17 (by assumption) (by rfl) ?_
  refine xa_int (y := nI m) (by rw [e3]) ?_
  refine xa_icmp_geN (tgt := 52) d_Ref_taken_20 (by decide) (by omega) (by omega) (fun hb => ?_) (fun hb => ?_)
  · have hke : k = m := by omega
    subst hke
    exact xa_sl kont ⟨rfl, trivial⟩
  ·
    refine xa_iload_n d_Ref_taken_23 rfl ?_
    refine xa_iload_n d_Ref_taken_24 rfl ?_
    refine xa_iconst (v := nI 1) d_Ref_taken_25 rfl ?_
    refine xa_icmp_neN (tgt := 38) d_Ref_taken_26 (by decide) (by omega) (by omega) (fun hz => ?_) (fun hz => ?_)
    · obtain ⟨k2, u1, u2⟩ := hs2 (by omega) k hb
      refine xa_aload_n d_Ref_taken_38 rfl ?_
      refine xa_getf f_Ref_27 d_Ref_taken_39 (by assumption) (by rfl) ?_
      refine xa_iload_n d_Ref_taken_42 rfl ?_
      refine xa_ialdE d_Ref_taken_43 h6 rfl (show k < 1000 by omega) (by omega) u1 ?_
      refine xa_iaddN d_Ref_taken_44 ?_
      refine xa_istore_n d_Ref_taken_45 rfl rfl ?_
      refine xa_iincN d_Ref_taken_46 rfl rfl rfl ?_
      refine xa_goto (tgt := 15) d_Ref_taken_49 (by decide) ?_
      refine xa_ls ?_ (w_Ref_taken h0 h5 h6 e3 hm tt hsd hs1 hs2 kont (k + 1) (by omega))
      exact ⟨rfl, rfl, by rw [u2]; rfl, rfl, trivial⟩
    · obtain ⟨k2, u1, u2⟩ := hs1 hz k hb
      refine xa_aload_n d_Ref_taken_29 rfl ?_
      refine xa_getf f_Ref_24 d_Ref_taken_30 (by assumption) (by rfl) ?_
      refine xa_iload_n d_Ref_taken_33 rfl ?_
      refine xa_ialdE d_Ref_taken_34 h5 rfl (show k < 1000 by omega) (by omega) u1 ?_
      refine xa_goto (tgt := 44) d_Ref_taken_35 (by decide) ?_
      refine xa_iaddN d_Ref_taken_44 ?_
      refine xa_istore_n d_Ref_taken_45 rfl rfl ?_
      refine xa_iincN d_Ref_taken_46 rfl rfl rfl ?_
      refine xa_goto (tgt := 15) d_Ref_taken_49 (by decide) ?_
      refine xa_ls ?_ (w_Ref_taken h0 h5 h6 e3 hm tt hsd hs1 hs2 kont (k + 1) (by omega))
      exact ⟨rfl, rfl, by rw [u2]; rfl, rfl, trivial⟩
termination_by m - k
decreasing_by all_goals omega
theorem c_Ref_taken {sd : Nat} (hS : xR_S D h r n fs b m bd pt tb tw cd) (hm : m ≤ 1000) (ht0 : tb 0 = 0 ∧ tw 0 = 0) (hsd : sd = 1 ∨ sd = 2) :
    xa_M l D H0 M_Ref_taken 1 22 0 0 [.ref r, .int (nI sd)] h sz (fun v h' sz' => v = some (.int (nI (if sd = 1 then tb m else tw m))) ∧ xR_S D h' r n fs b m bd pt tb tw 0 ∧ xR_F h h' r ∧ sz' = sz) := by
  obtain ⟨v, h0, e0, e3, e4, hc⟩ := hS.code
  refine xa_enter (by decide) rfl rfl ?_
  refine xa_aload_n d_Ref_taken_0 rfl ?_
  refine xa_iload_n d_Ref_taken_1 rfl ?_
  refine xa_iconst (v := nI 1) d_Ref_taken_2 rfl ?_
  refine xa_callV (As := [.int (nI sd), .int (nI 1)]) (st := []) d_Ref_taken_3 k_Ref_133 h0 (c_Ref_noSide hS (by omega)) rfl rfl (Nat.le_of_ble_eq_true rfl) ⟨by decide, by decide⟩ (by decide) (by decide) (fun v' h' sz' hq => ?_)
  obtain ⟨e1, hS', hF, e2⟩ := hq
  rw [e1, e2]
  refine xa_if_eqN (tgt := 11) d_Ref_taken_6 (by decide) (by omega) (fun hz => ?_) (fun hz => ?_)
  · have hS2 := hS'
    obtain ⟨v2, B, SD, MV, TB, TW, ⟨g0, g1, g3, g4, g5, g6, gX⟩, ⟨f0, f3, f4⟩, ⟨i1, i2, i3, i4, i5⟩⟩ := hS2
    refine xa_iconst (v := nI 0) d_Ref_taken_11 rfl ?_
    refine xa_istore_n d_Ref_taken_12 rfl rfl ?_
    refine xa_iconst (v := nI 0) d_Ref_taken_13 rfl ?_
    refine xa_istore_n d_Ref_taken_14 rfl rfl ?_
    rcases hsd with e | e
    · subst e
      refine xa_ls ?_ (w_Ref_taken (sd := 1) g0 g5 g6 f3 hm tb (Or.inl rfl) (fun _ => i4) (fun z => by omega) ?_ 0 (by omega))
      · exact ⟨rfl, rfl, by rw [ht0.1]; rfl, rfl, trivial⟩
      ·
        refine xa_iload_n d_Ref_taken_52 rfl ?_
        exact xa_ireturn d_Ref_taken_53 rfl (by decide) (by decide) ⟨by rw [if_pos rfl], hS', hF, rfl⟩
    · subst e
      refine xa_ls ?_ (w_Ref_taken (sd := 2) g0 g5 g6 f3 hm tw (Or.inr rfl) (fun z => by omega) (fun _ => i5) ?_ 0 (by omega))
      · exact ⟨rfl, rfl, by rw [ht0.2]; rfl, rfl, trivial⟩
      ·
        refine xa_iload_n d_Ref_taken_52 rfl ?_
        exact xa_ireturn d_Ref_taken_53 rfl (by decide) (by decide) ⟨by rw [if_neg (by omega)], hS', hF, rfl⟩
  · omega
theorem c_Ref_takenX {x : Int32} (hS : xR_S D h r n fs b m bd pt tb tw cd) (hx : x < nI 1 ∨ nI 2 < x) :
    xa_M l D H0 M_Ref_taken 1 22 0 0 [.ref r, .int x] h sz (fun v h' sz' => v = some (.int (nI 0)) ∧ xR_S D h' r n fs b m bd pt tb tw 1 ∧ xR_F h h' r ∧ sz' = sz) := by
  obtain ⟨v, h0, e0, e3, e4, hc⟩ := hS.code
  refine xa_enter (by decide) rfl rfl ?_
  refine xa_aload_n d_Ref_taken_0 rfl ?_
  refine xa_iload_n d_Ref_taken_1 rfl ?_
  refine xa_iconst (v := nI 1) d_Ref_taken_2 rfl ?_
  refine xa_callV (As := [.int x, .int (nI 1)]) (st := []) d_Ref_taken_3 k_Ref_133 h0 (c_Ref_noSideX hS hx) rfl rfl (Nat.le_of_ble_eq_true rfl) ⟨by decide, by decide⟩ (by decide) (by decide) (fun v' h' sz' hq => ?_)
  obtain ⟨e1, hS', hF, e2⟩ := hq
  rw [e1, e2]
  refine xa_if_eqN (tgt := 11) d_Ref_taken_6 (by decide) (by omega) (fun hz => ?_) (fun hz => ?_)
  · omega
  ·
    refine xa_iconst (v := nI 0) d_Ref_taken_9 rfl ?_
    exact xa_ireturn d_Ref_taken_10 rfl (by decide) (by decide) ⟨rfl, hS', hF, rfl⟩
theorem c_Ref_first {sd : Nat} (hS : xR_S D h r n fs b m bd pt tb tw cd) (hm : m = 0) (hsd : sd = 1 ∨ sd = 2) :
    xa_M l D H0 M_Ref_first 0 0 0 0 [.ref r, .int (nI sd)] h sz (fun v h' sz' => v = none ∧ xR_S D h' r n sd b m bd pt tb tw 0 ∧ xR_F h h' r ∧ sz' = sz) := by
  obtain ⟨v, B, SD, MV, TB, TW, hA, ⟨e0, e3, e4⟩, hI⟩ := hS
  have h0 := hA.1
  refine xa_enter (by decide) rfl rfl ?_
  refine xa_aload_n d_Ref_first_0 rfl ?_
  refine xa_iload_n d_Ref_first_1 rfl ?_
  refine xa_iconst (v := nI 1) d_Ref_first_2 rfl ?_
  refine xa_icmp_ltN (tgt := 11) d_Ref_first_3 (by decide) (by omega) (by omega) (fun hz => ?_) (fun hz => ?_)
  · omega
  ·
    refine xa_iload_n d_Ref_first_6 rfl ?_
    refine xa_iconst (v := nI 2) d_Ref_first_7 rfl ?_
    refine xa_icmp_leN (tgt := 15) d_Ref_first_8 (by decide) (by omega) (by omega) (fun hq => ?_) (fun hq => ?_)
    ·
      refine xa_aload_n d_Ref_first_15 rfl ?_
      refine xa_getf f_Ref_96 d_Ref_first_16 (by assumption) (by rfl) ?_
      refine xa_int (y := nI 0) (by rw [e3, hm]) ?_
      refine xa_if_leN (tgt := 26) d_Ref_first_19 (by decide) (by omega) (fun hz2 => ?_) (fun hz2 => ?_)
      ·
        refine xa_iconst (v := nI 0) d_Ref_first_26 rfl ?_
        refine xa_putf f_Ref_65 d_Ref_first_27 h0 (Nat.le_of_ble_eq_true rfl) rfl rfl ?_
        refine xa_heap (h' := xa_u h r (xR_o r n (xh_up v 0 0))) rfl ?_
        have q0 : xa_u h r (xR_o r n (xh_up v 0 0)) r = some (xR_o r n (xh_up v 0 0)) := xa_u_eq _ _ _
        refine xa_aload_n d_Ref_first_30 rfl ?_
        refine xa_getf f_Ref_65 d_Ref_first_31 (by assumption) (by rfl) ?_
        refine xa_int (y := nI 0) rfl ?_
        refine xa_if_neN (tgt := 42) d_Ref_first_34 (by decide) (by omega) (fun hz3 => ?_) (fun hz3 => ?_)
        · omega
        ·
          refine xa_aload_n d_Ref_first_37 rfl ?_
          refine xa_iload_n d_Ref_first_38 rfl ?_
          refine xa_putf f_Ref_30 d_Ref_first_39 q0 (Nat.le_of_ble_eq_true rfl) rfl rfl ?_
          refine xa_heap (h' := xa_u h r (xR_o r n (xh_up (xh_up v 0 0) 4 sd))) (xa_uu _ _ _ _) ?_
          exact xa_return d_Ref_first_42 rfl (by decide) (by decide) ⟨rfl, ⟨xh_up (xh_up v 0 0) 4 sd, B, SD, MV, TB, TW, hA.o _, ⟨rfl, e3, rfl⟩, hI⟩, fun q hq => xa_u_ne rfl (by omega), rfl⟩
      · omega
    · omega
theorem c_Ref_firstX {x : Int32} (hS : xR_S D h r n fs b m bd pt tb tw cd) (hx : x < nI 1 ∨ nI 2 < x) :
    xa_M l D H0 M_Ref_first 0 0 0 0 [.ref r, .int x] h sz (fun v h' sz' => v = none ∧ xR_S D h' r n fs b m bd pt tb tw 1 ∧ xR_F h h' r ∧ sz' = sz) := by
  obtain ⟨v, h0, e0, e3, e4, hc⟩ := hS.code
  refine xa_enter (by decide) rfl rfl ?_
  have go : xa_X l D H0 M_Ref_first (xa_rm 0 0 0 0) (xa_Zr D H0 0 0 (fun v h' sz' => v = none ∧ xR_S D h' r n fs b m bd pt tb tw 1 ∧ xR_F h h' r ∧ sz' = sz)) 0 0 h sz 11 [(0, .ref r), (1, .int x)] [.ref r] := by
    refine xa_iconst (v := nI 1) d_Ref_first_11 rfl ?_
    refine xa_goto (tgt := 27) d_Ref_first_12 (by decide) ?_
    refine xa_putf f_Ref_65 d_Ref_first_27 h0 (Nat.le_of_ble_eq_true rfl) rfl rfl ?_
    refine xa_heap (h' := xa_u h r (xR_o r n (xh_up v 0 1))) rfl ?_
    have q0 : xa_u h r (xR_o r n (xh_up v 0 1)) r = some (xR_o r n (xh_up v 0 1)) := xa_u_eq _ _ _
    refine xa_aload_n d_Ref_first_30 rfl ?_
    refine xa_getf f_Ref_65 d_Ref_first_31 (by assumption) (by rfl) ?_
    refine xa_int (y := nI 1) rfl ?_
    refine xa_if_neN (tgt := 42) d_Ref_first_34 (by decide) (by omega) (fun hz2 => ?_) (fun hz2 => ?_)
    · exact xa_return d_Ref_first_42 rfl (by decide) (by decide) ⟨rfl, hc 1, fun q hq => xa_u_ne rfl (by omega), rfl⟩
    · omega
  refine xa_aload_n d_Ref_first_0 rfl ?_
  refine xa_iload_n d_Ref_first_1 rfl ?_
  refine xa_iconst (v := nI 1) d_Ref_first_2 rfl ?_
  refine xa_icmp_lt (tgt := 11) d_Ref_first_3 (by decide) (fun hz => ?_) (fun hz => ?_)
  · exact go
  ·
    refine xa_iload_n d_Ref_first_6 rfl ?_
    refine xa_iconst (v := nI 2) d_Ref_first_7 rfl ?_
    refine xa_icmp_le (tgt := 15) d_Ref_first_8 (by decide) (fun hq => ?_) (fun hq => ?_)
    · exact absurd hq (fun z => by
        rcases hx with hx | hx
        · exact hz hx
        · rw [i32_lt] at hx
          rw [Int32.le_iff_toInt_le] at z
          omega)
    · exact go
theorem c_Ref_firstY {sd : Nat} (hS : xR_S D h r n fs b m bd pt tb tw cd) (hm : m ≠ 0 ∧ m ≤ 1000) (hsd : sd = 1 ∨ sd = 2) :
    xa_M l D H0 M_Ref_first 0 0 0 0 [.ref r, .int (nI sd)] h sz (fun v h' sz' => v = none ∧ xR_S D h' r n fs b m bd pt tb tw 2 ∧ xR_F h h' r ∧ sz' = sz) := by
  obtain ⟨v, h0, e0, e3, e4, hc⟩ := hS.code
  refine xa_enter (by decide) rfl rfl ?_
  refine xa_aload_n d_Ref_first_0 rfl ?_
  refine xa_iload_n d_Ref_first_1 rfl ?_
  refine xa_iconst (v := nI 1) d_Ref_first_2 rfl ?_
  refine xa_icmp_ltN (tgt := 11) d_Ref_first_3 (by decide) (by omega) (by omega) (fun hz => ?_) (fun hz => ?_)
  · omega
  ·
    refine xa_iload_n d_Ref_first_6 rfl ?_
    refine xa_iconst (v := nI 2) d_Ref_first_7 rfl ?_
    refine xa_icmp_leN (tgt := 15) d_Ref_first_8 (by decide) (by omega) (by omega) (fun hq => ?_) (fun hq => ?_)
    ·
      refine xa_aload_n d_Ref_first_15 rfl ?_
      refine xa_getf f_Ref_96 d_Ref_first_16 (by assumption) (by rfl) ?_
      refine xa_int (y := nI m) (by rw [e3]) ?_
      refine xa_if_leN (tgt := 26) d_Ref_first_19 (by decide) (by omega) (fun hz2 => ?_) (fun hz2 => ?_)
      · omega
      ·
        refine xa_iconst (v := nI 2) d_Ref_first_22 rfl ?_
        refine xa_goto (tgt := 27) d_Ref_first_23 (by decide) ?_
        refine xa_putf f_Ref_65 d_Ref_first_27 h0 (Nat.le_of_ble_eq_true rfl) rfl rfl ?_
        refine xa_heap (h' := xa_u h r (xR_o r n (xh_up v 0 2))) rfl ?_
        have q0 : xa_u h r (xR_o r n (xh_up v 0 2)) r = some (xR_o r n (xh_up v 0 2)) := xa_u_eq _ _ _
        refine xa_aload_n d_Ref_first_30 rfl ?_
        refine xa_getf f_Ref_65 d_Ref_first_31 (by assumption) (by rfl) ?_
        refine xa_int (y := nI 2) rfl ?_
        refine xa_if_neN (tgt := 42) d_Ref_first_34 (by decide) (by omega) (fun hz3 => ?_) (fun hz3 => ?_)
        · exact xa_return d_Ref_first_42 rfl (by decide) (by decide) ⟨rfl, hc 2, fun q hq => xa_u_ne rfl (by omega), rfl⟩
        · omega
    · omega
end RM
