/-! StoneBoard: checks, turn, the trial of a move, why, allowed. -/
def gx_turn (fs m : Nat) : Nat := if m % 2 = 0 then fs else 3 - fs
def gx_same (N : Nat) (u t : Nat → Nat) : Prop := ∀ q, q < N → u q = t q
def gx_end (pt : Nat → Int32) (m : Nat) : Prop := pt m = -1 ∧ m ≠ 0 ∧ pt (m - 1) = -1
/-- what is known of the state's numbers -/
def xS_I (n fs : Nat) (b : Nat → Nat) (m : Nat) (bd : Nat → Nat → Nat) : Prop := (2 ≤ n ∧ n ≤ 13) ∧ (fs = 1 ∨ fs = 2) ∧ m < 1000 ∧ (∀ q, q < n * n → bd m q = b q) ∧ ∀ i, i ≤ m → ∀ q, q < n * n → bd i q ≤ 2
/-- the trial as it stands -/
def xT_V (D : va_G) (h : xa_H) (tr g aK ch N : Nat) (t : Nat → Nat) (k ls : Nat) : Prop := ∃ V : Nat → Nat, gp_B N t V ∧ h tr = some (.inr (7, [.ref (tr + 1), .int (nI k), .int (nI ls), .ref g, .ref aK, .ref ch])) ∧ h (tr + 1) = some (xp_c D N V)
theorem gx_turn_or {fs m : Nat} (h : fs = 1 ∨ fs = 2) : gx_turn fs m = 1 ∨ gx_turn fs m = 2 := by
  unfold gx_turn
  split <;> omega
theorem xL_S.frame {D : va_G} {h h' : xa_H} {lf g aK N : Nat} (hS : xL_S D h lf g aK N) (hf : ∀ q, lf ≤ q → q ≤ lf + 8 → h' q = h q) : xL_S D h' lf g aK N := by
  obtain ⟨c, K, A, O, S, ST, BT, RG, t0, t1, t2, t3, t4, t5, t6, t7, t8⟩ := hS
  refine ⟨c, K, A, O, S, ST, BT, RG, ?_, ?_, ?_, ?_, ?_, ?_, ?_, ?_, ?_⟩
  all_goals (rw [hf _ (by omega) (by omega)]; assumption)
/-- a change of the trial's cells alone -/
theorem xS_S.trial {D : va_G} {h h' : xa_H} {o T n fs : Nat} {b : Nat → Nat} {m : Nat} {bd : Nat → Nat → Nat} {pt : Nat → Int32} {tb tw : Nat → Nat} (hS : xS_S D h o T n fs b m bd pt tb tw) (hT : o + 28 ≤ T) (hf : ∀ q, q ≠ o + 13 → q ≠ o + 14 → h' q = h q) (ht : xT_S D h' (o + 13) (o + 1) (o + 3) (o + 4) (n * n)) : xS_S D h' o T n fs b m bd pt tb tw := by
  obtain ⟨s1, s2, s3, s4, s5⟩ := hS
  refine ⟨by rw [hf _ (by omega) (by omega)]; exact s1, s2.frame (fun q hq => hf q (by omega) (by omega)), ht, xh_S_frame s4 (fun a e ha hk => ?_), s5.frame (fun q h1 h2 => hf q (by omega) (by omega))⟩
  rw [hf a (by unfold xh_K at hk; omega) (by unfold xh_K at hk; omega)]
  exact ha
section SB1
variable {l : Launch} {D : va_G} {H0 : Heap} {h : xa_H} {sz : Nat} {R : Room} {o T n fs : Nat} {b : Nat → Nat} {m : Nat} {bd : Nat → Nat → Nat} {pt : Nat → Int32} {tb tw : Nat → Nat}
theorem xS_grid (hS : xS_S D h o T n fs b m bd pt tb tw) : h (o + 1) = some (.inr (3, [.int (nI (n * n)), .ref (o + 2)])) := by
  obtain ⟨s1, ⟨c, f, A, O, S, BR, LB, HO, CB, ar, o', s, ⟨r1, r2, r3, r4, r5, r6, r7, r8, hx⟩, -⟩, -⟩ := hS
  exact r6
theorem xS_stones (hS : xS_S D h o T n fs b m bd pt tb tw) : h (o + 3) = some (.inl (D.1 100, n * n, .inl (fun q => nI (b q)))) := by
  obtain ⟨s1, ⟨c, f, A, O, S, BR, LB, HO, CB, ar, o', s, ⟨r1, r2, r3, r4, r5, r6, r7, r8, hx⟩, -⟩, -⟩ := hS
  exact r8
theorem xS_b (hS : xS_S D h o T n fs b m bd pt tb tw) : ∀ q, q < n * n → b q ≤ 2 := by
  obtain ⟨s1, ⟨c, f, A, O, S, BR, LB, HO, CB, ar, o', s, ⟨r1, r2, r3, r4, r5, r6, r7, r8, hN, hf, hb⟩, -⟩, -⟩ := hS
  exact hb
theorem c_SB_size (hS : xS_S D h o T n fs b m bd pt tb tw) :
    xa_M l D H0 M_SB_size 0 0 0 0 [.ref o] h sz (fun v h' sz' => v = some (.int (nI n)) ∧ h' = h ∧ sz' = sz) := by
  have s1 := hS.1
  refine xa_enter (by decide) rfl rfl ?_
  refine xa_aload_n d_SB_size_0 rfl ?_
  refine xa_getf f_SB_27 d_SB_size_1 (by assumption) (by rfl) ?_
  exact xa_ireturn d_SB_size_4 rfl (by decide) (by decide) ⟨rfl, rfl, rfl⟩
theorem c_SB_moves (hS : xS_S D h o T n fs b m bd pt tb tw) :
    xa_M l D H0 M_SB_moves 0 0 0 0 [.ref o] h sz (fun v h' sz' => v = some (.int (nI m)) ∧ h' = h ∧ sz' = sz) := by
  have s1 := hS.1
  obtain ⟨q, B, ob, F, V, e1, e2, hP, hB, hV, hK⟩ := hS.2.2.2.1
  obtain ⟨p1, p2⟩ := hP m (Nat.le_refl m)
  refine xa_enter (by decide) rfl rfl ?_
  refine xa_aload_n d_SB_moves_0 rfl ?_
  refine xa_getf f_SB_59 d_SB_moves_1 (by assumption) (by rfl) ?_
  refine xa_getf f_SB_96 d_SB_moves_4 (by assumption) (by rfl) ?_
  refine xa_getf f_SB_100 d_SB_moves_7 (by assumption) (by rfl) ?_
  exact xa_ireturn d_SB_moves_10 rfl (by decide) (by decide) ⟨rfl, rfl, rfl⟩
theorem c_SB_turn (hS : xS_S D h o T n fs b m bd pt tb tw) (hI : xS_I n fs b m bd) :
    xa_M l D H0 M_SB_turn 1 20 0 0 [.ref o] h sz (fun v h' sz' => v = some (.int (nI (gx_turn fs m))) ∧ h' = h ∧ sz' = sz) := by
  have s1 := hS.1
  obtain ⟨q, B, ob, F, V, e1, e2, hP, hB, hV, hK⟩ := hS.2.2.2.1
  obtain ⟨p1, p2⟩ := hP m (Nat.le_refl m)
  have hm := hI.2.2.1
  have hfs := hI.2.1
  refine xa_enter (by decide) rfl rfl ?_
  refine xa_aload_n d_SB_turn_0 rfl ?_
  refine xa_getf f_SB_59 d_SB_turn_1 (by assumption) (by rfl) ?_
  refine xa_getf f_SB_96 d_SB_turn_4 (by assumption) (by rfl) ?_
  refine xa_getf f_SB_100 d_SB_turn_7 (by assumption) (by rfl) ?_
  refine xa_iconst (v := nI 2) d_SB_turn_10 rfl ?_
  refine xa_iremN d_SB_turn_11 (by omega) (by omega) (by omega) ?_
  refine xa_if_neN (tgt := 22) d_SB_turn_12 (by decide) (by omega) (fun hz => ?_) (fun hz => ?_)
  ·
    refine xa_aload_n d_SB_turn_22 rfl ?_
    refine xa_getf f_SB_70 d_SB_turn_23 (by assumption) (by rfl) ?_
    refine xa_callSr (As := [.int (nI fs)]) (st := []) d_SB_turn_26 k_SB_105 (c_SB_otherSide (by omega)) rfl rfl (Nat.le_of_ble_eq_true rfl) ⟨by decide, by decide⟩ (by decide) (by decide) ?_
    refine xa_ireturn d_SB_turn_29 rfl (by decide) (by decide) ⟨?_, rfl, rfl⟩
    unfold gx_turn
    rw [if_neg (by omega)]
  ·
    refine xa_aload_n d_SB_turn_15 rfl ?_
    refine xa_getf f_SB_70 d_SB_turn_16 (by assumption) (by rfl) ?_
    refine xa_goto (tgt := 29) d_SB_turn_19 (by decide) ?_
    refine xa_ireturn d_SB_turn_29 rfl (by decide) (by decide) ⟨?_, rfl, rfl⟩
    unfold gx_turn
    rw [if_pos hz]
theorem c_SB_checkPoint {p : Nat} (hS : xS_S D h o T n fs b m bd pt tb tw) (hI : xS_I n fs b m bd) (hp : p < n * n) :
    xa_M l D H0 M_SB_checkPoint 6 89 0 0 [.ref o, .int (nI p)] h sz (fun v h' sz' => v = none ∧ h' = h ∧ sz' = sz) := by
  have s1 := hS.1
  have r6 := xS_grid hS
  have hN : n * n ≤ 169 := Nat.mul_le_mul hI.1.2 hI.1.2
  refine xa_enter (by decide) rfl rfl ?_
  refine xa_iload_n d_SB_checkPoint_0 rfl ?_
  refine xa_if_lt (tgt := 15) d_SB_checkPoint_1 (by decide) (fun hz => ?_) (fun hz => ?_)
  · exact absurd hz (nI_pos (by omega))
  ·
    refine xa_iload_n d_SB_checkPoint_4 rfl ?_
    refine xa_aload_n d_SB_checkPoint_5 rfl ?_
    refine xa_getf f_SB_30 d_SB_checkPoint_6 (by assumption) (by rfl) ?_
    refine xa_getf f_SB_23 d_SB_checkPoint_9 (by assumption) (by rfl) ?_
    refine xa_icmp_ltN (tgt := 23) d_SB_checkPoint_12 (by decide) (by omega) (by omega) (fun hq => ?_) (fun hq => ?_)
    · exact xa_return d_SB_checkPoint_23 rfl (by decide) (by decide) ⟨rfl, rfl, rfl⟩
    · omega
theorem t_SB_checkPoint {x : Int32} (htr : l.stackTraces = false) (hS : xS_S D h o T n fs b m bd pt tb tw) (hx : x < 0 ∨ nI (n * n) ≤ x) :
    xa_T l D H0 M_SB_checkPoint 6 89 1 6 [.ref o, .int x] h sz "java/lang/IndexOutOfBoundsException" (fun h' sz' => h' = h ∧ sz ≤ sz') := by
  have s1 := hS.1
  have r6 := xS_grid hS
  refine xa_enterT (by decide) rfl rfl ?_
  have go : xa_X l D H0 M_SB_checkPoint (xa_rm 6 1 6 89) (xa_Zt D H0 1 6 "java/lang/IndexOutOfBoundsException" (fun h' sz' => h' = h ∧ sz ≤ sz')) 0 0 h sz 15 [(0, .ref o), (1, .int x)] [] :=
    xa_throw htr rfl t_IOOB d_SB_checkPoint_15 d_SB_checkPoint_18 d_SB_checkPoint_19 d_SB_checkPoint_22 (by decide) (by decide) (by decide) (by decide) (by decide) (by decide) (fun sz' hz => ⟨rfl, hz⟩)
  refine xa_iload_n d_SB_checkPoint_0 rfl ?_
  refine xa_if_lt (tgt := 15) d_SB_checkPoint_1 (by decide) (fun hz => ?_) (fun hz => ?_)
  · exact go
  ·
    refine xa_iload_n d_SB_checkPoint_4 rfl ?_
    refine xa_aload_n d_SB_checkPoint_5 rfl ?_
    refine xa_getf f_SB_30 d_SB_checkPoint_6 (by assumption) (by rfl) ?_
    refine xa_getf f_SB_23 d_SB_checkPoint_9 (by assumption) (by rfl) ?_
    refine xa_icmp_lt (tgt := 23) d_SB_checkPoint_12 (by decide) (fun hq => ?_) (fun hq => ?_)
    · exact absurd hq (fun z => by
        rcases hx with hx | hx
        · exact hz hx
        · rw [i32_lt] at z
          rw [Int32.le_iff_toInt_le] at hx
          omega)
    · exact go
theorem c_SB_checkKind {k : Nat} (hk : k ≤ 2) :
    xa_M l D H0 M_SB_checkKind 6 89 0 0 [.int (nI k)] h sz (fun v h' sz' => v = none ∧ h' = h ∧ sz' = sz) := by
  refine xa_enter (by decide) rfl rfl ?_
  refine xa_iload_n d_SB_checkKind_0 rfl ?_
  refine xa_if_lt (tgt := 9) d_SB_checkKind_1 (by decide) (fun hz => ?_) (fun hz => ?_)
  · exact absurd hz (nI_pos (by omega))
  ·
    refine xa_iload_n d_SB_checkKind_4 rfl ?_
    refine xa_iconst (v := nI 2) d_SB_checkKind_5 rfl ?_
    refine xa_icmp_leN (tgt := 17) d_SB_checkKind_6 (by decide) (by omega) (by omega) (fun hq => ?_) (fun hq => ?_)
    · exact xa_return d_SB_checkKind_17 rfl (by decide) (by decide) ⟨rfl, rfl, rfl⟩
    · omega
theorem t_SB_checkKind {x : Int32} (htr : l.stackTraces = false) (hx : x < 0 ∨ nI 2 < x) :
    xa_T l D H0 M_SB_checkKind 6 89 1 6 [.int x] h sz "java/lang/IllegalArgumentException" (fun h' sz' => h' = h ∧ sz ≤ sz') := by
  refine xa_enterT (by decide) rfl rfl ?_
  have go : xa_X l D H0 M_SB_checkKind (xa_rm 6 1 6 89) (xa_Zt D H0 1 6 "java/lang/IllegalArgumentException" (fun h' sz' => h' = h ∧ sz ≤ sz')) 0 0 h sz 9 [(0, .int x)] [] :=
    xa_throw htr rfl t_IAE d_SB_checkKind_9 d_SB_checkKind_12 d_SB_checkKind_13 d_SB_checkKind_16 (by decide) (by decide) (by decide) (by decide) (by decide) (by decide) (fun sz' hz => ⟨rfl, hz⟩)
  refine xa_iload_n d_SB_checkKind_0 rfl ?_
  refine xa_if_lt (tgt := 9) d_SB_checkKind_1 (by decide) (fun hz => ?_) (fun hz => ?_)
  · exact go
  ·
    refine xa_iload_n d_SB_checkKind_4 rfl ?_
    refine xa_iconst (v := nI 2) d_SB_checkKind_5 rfl ?_
    refine xa_icmp_le (tgt := 17) d_SB_checkKind_6 (by decide) (fun hq => ?_) (fun hq => ?_)
    · exact absurd hq (fun z => by
        rcases hx with hx | hx
        · exact hz hx
        · rw [i32_lt] at hx
          rw [Int32.le_iff_toInt_le] at z
          omega)
    · exact go
theorem c_SB_checkSide {k : Nat} (hk : k = 1 ∨ k = 2) :
    xa_M l D H0 M_SB_checkSide 6 89 0 0 [.int (nI k)] h sz (fun v h' sz' => v = none ∧ h' = h ∧ sz' = sz) := by
  refine xa_enter (by decide) rfl rfl ?_
  refine xa_iload_n d_SB_checkSide_0 rfl ?_
  refine xa_iconst (v := nI 1) d_SB_checkSide_1 rfl ?_
  refine xa_icmp_eqN (tgt := 18) d_SB_checkSide_2 (by decide) (by omega) (by omega) (fun hz => ?_) (fun hz => ?_)
  · exact xa_return d_SB_checkSide_18 rfl (by decide) (by decide) ⟨rfl, rfl, rfl⟩
  ·
    refine xa_iload_n d_SB_checkSide_5 rfl ?_
    refine xa_iconst (v := nI 2) d_SB_checkSide_6 rfl ?_
    refine xa_icmp_eqN (tgt := 18) d_SB_checkSide_7 (by decide) (by omega) (by omega) (fun hq => ?_) (fun hq => ?_)
    · exact xa_return d_SB_checkSide_18 rfl (by decide) (by decide) ⟨rfl, rfl, rfl⟩
    · omega
theorem t_SB_checkSide {x : Int32} (htr : l.stackTraces = false) (hx : x ≠ nI 1 ∧ x ≠ nI 2) :
    xa_T l D H0 M_SB_checkSide 6 89 1 6 [.int x] h sz "java/lang/IllegalArgumentException" (fun h' sz' => h' = h ∧ sz ≤ sz') := by
  refine xa_enterT (by decide) rfl rfl ?_
  refine xa_iload_n d_SB_checkSide_0 rfl ?_
  refine xa_iconst (v := nI 1) d_SB_checkSide_1 rfl ?_
  refine xa_icmp_eq (tgt := 18) d_SB_checkSide_2 (by decide) (fun hz => ?_) (fun hz => ?_)
  · exact absurd hz hx.1
  ·
    refine xa_iload_n d_SB_checkSide_5 rfl ?_
    refine xa_iconst (v := nI 2) d_SB_checkSide_6 rfl ?_
    refine xa_icmp_eq (tgt := 18) d_SB_checkSide_7 (by decide) (fun hq => ?_) (fun hq => ?_)
    · exact absurd hq hx.2
    · exact xa_throw htr rfl t_IAE d_SB_checkSide_10 d_SB_checkSide_13 d_SB_checkSide_14 d_SB_checkSide_17 (by decide) (by decide) (by decide) (by decide) (by decide) (by decide) (fun sz' hz => ⟨rfl, hz⟩)
theorem c_SB_checkNoMoveYet (hS : xS_S D h o T n fs b m bd pt tb tw) (hm : m = 0) :
    xa_M l D H0 M_SB_checkNoMoveYet 6 89 0 0 [.ref o] h sz (fun v h' sz' => v = none ∧ h' = h ∧ sz' = sz) := by
  have s1 := hS.1
  obtain ⟨q, B, ob, F, V, e1, e2, hP, hB, hV, hK⟩ := hS.2.2.2.1
  obtain ⟨p1, p2⟩ := hP m (Nat.le_refl m)
  refine xa_enter (by decide) rfl rfl ?_
  refine xa_aload_n d_SB_checkNoMoveYet_0 rfl ?_
  refine xa_getf f_SB_59 d_SB_checkNoMoveYet_1 (by assumption) (by rfl) ?_
  refine xa_getf f_SB_96 d_SB_checkNoMoveYet_4 (by assumption) (by rfl) ?_
  refine xa_getf f_SB_100 d_SB_checkNoMoveYet_7 (by assumption) (by rfl) ?_
  refine xa_if_eqN (tgt := 21) d_SB_checkNoMoveYet_10 (by decide) (by omega) (fun hz => ?_) (fun hz => ?_)
  · exact xa_return d_SB_checkNoMoveYet_21 rfl (by decide) (by decide) ⟨rfl, rfl, rfl⟩
  · omega
theorem t_SB_checkNoMoveYet (htr : l.stackTraces = false) (hS : xS_S D h o T n fs b m bd pt tb tw) (hm : m ≠ 0 ∧ m < 1000) :
    xa_T l D H0 M_SB_checkNoMoveYet 6 89 1 6 [.ref o] h sz "java/lang/IllegalStateException" (fun h' sz' => h' = h ∧ sz ≤ sz') := by
  have s1 := hS.1
  obtain ⟨q, B, ob, F, V, e1, e2, hP, hB, hV, hK⟩ := hS.2.2.2.1
  obtain ⟨p1, p2⟩ := hP m (Nat.le_refl m)
  refine xa_enterT (by decide) rfl rfl ?_
  refine xa_aload_n d_SB_checkNoMoveYet_0 rfl ?_
  refine xa_getf f_SB_59 d_SB_checkNoMoveYet_1 (by assumption) (by rfl) ?_
  refine xa_getf f_SB_96 d_SB_checkNoMoveYet_4 (by assumption) (by rfl) ?_
  refine xa_getf f_SB_100 d_SB_checkNoMoveYet_7 (by assumption) (by rfl) ?_
  refine xa_if_eqN (tgt := 21) d_SB_checkNoMoveYet_10 (by decide) (by omega) (fun hz => ?_) (fun hz => ?_)
  · omega
  · exact xa_throw htr rfl t_ISE d_SB_checkNoMoveYet_13 d_SB_checkNoMoveYet_16 d_SB_checkNoMoveYet_17 d_SB_checkNoMoveYet_20 (by decide) (by decide) (by decide) (by decide) (by decide) (by decide) (fun sz' hz => ⟨rfl, hz⟩)
theorem c_SB_checkRoomForMove (hS : xS_S D h o T n fs b m bd pt tb tw) (hm : m < 1000) :
    xa_M l D H0 M_SB_checkRoomForMove 6 89 0 0 [.ref o] h sz (fun v h' sz' => v = none ∧ h' = h ∧ sz' = sz) := by
  have s1 := hS.1
  obtain ⟨q, B, ob, F, V, e1, e2, hP, hB, hV, hK⟩ := hS.2.2.2.1
  obtain ⟨p1, p2⟩ := hP m (Nat.le_refl m)
  refine xa_enter (by decide) rfl rfl ?_
  refine xa_aload_n d_SB_checkRoomForMove_0 rfl ?_
  refine xa_getf f_SB_59 d_SB_checkRoomForMove_1 (by assumption) (by rfl) ?_
  refine xa_getf f_SB_96 d_SB_checkRoomForMove_4 (by assumption) (by rfl) ?_
  refine xa_getf f_SB_100 d_SB_checkRoomForMove_7 (by assumption) (by rfl) ?_
  refine xa_sipush (v := nI 1000) d_SB_checkRoomForMove_10 (by decide) ?_
  refine xa_icmp_ltN (tgt := 24) d_SB_checkRoomForMove_13 (by decide) (by omega) (by omega) (fun hz => ?_) (fun hz => ?_)
  · exact xa_return d_SB_checkRoomForMove_24 rfl (by decide) (by decide) ⟨rfl, rfl, rfl⟩
  · omega
theorem c_SB_findBoardBehind {p : Nat} (hS : xS_S D h o T n fs b m bd pt tb tw) (hI : xS_I n fs b m bd) (hT : o + 28 ≤ T) (hp : p < n * n) (hp0 : b p = 0) :
    xa_M l D H0 M_SB_findBoardBehind 4 93 0 0 [.ref o, .int (nI p)] h sz (fun v h' sz' => (∃ (t : Nat → Nat) (k ls : Nat), gq_T n b p (gx_turn fs m) t k ls ∧ xT_V D h' (o + 13) (o + 1) (o + 3) (o + 4) (n * n) t k ls ∧
      ((v = some .null ∧ ∀ j, j ≤ m → ¬ gx_same (n * n) (bd j) t) ∨ ∃ (j a : Nat) (v1 v2 v3 v5 v6 v7 : Value), j ≤ m ∧ v = some (.ref a) ∧ h' a = some (.inr (6, [v1, v2, v3, .int (nI j), v5, v6, v7])) ∧ gx_same (n * n) (bd j) t ∧ ∀ j', j < j' → j' ≤ m → ¬ gx_same (n * n) (bd j') t)) ∧ xS_S D h' o T n fs b m bd pt tb tw ∧ (∀ q, q ≠ o + 13 → q ≠ o + 14 → h' q = h q) ∧ sz' = sz) := by
  have hN : n * n ≤ 169 := Nat.mul_le_mul hI.1.2 hI.1.2
  obtain ⟨s1, ⟨c, f, A, O, S, BR, LB, HO, CB, ar, o', s, hr, h5, h6, h7, h8, hW, hA⟩, ⟨V0, k0, ls0, t1, t2⟩, ⟨q, B, ob, F, V, e1, e2, hP, hB, hV, hK⟩, s5⟩ := id hS
  obtain ⟨p1, p2⟩ := hP m (Nat.le_refl m)
  have hq : xq_R D h n (o + 4) (o + 1) (o + 3) c f A O S BR b ar o' s := ⟨hr, h5, hW, fun a ha h0 => ((hA a ha).2 h0).2.1⟩
  have hh : xr_h D h (o + 13) (o + 1) (o + 3) (o + 4) (n * n) V0 k0 ls0 = h := by
    unfold xr_h
    rw [xa_us _ t2, xa_us _ t1]
  have hKm := (hK m (Nat.le_refl m)).2
  have hKn : ∀ a, xh_K (o + 15) T a → a ≠ o + 13 ∧ a ≠ o + 14 := fun a ha => by unfold xh_K at ha; omega
  have hatt := c_Trial_attempt (l := l) (H0 := H0) (sz := sz) (sd := gx_turn fs m) (k := k0) (ls := ls0) (V0 := V0) hq (show o + 1 + 1 < o + 4 ∧ o + 3 < o + 4 ∧ o + 4 + 8 < o + 13 by omega) hp hp0 (gx_turn_or hI.2.1) p2 (gp_B_ext (hV m (Nat.le_refl m)) hI.2.2.2.1) (hKn _ hKm)
  rw [hh] at hatt
  refine xa_enter (by decide) rfl rfl ?_
  refine xa_aload_n d_SB_findBoardBehind_0 rfl ?_
  refine xa_getf f_SB_52 d_SB_findBoardBehind_1 (by assumption) (by rfl) ?_
  refine xa_aload_n d_SB_findBoardBehind_4 rfl ?_
  refine xa_getf f_SB_59 d_SB_findBoardBehind_5 (by assumption) (by rfl) ?_
  refine xa_getf f_SB_96 d_SB_findBoardBehind_8 (by assumption) (by rfl) ?_
  refine xa_getf f_SB_204 d_SB_findBoardBehind_11 (by assumption) (by rfl) ?_
  refine xa_iload_n d_SB_findBoardBehind_14 rfl ?_
  refine xa_aload_n d_SB_findBoardBehind_15 rfl ?_
  refine xa_callVr (As := []) (st := [.int (nI p), .ref (B m), .ref (o + 13)]) d_SB_findBoardBehind_16 k_SB_205 s1 (c_SB_turn hS hI) rfl rfl (Nat.le_of_ble_eq_true rfl) ⟨by decide, by decide⟩ (by decide) (by decide) ?_
  refine xa_callV (As := [.ref (B m), .int (nI p), .int (nI (gx_turn fs m))]) (st := []) d_SB_findBoardBehind_19 k_SB_208 t1 hatt rfl rfl (Nat.le_of_ble_eq_true rfl) ⟨by decide, by decide⟩ (by decide) (by decide) (fun v h' sz' hq' => ?_)
  obtain ⟨t, V', k, ls, hV', hTq, hv, hh', hz'⟩ := hq'
  rw [hv, hz']
  have g1 : ∀ q, q ≠ o + 13 → q ≠ o + 14 → h' q = h q := fun q h1 h2 => by rw [hh']; exact xr_hn rfl h1 h2
  have g2 : h' (o + 13) = some (.inr (7, [.ref (o + 13 + 1), .int (nI k), .int (nI ls), .ref (o + 1), .ref (o + 3), .ref (o + 4)])) := by rw [hh']; exact xr_h0
  have g3 : h' (o + 13 + 1) = some (xp_c D (n * n) V') := by rw [hh']; exact xr_h1
  have g4 : h' o = some (.inr (0, [.int (nI n), .ref (o + 1), .ref (o + 3), .ref (o + 4), .ref (o + 13), .ref (o + 15), .ref (o + 19), .int (nI fs)])) := by rw [g1 o (by omega) (by omega)]; exact s1
  have g5 : h' (o + 15) = some (.inr (4, [.ref (q m), .ref (o + 15 + 1)])) := by rw [g1 _ (by omega) (by omega)]; exact e1
  have g6 : h' (o + 15 + 1) = some (.inl (D.1 103, 128, .inr (.inr (.inr (.inr F))))) := by rw [g1 _ (by omega) (by omega)]; exact e2
  have g7 : xh_P D h' (n * n) m q B ob pt tb tw V := fun i hi => ⟨by rw [g1 _ (hKn _ (hK i hi).1).1 (hKn _ (hK i hi).1).2]; exact (hP i hi).1, by rw [g1 _ (hKn _ (hK i hi).2).1 (hKn _ (hK i hi).2).2]; exact (hP i hi).2⟩
  have hsame : ∀ j, j ≤ m → (xh_E (n * n) (V j) V' ↔ gx_same (n * n) (bd j) t) := fun j hj => gp_B_eq (hV j hj) hV'
  have hS' : xS_S D h' o T n fs b m bd pt tb tw := hS.trial hT g1 ⟨V', k, ls, g2, g3⟩
  refine xa_aload_n d_SB_findBoardBehind_22 rfl ?_
  refine xa_getf f_SB_59 d_SB_findBoardBehind_23 (by assumption) (by rfl) ?_
  refine xa_aload_n d_SB_findBoardBehind_26 rfl ?_
  refine xa_getf f_SB_52 d_SB_findBoardBehind_27 (by assumption) (by rfl) ?_
  refine xa_getf f_SB_118 d_SB_findBoardBehind_30 (by assumption) (by rfl) ?_
  refine xa_callV (As := [.ref (o + 13 + 1)]) (st := []) d_SB_findBoardBehind_33 k_SB_212 g5 (c_History_find g5 g6 g7 hB g3 (by omega) (fun j hj i hi => (hV j hj i hi).1) (fun i hi => (hV' i hi).1)) rfl rfl (Nat.le_of_ble_eq_true rfl) ⟨by decide, by decide⟩ (by decide) (by decide) (fun v2 h2 sz2 hq2 => ?_)
  obtain ⟨hv2, hh2, hz2⟩ := hq2
  rw [hh2, hz2]
  rcases hv2 with ⟨hv2, hno⟩ | ⟨j, hj, hv2, hE, hno⟩
  · rw [hv2]
    exact xa_areturnN d_SB_findBoardBehind_36 rfl (Or.inl ⟨_, rfl⟩) (by decide) (by decide) ⟨⟨t, k, ls, hTq, ⟨V', hV', g2, g3⟩, Or.inl ⟨rfl, fun j hj z => hno j hj ((hsame j hj).mpr z)⟩⟩, hS', g1, rfl⟩
  · rw [hv2]
    exact xa_areturn d_SB_findBoardBehind_36 rfl (Or.inl ⟨_, rfl⟩) (by decide) (by decide) ⟨⟨t, k, ls, hTq, ⟨V', hV', g2, g3⟩, Or.inr ⟨j, q j, _, _, _, _, _, _, hj, rfl, (g7 j hj).1, (hsame j hj).mp hE, fun j' h1 h2 z => hno j' h1 h2 ((hsame j' h2).mpr z)⟩⟩, hS', g1, rfl⟩
/-- why a move isn't allowed, and what its trial leaves -/
def gx_why (D : va_G) (h' : xa_H) (o n fs : Nat) (b : Nat → Nat) (m : Nat) (bd : Nat → Nat → Nat) (pt : Nat → Int32) (p j : Nat) : Prop :=
  (gx_end pt m ∧ j = 1) ∨ (¬ gx_end pt m ∧ b p ≠ 0 ∧ j = 2) ∨ (¬ gx_end pt m ∧ b p = 0 ∧ ∃ (t : Nat → Nat) (k ls : Nat), gq_T n b p (gx_turn fs m) t k ls ∧ (((∃ i, i ≤ m ∧ gx_same (n * n) (bd i) t) ∧ j = 3) ∨ ((∀ i, i ≤ m → ¬ gx_same (n * n) (bd i) t) ∧ j = 0 ∧ xT_V D h' (o + 13) (o + 1) (o + 3) (o + 4) (n * n) t k ls)))
theorem c_SB_judgeMove {p : Nat} (hS : xS_S D h o T n fs b m bd pt tb tw) (hI : xS_I n fs b m bd) (hT : o + 28 ≤ T) (hp : p < n * n) :
    xa_M l D H0 M_SB_judgeMove 5 114 0 0 [.ref o, .int (nI p)] h sz (fun v h' sz' => (∃ j, v = some (.int (nI j)) ∧ gx_why D h' o n fs b m bd pt p j) ∧ xS_S D h' o T n fs b m bd pt tb tw ∧ (∀ q, q ≠ o + 13 → q ≠ o + 14 → h' q = h q) ∧ sz' = sz) := by
  have hN : n * n ≤ 169 := Nat.mul_le_mul hI.1.2 hI.1.2
  have s1 := hS.1
  have r8 := xS_stones hS
  have hb := xS_b hS
  obtain ⟨q, B, ob, F, V, e1, e2, hP, hB, hV, hK⟩ := hS.2.2.2.1
  refine xa_enter (by decide) rfl rfl ?_
  refine xa_aload_n d_SB_judgeMove_0 rfl ?_
  refine xa_getf f_SB_59 d_SB_judgeMove_1 (by assumption) (by rfl) ?_
  refine xa_callVr (As := []) (st := []) d_SB_judgeMove_4 k_SB_135 e1 (c_History_hasEnded e1 hP) rfl rfl (Nat.le_of_ble_eq_true rfl) ⟨by decide, by decide⟩ (by decide) (by decide) ?_
  by_cases hend : gx_end pt m
  · refine xa_int (y := nI 1) (if_pos (c := pt m = -1 ∧ m ≠ 0 ∧ pt (m - 1) = -1) hend) ?_
    refine xa_if_eqN (tgt := 12) d_SB_judgeMove_7 (by decide) (by omega) (fun hz => ?_) (fun hz => ?_)
    · omega
    ·
      refine xa_iconst (v := nI 1) d_SB_judgeMove_10 rfl ?_
      exact xa_ireturn d_SB_judgeMove_11 rfl (by decide) (by decide) ⟨⟨1, rfl, Or.inl ⟨hend, rfl⟩⟩, hS, fun _ _ _ => rfl, rfl⟩
  · refine xa_int (y := nI 0) (if_neg (c := pt m = -1 ∧ m ≠ 0 ∧ pt (m - 1) = -1) hend) ?_
    refine xa_if_eqN (tgt := 12) d_SB_judgeMove_7 (by decide) (by omega) (fun hz => ?_) (fun hz => ?_)
    ·
      refine xa_aload_n d_SB_judgeMove_12 rfl ?_
      refine xa_getf f_SB_34 d_SB_judgeMove_13 (by assumption) (by rfl) ?_
      refine xa_iload_n d_SB_judgeMove_16 rfl ?_
      refine xa_ialdE d_SB_judgeMove_17 r8 rfl hp (by omega) rfl ?_
      have hbp := hb p hp
      refine xa_if_eqN (tgt := 23) d_SB_judgeMove_18 (by decide) (by omega) (fun hz2 => ?_) (fun hz2 => ?_)
      ·
        refine xa_aload_n d_SB_judgeMove_23 rfl ?_
        refine xa_iload_n d_SB_judgeMove_24 rfl ?_
        refine xa_callV (As := [.int (nI p)]) (st := []) d_SB_judgeMove_25 k_SB_200 s1 (c_SB_findBoardBehind hS hI hT hp hz2) rfl rfl (Nat.le_of_ble_eq_true rfl) ⟨by decide, by decide⟩ (by decide) (by decide) (fun v h' sz' hq' => ?_)
        obtain ⟨⟨t, k, ls, hTq, hTV, hv⟩, hS', hfr, hz'⟩ := hq'
        rw [hz']
        rcases hv with ⟨hv, hno⟩ | ⟨j, a, v1, v2, v3, v5, v6, v7, hj, hv, ha, hE, hno⟩
        · rw [hv]
          refine xa_ifnonnullN d_SB_judgeMove_28 ?_
          refine xa_iconst (v := nI 0) d_SB_judgeMove_31 rfl ?_
          refine xa_goto (tgt := 36) d_SB_judgeMove_32 (by decide) ?_
          exact xa_ireturn d_SB_judgeMove_36 rfl (by decide) (by decide) ⟨⟨0, rfl, Or.inr (Or.inr ⟨hend, hz2, t, k, ls, hTq, Or.inr ⟨hno, rfl, hTV⟩⟩)⟩, hS', hfr, rfl⟩
        · rw [hv]
          refine xa_ifnonnull (tgt := 35) d_SB_judgeMove_28 (by decide) ?_
          refine xa_iconst (v := nI 3) d_SB_judgeMove_35 rfl ?_
          exact xa_ireturn d_SB_judgeMove_36 rfl (by decide) (by decide) ⟨⟨3, rfl, Or.inr (Or.inr ⟨hend, hz2, t, k, ls, hTq, Or.inl ⟨⟨j, hj, hE⟩, rfl⟩⟩)⟩, hS', hfr, rfl⟩
      ·
        refine xa_iconst (v := nI 2) d_SB_judgeMove_21 rfl ?_
        exact xa_ireturn d_SB_judgeMove_22 rfl (by decide) (by decide) ⟨⟨2, rfl, Or.inr (Or.inl ⟨hend, by omega, rfl⟩)⟩, hS, fun _ _ _ => rfl, rfl⟩
    · omega
end SB1
