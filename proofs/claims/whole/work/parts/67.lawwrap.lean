/-! The law's wrappers. -/
theorem cat_at_IOOB {H0 : Heap} : xa_cat H0 M_Law_at 4 "java/lang/IndexOutOfBoundsException" 12 := ⟨w_cast_IOOB, [], (0, 9, 12, 13), [], rfl, rfl, by decide, by decide, w_cl_13, fun y hy => by
  cases hy⟩
theorem cat_put_IOOB {H0 : Heap} : xa_cat H0 M_Law_put 5 "java/lang/IndexOutOfBoundsException" 20 := ⟨w_cast_IOOB, [], (0, 17, 20, 13), [(0, 17, 24, 19), (0, 17, 28, 21)], rfl, rfl, by decide, by decide, w_cl_13, fun y hy => by
  cases hy⟩
theorem cat_put_IAE {H0 : Heap} : xa_cat H0 M_Law_put 5 "java/lang/IllegalArgumentException" 24 := ⟨w_cast_IAE, [(0, 17, 20, 13)], (0, 17, 24, 19), [(0, 17, 28, 21)], rfl, rfl, by decide, by decide, w_cl_19, fun y hy => by
  cases List.mem_singleton.mp hy
  exact ⟨by decide, by decide, "java/lang/IndexOutOfBoundsException", w_cl_13, fun U hU => hU.2.2.1⟩⟩
theorem cat_put_ISE {H0 : Heap} : xa_cat H0 M_Law_put 5 "java/lang/IllegalStateException" 28 := ⟨w_cast_ISE, [(0, 17, 20, 13), (0, 17, 24, 19)], (0, 17, 28, 21), [], rfl, rfl, by decide, by decide, w_cl_21, fun y hy => by
  rcases List.mem_cons.mp hy with e | hy
  · subst e
    exact ⟨by decide, by decide, "java/lang/IndexOutOfBoundsException", w_cl_13, fun U hU => hU.2.2.2.1⟩
  · cases List.mem_singleton.mp hy
    exact ⟨by decide, by decide, "java/lang/IllegalArgumentException", w_cl_19, fun U hU => hU.2.2.2.2⟩⟩
theorem cat_first_IAE {H0 : Heap} : xa_cat H0 M_Law_first 2 "java/lang/IllegalArgumentException" 8 := ⟨w_cast_IAE, [], (0, 5, 8, 19), [(0, 5, 11, 21)], rfl, rfl, by decide, by decide, w_cl_19, fun y hy => by
  cases hy⟩
theorem cat_first_ISE {H0 : Heap} : xa_cat H0 M_Law_first 2 "java/lang/IllegalStateException" 11 := ⟨w_cast_ISE, [(0, 5, 8, 19)], (0, 5, 11, 21), [], rfl, rfl, by decide, by decide, w_cl_21, fun y hy => by
  cases List.mem_singleton.mp hy
  exact ⟨by decide, by decide, "java/lang/IllegalArgumentException", w_cl_19, fun U hU => hU.2.2.2.2⟩⟩
theorem cat_play_IOOB {H0 : Heap} : xa_cat H0 M_Law_play 4 "java/lang/IndexOutOfBoundsException" 12 := ⟨w_cast_IOOB, [], (0, 9, 12, 13), [(0, 9, 15, 21)], rfl, rfl, by decide, by decide, w_cl_13, fun y hy => by
  cases hy⟩
theorem cat_play_ISE {H0 : Heap} : xa_cat H0 M_Law_play 4 "java/lang/IllegalStateException" 15 := ⟨w_cast_ISE, [(0, 9, 12, 13)], (0, 9, 15, 21), [], rfl, rfl, by decide, by decide, w_cl_21, fun y hy => by
  cases List.mem_singleton.mp hy
  exact ⟨by decide, by decide, "java/lang/IndexOutOfBoundsException", w_cl_13, fun U hU => hU.2.2.2.1⟩⟩
theorem cat_why_IOOB {H0 : Heap} : xa_cat H0 M_Law_why 4 "java/lang/IndexOutOfBoundsException" 12 := ⟨w_cast_IOOB, [], (0, 9, 12, 13), [], rfl, rfl, by decide, by decide, w_cl_13, fun y hy => by
  cases hy⟩
theorem cat_pass_ISE {H0 : Heap} : xa_cat H0 M_Law_pass 3 "java/lang/IllegalStateException" 18 := ⟨w_cast_ISE, [], (0, 15, 18, 21), [], rfl, rfl, by decide, by decide, w_cl_21, fun y hy => by
  cases hy⟩
theorem cat_back_ISE {H0 : Heap} : xa_cat H0 M_Law_back 3 "java/lang/IllegalStateException" 11 := ⟨w_cast_ISE, [], (0, 8, 11, 21), [], rfl, rfl, by decide, by decide, w_cl_21, fun y hy => by
  cases hy⟩
theorem cat_move_IOOB {H0 : Heap} : xa_cat H0 M_Law_move 4 "java/lang/IndexOutOfBoundsException" 12 := ⟨w_cast_IOOB, [], (0, 9, 12, 13), [], rfl, rfl, by decide, by decide, w_cl_13, fun y hy => by
  cases hy⟩
theorem cat_taken_IAE {H0 : Heap} : xa_cat H0 M_Law_taken 4 "java/lang/IllegalArgumentException" 12 := ⟨w_cast_IAE, [], (0, 9, 12, 19), [], rfl, rfl, by decide, by decide, w_cl_19, fun y hy => by
  cases hy⟩
theorem cat_string_IOOB {H0 : Heap} : xa_cat H0 M_Law_string 5 "java/lang/IndexOutOfBoundsException" 13 := ⟨w_cast_IOOB, [], (0, 10, 13, 13), [(0, 10, 17, 19)], rfl, rfl, by decide, by decide, w_cl_13, fun y hy => by
  cases hy⟩
theorem cat_string_IAE {H0 : Heap} : xa_cat H0 M_Law_string 5 "java/lang/IllegalArgumentException" 17 := ⟨w_cast_IAE, [(0, 10, 13, 13)], (0, 10, 17, 19), [], rfl, rfl, by decide, by decide, w_cl_19, fun y hy => by
  cases List.mem_singleton.mp hy
  exact ⟨by decide, by decide, "java/lang/IndexOutOfBoundsException", w_cl_13, fun U hU => hU.2.2.1⟩⟩
theorem cat_strings_IAE {H0 : Heap} : xa_cat H0 M_Law_strings 4 "java/lang/IllegalArgumentException" 12 := ⟨w_cast_IAE, [], (0, 9, 12, 19), [], rfl, rfl, by decide, by decide, w_cl_19, fun y hy => by
  cases hy⟩
theorem cat_ground_IAE {H0 : Heap} : xa_cat H0 M_Law_ground 4 "java/lang/IllegalArgumentException" 12 := ⟨w_cast_IAE, [], (0, 9, 12, 19), [], rfl, rfl, by decide, by decide, w_cl_19, fun y hy => by
  cases hy⟩
theorem cat_owner_IOOB {H0 : Heap} : xa_cat H0 M_Law_owner 4 "java/lang/IndexOutOfBoundsException" 12 := ⟨w_cast_IOOB, [], (0, 9, 12, 13), [], rfl, rfl, by decide, by decide, w_cl_13, fun y hy => by
  cases hy⟩
theorem cat_alive_IOOB {H0 : Heap} : xa_cat H0 M_Law_alive 4 "java/lang/IndexOutOfBoundsException" 19 := ⟨w_cast_IOOB, [], (0, 16, 19, 13), [], rfl, rfl, by decide, by decide, w_cl_13, fun y hy => by
  cases hy⟩
theorem cat_safe_IAE {H0 : Heap} : xa_cat H0 M_Law_safe 4 "java/lang/IllegalArgumentException" 12 := ⟨w_cast_IAE, [], (0, 9, 12, 19), [], rfl, rfl, by decide, by decide, w_cl_19, fun y hy => by
  cases hy⟩
theorem cat_ago_IOOB {H0 : Heap} : xa_cat H0 M_Law_ago 4 "java/lang/IndexOutOfBoundsException" 12 := ⟨w_cast_IOOB, [], (0, 9, 12, 13), [], rfl, rfl, by decide, by decide, w_cl_13, fun y hy => by
  cases hy⟩
section LW
variable {l : Launch} {D : va_G} {H0 : Heap} {h : xa_H} {sz : Nat} {o ol : Nat} {fs0 : List Value} {x1 x2 : Int32}
theorem c_Law_at {Q : Int32 → xa_H → Nat → Prop} (ho : h o = some (.inr (0, fs0))) (hM : xa_M l D H0 M_SB_at 7 110 0 0 [.ref o, .int x1] h sz (fun v h' sz' => ∃ x, v = some (.int x) ∧ Q x h' sz')) (hout : ∀ x h' sz', Q x h' sz' → ∃ F, h' ol = some (.inl (D.1 101, 1, .inr (.inl F)))) :
    xa_MW l D H0 M_Law_at 8 131 0 0 [.ref o, .int x1, .ref ol] h sz (fun v h' sz' => v = some (.int (nI 0)) ∧ ∃ (x : Int32) (h1 : xa_H) (G : Nat → Int64), Q x h1 sz' ∧ G 0 = x.toInt64 ∧ h' = xa_u h1 ol (.inl (D.1 101, 1, .inr (.inl G)))) := by
  refine xa_enterW (by decide) rfl ?_
  refine xa_aload_n d_Law_at_0 rfl ?_
  refine xa_iconst (v := nI 0) d_Law_at_1 rfl ?_
  refine xa_aload_n d_Law_at_2 rfl ?_
  refine xa_iload_n d_Law_at_3 rfl ?_
  refine xa_callV (As := [.int x1]) (st := [.int (nI 0), .ref ol]) d_Law_at_4 k_Law_7 ho hM rfl rfl (Nat.le_of_ble_eq_true rfl) ⟨by decide, by decide⟩ (Nat.le_of_ble_eq_true rfl) (Nat.le_of_ble_eq_true rfl) (fun v h' sz' hq => ?_)
  obtain ⟨x, e1, hq⟩ := hq
  rw [e1]
  obtain ⟨F, hF⟩ := hout _ _ _ hq
  show xa_X l D H0 M_Law_at _ _ _ _ h' sz' 7 _ [.int x, .int (nI 0), .ref ol]
  refine xa_i2l d_Law_at_7 rfl ?_
  refine xa_lastE (j := 0) d_Law_at_8 hF rfl (by decide) (by decide) ?_
  refine xa_goto (tgt := 15) d_Law_at_9 (by decide) ?_
  refine xa_iconst (v := nI 0) d_Law_at_15 rfl ?_
  exact xa_ireturn d_Law_at_16 rfl (by decide) (by decide) ⟨rfl, x, h', _, hq, rfl, rfl⟩
theorem t_Law_at_IOOB {Q : xa_H → Nat → Prop} (ho : h o = some (.inr (0, fs0))) (hT : xa_T l D H0 M_SB_at 7 110 1 6 [.ref o, .int x1] h sz "java/lang/IndexOutOfBoundsException" Q) :
    xa_MW l D H0 M_Law_at 8 131 1 6 [.ref o, .int x1, .ref ol] h sz (fun v h' sz' => v = some (.int (nI 1)) ∧ Q h' sz') := by
  refine xa_enterW (by decide) rfl ?_
  refine xa_aload_n d_Law_at_0 rfl ?_
  refine xa_iconst (v := nI 0) d_Law_at_1 rfl ?_
  refine xa_aload_n d_Law_at_2 rfl ?_
  refine xa_iload_n d_Law_at_3 rfl ?_
  refine xa_callVC (As := [.int x1]) (st := [.int (nI 0), .ref ol]) d_Law_at_4 cat_at_IOOB k_Law_7 ho hT rfl rfl (Nat.le_of_ble_eq_true rfl) ⟨by decide, by decide⟩ (Nat.le_of_ble_eq_true rfl) (Nat.le_of_ble_eq_true rfl) (fun a h' sz' hq => ?_)
  refine xa_astore_n d_Law_at_12 rfl rfl ?_
  refine xa_iconst (v := nI 1) d_Law_at_13 rfl ?_
  exact xa_ireturn d_Law_at_14 rfl (by decide) (by decide) ⟨rfl, hq⟩
theorem c_Law_put {Q : Nat → xa_H → Nat → Prop} (ho : h o = some (.inr (0, fs0))) (hM : xa_M l D H0 M_SB_put 7 110 2 13 [.ref o, .int x1, .int x2] h sz (fun v h' sz' => ∃ x, x ≤ 1 ∧ v = some (.int (nI x)) ∧ Q x h' sz')) (hout : ∀ x h' sz', Q x h' sz' → ∃ F, h' ol = some (.inl (D.1 101, 1, .inr (.inl F)))) :
    xa_MW l D H0 M_Law_put 8 133 2 13 [.ref o, .int x1, .int x2, .ref ol] h sz (fun v h' sz' => v = some (.int (nI 0)) ∧ ∃ (x : Nat) (h1 : xa_H) (G : Nat → Int64), x ≤ 1 ∧ Q x h1 sz' ∧ ((x = 1 ∧ G 0 = 1) ∨ (x = 0 ∧ G 0 = 0)) ∧ h' = xa_u h1 ol (.inl (D.1 101, 1, .inr (.inl G)))) := by
  refine xa_enterW (by decide) rfl ?_
  refine xa_aload_n d_Law_put_0 rfl ?_
  refine xa_iconst (v := nI 0) d_Law_put_1 rfl ?_
  refine xa_aload_n d_Law_put_2 rfl ?_
  refine xa_iload_n d_Law_put_3 rfl ?_
  refine xa_iload_n d_Law_put_4 rfl ?_
  refine xa_callV (As := [.int x1, .int x2]) (st := [.int (nI 0), .ref ol]) d_Law_put_5 k_Law_15 ho hM rfl rfl (Nat.le_of_ble_eq_true rfl) ⟨by decide, by decide⟩ (Nat.le_of_ble_eq_true rfl) (Nat.le_of_ble_eq_true rfl) (fun v h' sz' hq => ?_)
  obtain ⟨x, hx, e1, hq⟩ := hq
  rw [e1]
  obtain ⟨F, hF⟩ := hout _ _ _ hq
  show xa_X l D H0 M_Law_put _ _ _ _ h' sz' 8 _ [.int (nI x), .int (nI 0), .ref ol]
  refine xa_if_eqN (tgt := 15) d_Law_put_8 (by decide) (by omega) (fun hz => ?_) (fun hz => ?_)
  ·
    refine xa_lconst (v := 0) d_Law_put_15 rfl ?_
    refine xa_lastE (j := 0) d_Law_put_16 hF rfl (by decide) (by decide) ?_
    refine xa_goto (tgt := 32) d_Law_put_17 (by decide) ?_
    refine xa_iconst (v := nI 0) d_Law_put_32 rfl ?_
    exact xa_ireturn d_Law_put_33 rfl (by decide) (by decide) ⟨rfl, x, h', _, hx, hq, Or.inr ⟨hz, rfl⟩, rfl⟩
  ·
    refine xa_lconst (v := 1) d_Law_put_11 rfl ?_
    refine xa_goto (tgt := 16) d_Law_put_12 (by decide) ?_
    refine xa_lastE (j := 0) d_Law_put_16 hF rfl (by decide) (by decide) ?_
    refine xa_goto (tgt := 32) d_Law_put_17 (by decide) ?_
    refine xa_iconst (v := nI 0) d_Law_put_32 rfl ?_
    exact xa_ireturn d_Law_put_33 rfl (by decide) (by decide) ⟨rfl, x, h', _, hx, hq, Or.inl ⟨by omega, rfl⟩, rfl⟩
theorem t_Law_put_IOOB {Q : xa_H → Nat → Prop} (ho : h o = some (.inr (0, fs0))) (hT : xa_T l D H0 M_SB_put 7 110 1 6 [.ref o, .int x1, .int x2] h sz "java/lang/IndexOutOfBoundsException" Q) :
    xa_MW l D H0 M_Law_put 8 133 1 6 [.ref o, .int x1, .int x2, .ref ol] h sz (fun v h' sz' => v = some (.int (nI 1)) ∧ Q h' sz') := by
  refine xa_enterW (by decide) rfl ?_
  refine xa_aload_n d_Law_put_0 rfl ?_
  refine xa_iconst (v := nI 0) d_Law_put_1 rfl ?_
  refine xa_aload_n d_Law_put_2 rfl ?_
  refine xa_iload_n d_Law_put_3 rfl ?_
  refine xa_iload_n d_Law_put_4 rfl ?_
  refine xa_callVC (As := [.int x1, .int x2]) (st := [.int (nI 0), .ref ol]) d_Law_put_5 cat_put_IOOB k_Law_15 ho hT rfl rfl (Nat.le_of_ble_eq_true rfl) ⟨by decide, by decide⟩ (Nat.le_of_ble_eq_true rfl) (Nat.le_of_ble_eq_true rfl) (fun a h' sz' hq => ?_)
  refine xa_astore d_Law_put_20 rfl rfl ?_
  refine xa_iconst (v := nI 1) d_Law_put_22 rfl ?_
  exact xa_ireturn d_Law_put_23 rfl (by decide) (by decide) ⟨rfl, hq⟩
theorem t_Law_put_IAE {Q : xa_H → Nat → Prop} (ho : h o = some (.inr (0, fs0))) (hT : xa_T l D H0 M_SB_put 7 110 1 6 [.ref o, .int x1, .int x2] h sz "java/lang/IllegalArgumentException" Q) :
    xa_MW l D H0 M_Law_put 8 133 1 6 [.ref o, .int x1, .int x2, .ref ol] h sz (fun v h' sz' => v = some (.int (nI 2)) ∧ Q h' sz') := by
  refine xa_enterW (by decide) rfl ?_
  refine xa_aload_n d_Law_put_0 rfl ?_
  refine xa_iconst (v := nI 0) d_Law_put_1 rfl ?_
  refine xa_aload_n d_Law_put_2 rfl ?_
  refine xa_iload_n d_Law_put_3 rfl ?_
  refine xa_iload_n d_Law_put_4 rfl ?_
  refine xa_callVC (As := [.int x1, .int x2]) (st := [.int (nI 0), .ref ol]) d_Law_put_5 cat_put_IAE k_Law_15 ho hT rfl rfl (Nat.le_of_ble_eq_true rfl) ⟨by decide, by decide⟩ (Nat.le_of_ble_eq_true rfl) (Nat.le_of_ble_eq_true rfl) (fun a h' sz' hq => ?_)
  refine xa_astore d_Law_put_24 rfl rfl ?_
  refine xa_iconst (v := nI 2) d_Law_put_26 rfl ?_
  exact xa_ireturn d_Law_put_27 rfl (by decide) (by decide) ⟨rfl, hq⟩
theorem t_Law_put_ISE {Q : xa_H → Nat → Prop} (ho : h o = some (.inr (0, fs0))) (hT : xa_T l D H0 M_SB_put 7 110 1 6 [.ref o, .int x1, .int x2] h sz "java/lang/IllegalStateException" Q) :
    xa_MW l D H0 M_Law_put 8 133 1 6 [.ref o, .int x1, .int x2, .ref ol] h sz (fun v h' sz' => v = some (.int (nI 3)) ∧ Q h' sz') := by
  refine xa_enterW (by decide) rfl ?_
  refine xa_aload_n d_Law_put_0 rfl ?_
  refine xa_iconst (v := nI 0) d_Law_put_1 rfl ?_
  refine xa_aload_n d_Law_put_2 rfl ?_
  refine xa_iload_n d_Law_put_3 rfl ?_
  refine xa_iload_n d_Law_put_4 rfl ?_
  refine xa_callVC (As := [.int x1, .int x2]) (st := [.int (nI 0), .ref ol]) d_Law_put_5 cat_put_ISE k_Law_15 ho hT rfl rfl (Nat.le_of_ble_eq_true rfl) ⟨by decide, by decide⟩ (Nat.le_of_ble_eq_true rfl) (Nat.le_of_ble_eq_true rfl) (fun a h' sz' hq => ?_)
  refine xa_astore d_Law_put_28 rfl rfl ?_
  refine xa_iconst (v := nI 3) d_Law_put_30 rfl ?_
  exact xa_ireturn d_Law_put_31 rfl (by decide) (by decide) ⟨rfl, hq⟩
theorem c_Law_first {Q : xa_H → Nat → Prop} (ho : h o = some (.inr (0, fs0))) (hM : xa_M l D H0 M_SB_first 7 109 0 0 [.ref o, .int x1] h sz (fun v h' sz' => v = none ∧ Q h' sz')) :
    xa_MW l D H0 M_Law_first 8 130 0 0 [.ref o, .int x1] h sz (fun v h' sz' => v = some (.int (nI 0)) ∧ Q h' sz') := by
  refine xa_enterW (by decide) rfl ?_
  refine xa_aload_n d_Law_first_0 rfl ?_
  refine xa_iload_n d_Law_first_1 rfl ?_
  refine xa_callV (As := [.int x1]) (st := []) d_Law_first_2 k_Law_23 ho hM rfl rfl (Nat.le_of_ble_eq_true rfl) ⟨by decide, by decide⟩ (Nat.le_of_ble_eq_true rfl) (Nat.le_of_ble_eq_true rfl) (fun v h' sz' hq => ?_)
  obtain ⟨e1, hq⟩ := hq
  rw [e1]
  refine xa_goto (tgt := 14) d_Law_first_5 (by decide) ?_
  refine xa_iconst (v := nI 0) d_Law_first_14 rfl ?_
  exact xa_ireturn d_Law_first_15 rfl (by decide) (by decide) ⟨rfl, hq⟩
theorem t_Law_first_IAE {Q : xa_H → Nat → Prop} (ho : h o = some (.inr (0, fs0))) (hT : xa_T l D H0 M_SB_first 7 109 1 6 [.ref o, .int x1] h sz "java/lang/IllegalArgumentException" Q) :
    xa_MW l D H0 M_Law_first 8 130 1 6 [.ref o, .int x1] h sz (fun v h' sz' => v = some (.int (nI 1)) ∧ Q h' sz') := by
  refine xa_enterW (by decide) rfl ?_
  refine xa_aload_n d_Law_first_0 rfl ?_
  refine xa_iload_n d_Law_first_1 rfl ?_
  refine xa_callVC (As := [.int x1]) (st := []) d_Law_first_2 cat_first_IAE k_Law_23 ho hT rfl rfl (Nat.le_of_ble_eq_true rfl) ⟨by decide, by decide⟩ (Nat.le_of_ble_eq_true rfl) (Nat.le_of_ble_eq_true rfl) (fun a h' sz' hq => ?_)
  refine xa_astore_n d_Law_first_8 rfl rfl ?_
  refine xa_iconst (v := nI 1) d_Law_first_9 rfl ?_
  exact xa_ireturn d_Law_first_10 rfl (by decide) (by decide) ⟨rfl, hq⟩
theorem t_Law_first_ISE {Q : xa_H → Nat → Prop} (ho : h o = some (.inr (0, fs0))) (hT : xa_T l D H0 M_SB_first 7 109 1 6 [.ref o, .int x1] h sz "java/lang/IllegalStateException" Q) :
    xa_MW l D H0 M_Law_first 8 130 1 6 [.ref o, .int x1] h sz (fun v h' sz' => v = some (.int (nI 2)) ∧ Q h' sz') := by
  refine xa_enterW (by decide) rfl ?_
  refine xa_aload_n d_Law_first_0 rfl ?_
  refine xa_iload_n d_Law_first_1 rfl ?_
  refine xa_callVC (As := [.int x1]) (st := []) d_Law_first_2 cat_first_ISE k_Law_23 ho hT rfl rfl (Nat.le_of_ble_eq_true rfl) ⟨by decide, by decide⟩ (Nat.le_of_ble_eq_true rfl) (Nat.le_of_ble_eq_true rfl) (fun a h' sz' hq => ?_)
  refine xa_astore_n d_Law_first_11 rfl rfl ?_
  refine xa_iconst (v := nI 2) d_Law_first_12 rfl ?_
  exact xa_ireturn d_Law_first_13 rfl (by decide) (by decide) ⟨rfl, hq⟩
theorem c_Law_play {Q : Int32 → xa_H → Nat → Prop} (ho : h o = some (.inr (0, fs0))) (hM : xa_M l D H0 M_SB_play 7 135 2 13 [.ref o, .int x1] h sz (fun v h' sz' => ∃ x, v = some (.int x) ∧ Q x h' sz')) (hout : ∀ x h' sz', Q x h' sz' → ∃ F, h' ol = some (.inl (D.1 101, 1, .inr (.inl F)))) :
    xa_MW l D H0 M_Law_play 8 156 2 13 [.ref o, .int x1, .ref ol] h sz (fun v h' sz' => v = some (.int (nI 0)) ∧ ∃ (x : Int32) (h1 : xa_H) (G : Nat → Int64), Q x h1 sz' ∧ G 0 = x.toInt64 ∧ h' = xa_u h1 ol (.inl (D.1 101, 1, .inr (.inl G)))) := by
  refine xa_enterW (by decide) rfl ?_
  refine xa_aload_n d_Law_play_0 rfl ?_
  refine xa_iconst (v := nI 0) d_Law_play_1 rfl ?_
  refine xa_aload_n d_Law_play_2 rfl ?_
  refine xa_iload_n d_Law_play_3 rfl ?_
  refine xa_callV (As := [.int x1]) (st := [.int (nI 0), .ref ol]) d_Law_play_4 k_Law_27 ho hM rfl rfl (Nat.le_of_ble_eq_true rfl) ⟨by decide, by decide⟩ (Nat.le_of_ble_eq_true rfl) (Nat.le_of_ble_eq_true rfl) (fun v h' sz' hq => ?_)
  obtain ⟨x, e1, hq⟩ := hq
  rw [e1]
  obtain ⟨F, hF⟩ := hout _ _ _ hq
  show xa_X l D H0 M_Law_play _ _ _ _ h' sz' 7 _ [.int x, .int (nI 0), .ref ol]
  refine xa_i2l d_Law_play_7 rfl ?_
  refine xa_lastE (j := 0) d_Law_play_8 hF rfl (by decide) (by decide) ?_
  refine xa_goto (tgt := 18) d_Law_play_9 (by decide) ?_
  refine xa_iconst (v := nI 0) d_Law_play_18 rfl ?_
  exact xa_ireturn d_Law_play_19 rfl (by decide) (by decide) ⟨rfl, x, h', _, hq, rfl, rfl⟩
theorem t_Law_play_IOOB {Q : xa_H → Nat → Prop} (ho : h o = some (.inr (0, fs0))) (hT : xa_T l D H0 M_SB_play 7 135 1 6 [.ref o, .int x1] h sz "java/lang/IndexOutOfBoundsException" Q) :
    xa_MW l D H0 M_Law_play 8 156 1 6 [.ref o, .int x1, .ref ol] h sz (fun v h' sz' => v = some (.int (nI 1)) ∧ Q h' sz') := by
  refine xa_enterW (by decide) rfl ?_
  refine xa_aload_n d_Law_play_0 rfl ?_
  refine xa_iconst (v := nI 0) d_Law_play_1 rfl ?_
  refine xa_aload_n d_Law_play_2 rfl ?_
  refine xa_iload_n d_Law_play_3 rfl ?_
  refine xa_callVC (As := [.int x1]) (st := [.int (nI 0), .ref ol]) d_Law_play_4 cat_play_IOOB k_Law_27 ho hT rfl rfl (Nat.le_of_ble_eq_true rfl) ⟨by decide, by decide⟩ (Nat.le_of_ble_eq_true rfl) (Nat.le_of_ble_eq_true rfl) (fun a h' sz' hq => ?_)
  refine xa_astore_n d_Law_play_12 rfl rfl ?_
  refine xa_iconst (v := nI 1) d_Law_play_13 rfl ?_
  exact xa_ireturn d_Law_play_14 rfl (by decide) (by decide) ⟨rfl, hq⟩
theorem t_Law_play_ISE {Q : xa_H → Nat → Prop} (ho : h o = some (.inr (0, fs0))) (hT : xa_T l D H0 M_SB_play 7 135 1 6 [.ref o, .int x1] h sz "java/lang/IllegalStateException" Q) :
    xa_MW l D H0 M_Law_play 8 156 1 6 [.ref o, .int x1, .ref ol] h sz (fun v h' sz' => v = some (.int (nI 2)) ∧ Q h' sz') := by
  refine xa_enterW (by decide) rfl ?_
  refine xa_aload_n d_Law_play_0 rfl ?_
  refine xa_iconst (v := nI 0) d_Law_play_1 rfl ?_
  refine xa_aload_n d_Law_play_2 rfl ?_
  refine xa_iload_n d_Law_play_3 rfl ?_
  refine xa_callVC (As := [.int x1]) (st := [.int (nI 0), .ref ol]) d_Law_play_4 cat_play_ISE k_Law_27 ho hT rfl rfl (Nat.le_of_ble_eq_true rfl) ⟨by decide, by decide⟩ (Nat.le_of_ble_eq_true rfl) (Nat.le_of_ble_eq_true rfl) (fun a h' sz' hq => ?_)
  refine xa_astore_n d_Law_play_15 rfl rfl ?_
  refine xa_iconst (v := nI 2) d_Law_play_16 rfl ?_
  exact xa_ireturn d_Law_play_17 rfl (by decide) (by decide) ⟨rfl, hq⟩
theorem c_Law_why {Q : Int32 → xa_H → Nat → Prop} (ho : h o = some (.inr (0, fs0))) (hM : xa_M l D H0 M_SB_why 7 135 0 0 [.ref o, .int x1] h sz (fun v h' sz' => ∃ x, v = some (.int x) ∧ Q x h' sz')) (hout : ∀ x h' sz', Q x h' sz' → ∃ F, h' ol = some (.inl (D.1 101, 1, .inr (.inl F)))) :
    xa_MW l D H0 M_Law_why 8 156 0 0 [.ref o, .int x1, .ref ol] h sz (fun v h' sz' => v = some (.int (nI 0)) ∧ ∃ (x : Int32) (h1 : xa_H) (G : Nat → Int64), Q x h1 sz' ∧ G 0 = x.toInt64 ∧ h' = xa_u h1 ol (.inl (D.1 101, 1, .inr (.inl G)))) := by
  refine xa_enterW (by decide) rfl ?_
  refine xa_aload_n d_Law_why_0 rfl ?_
  refine xa_iconst (v := nI 0) d_Law_why_1 rfl ?_
  refine xa_aload_n d_Law_why_2 rfl ?_
  refine xa_iload_n d_Law_why_3 rfl ?_
  refine xa_callV (As := [.int x1]) (st := [.int (nI 0), .ref ol]) d_Law_why_4 k_Law_30 ho hM rfl rfl (Nat.le_of_ble_eq_true rfl) ⟨by decide, by decide⟩ (Nat.le_of_ble_eq_true rfl) (Nat.le_of_ble_eq_true rfl) (fun v h' sz' hq => ?_)
  obtain ⟨x, e1, hq⟩ := hq
  rw [e1]
  obtain ⟨F, hF⟩ := hout _ _ _ hq
  show xa_X l D H0 M_Law_why _ _ _ _ h' sz' 7 _ [.int x, .int (nI 0), .ref ol]
  refine xa_i2l d_Law_why_7 rfl ?_
  refine xa_lastE (j := 0) d_Law_why_8 hF rfl (by decide) (by decide) ?_
  refine xa_goto (tgt := 15) d_Law_why_9 (by decide) ?_
  refine xa_iconst (v := nI 0) d_Law_why_15 rfl ?_
  exact xa_ireturn d_Law_why_16 rfl (by decide) (by decide) ⟨rfl, x, h', _, hq, rfl, rfl⟩
theorem t_Law_why_IOOB {Q : xa_H → Nat → Prop} (ho : h o = some (.inr (0, fs0))) (hT : xa_T l D H0 M_SB_why 7 135 1 6 [.ref o, .int x1] h sz "java/lang/IndexOutOfBoundsException" Q) :
    xa_MW l D H0 M_Law_why 8 156 1 6 [.ref o, .int x1, .ref ol] h sz (fun v h' sz' => v = some (.int (nI 1)) ∧ Q h' sz') := by
  refine xa_enterW (by decide) rfl ?_
  refine xa_aload_n d_Law_why_0 rfl ?_
  refine xa_iconst (v := nI 0) d_Law_why_1 rfl ?_
  refine xa_aload_n d_Law_why_2 rfl ?_
  refine xa_iload_n d_Law_why_3 rfl ?_
  refine xa_callVC (As := [.int x1]) (st := [.int (nI 0), .ref ol]) d_Law_why_4 cat_why_IOOB k_Law_30 ho hT rfl rfl (Nat.le_of_ble_eq_true rfl) ⟨by decide, by decide⟩ (Nat.le_of_ble_eq_true rfl) (Nat.le_of_ble_eq_true rfl) (fun a h' sz' hq => ?_)
  refine xa_astore_n d_Law_why_12 rfl rfl ?_
  refine xa_iconst (v := nI 1) d_Law_why_13 rfl ?_
  exact xa_ireturn d_Law_why_14 rfl (by decide) (by decide) ⟨rfl, hq⟩
theorem c_Law_pass {Q : Nat → xa_H → Nat → Prop} (ho : h o = some (.inr (0, fs0))) (hM : xa_M l D H0 M_SB_pass 7 109 1 7 [.ref o] h sz (fun v h' sz' => ∃ x, x ≤ 1 ∧ v = some (.int (nI x)) ∧ Q x h' sz')) (hout : ∀ x h' sz', Q x h' sz' → ∃ F, h' ol = some (.inl (D.1 101, 1, .inr (.inl F)))) :
    xa_MW l D H0 M_Law_pass 8 129 1 7 [.ref o, .ref ol] h sz (fun v h' sz' => v = some (.int (nI 0)) ∧ ∃ (x : Nat) (h1 : xa_H) (G : Nat → Int64), x ≤ 1 ∧ Q x h1 sz' ∧ ((x = 1 ∧ G 0 = 1) ∨ (x = 0 ∧ G 0 = 0)) ∧ h' = xa_u h1 ol (.inl (D.1 101, 1, .inr (.inl G)))) := by
  refine xa_enterW (by decide) rfl ?_
  refine xa_aload_n d_Law_pass_0 rfl ?_
  refine xa_iconst (v := nI 0) d_Law_pass_1 rfl ?_
  refine xa_aload_n d_Law_pass_2 rfl ?_
  refine xa_callV (As := []) (st := [.int (nI 0), .ref ol]) d_Law_pass_3 k_Law_33 ho hM rfl rfl (Nat.le_of_ble_eq_true rfl) ⟨by decide, by decide⟩ (Nat.le_of_ble_eq_true rfl) (Nat.le_of_ble_eq_true rfl) (fun v h' sz' hq => ?_)
  obtain ⟨x, hx, e1, hq⟩ := hq
  rw [e1]
  obtain ⟨F, hF⟩ := hout _ _ _ hq
  show xa_X l D H0 M_Law_pass _ _ _ _ h' sz' 6 _ [.int (nI x), .int (nI 0), .ref ol]
  refine xa_if_eqN (tgt := 13) d_Law_pass_6 (by decide) (by omega) (fun hz => ?_) (fun hz => ?_)
  ·
    refine xa_lconst (v := 0) d_Law_pass_13 rfl ?_
    refine xa_lastE (j := 0) d_Law_pass_14 hF rfl (by decide) (by decide) ?_
    refine xa_goto (tgt := 21) d_Law_pass_15 (by decide) ?_
    refine xa_iconst (v := nI 0) d_Law_pass_21 rfl ?_
    exact xa_ireturn d_Law_pass_22 rfl (by decide) (by decide) ⟨rfl, x, h', _, hx, hq, Or.inr ⟨hz, rfl⟩, rfl⟩
  ·
    refine xa_lconst (v := 1) d_Law_pass_9 rfl ?_
    refine xa_goto (tgt := 14) d_Law_pass_10 (by decide) ?_
    refine xa_lastE (j := 0) d_Law_pass_14 hF rfl (by decide) (by decide) ?_
    refine xa_goto (tgt := 21) d_Law_pass_15 (by decide) ?_
    refine xa_iconst (v := nI 0) d_Law_pass_21 rfl ?_
    exact xa_ireturn d_Law_pass_22 rfl (by decide) (by decide) ⟨rfl, x, h', _, hx, hq, Or.inl ⟨by omega, rfl⟩, rfl⟩
theorem t_Law_pass_ISE {Q : xa_H → Nat → Prop} (ho : h o = some (.inr (0, fs0))) (hT : xa_T l D H0 M_SB_pass 7 109 1 6 [.ref o] h sz "java/lang/IllegalStateException" Q) :
    xa_MW l D H0 M_Law_pass 8 129 1 6 [.ref o, .ref ol] h sz (fun v h' sz' => v = some (.int (nI 1)) ∧ Q h' sz') := by
  refine xa_enterW (by decide) rfl ?_
  refine xa_aload_n d_Law_pass_0 rfl ?_
  refine xa_iconst (v := nI 0) d_Law_pass_1 rfl ?_
  refine xa_aload_n d_Law_pass_2 rfl ?_
  refine xa_callVC (As := []) (st := [.int (nI 0), .ref ol]) d_Law_pass_3 cat_pass_ISE k_Law_33 ho hT rfl rfl (Nat.le_of_ble_eq_true rfl) ⟨by decide, by decide⟩ (Nat.le_of_ble_eq_true rfl) (Nat.le_of_ble_eq_true rfl) (fun a h' sz' hq => ?_)
  refine xa_astore_n d_Law_pass_18 rfl rfl ?_
  refine xa_iconst (v := nI 1) d_Law_pass_19 rfl ?_
  exact xa_ireturn d_Law_pass_20 rfl (by decide) (by decide) ⟨rfl, hq⟩
theorem c_Law_back {Q : Int32 → xa_H → Nat → Prop} (ho : h o = some (.inr (0, fs0))) (hM : xa_M l D H0 M_SB_back 6 113 0 0 [.ref o] h sz (fun v h' sz' => ∃ x, v = some (.int x) ∧ Q x h' sz')) (hout : ∀ x h' sz', Q x h' sz' → ∃ F, h' ol = some (.inl (D.1 101, 1, .inr (.inl F)))) :
    xa_MW l D H0 M_Law_back 7 133 0 0 [.ref o, .ref ol] h sz (fun v h' sz' => v = some (.int (nI 0)) ∧ ∃ (x : Int32) (h1 : xa_H) (G : Nat → Int64), Q x h1 sz' ∧ G 0 = x.toInt64 ∧ h' = xa_u h1 ol (.inl (D.1 101, 1, .inr (.inl G)))) := by
  refine xa_enterW (by decide) rfl ?_
  refine xa_aload_n d_Law_back_0 rfl ?_
  refine xa_iconst (v := nI 0) d_Law_back_1 rfl ?_
  refine xa_aload_n d_Law_back_2 rfl ?_
  refine xa_callV (As := []) (st := [.int (nI 0), .ref ol]) d_Law_back_3 k_Law_37 ho hM rfl rfl (Nat.le_of_ble_eq_true rfl) ⟨by decide, by decide⟩ (Nat.le_of_ble_eq_true rfl) (Nat.le_of_ble_eq_true rfl) (fun v h' sz' hq => ?_)
  obtain ⟨x, e1, hq⟩ := hq
  rw [e1]
  obtain ⟨F, hF⟩ := hout _ _ _ hq
  show xa_X l D H0 M_Law_back _ _ _ _ h' sz' 6 _ [.int x, .int (nI 0), .ref ol]
  refine xa_i2l d_Law_back_6 rfl ?_
  refine xa_lastE (j := 0) d_Law_back_7 hF rfl (by decide) (by decide) ?_
  refine xa_goto (tgt := 14) d_Law_back_8 (by decide) ?_
  refine xa_iconst (v := nI 0) d_Law_back_14 rfl ?_
  exact xa_ireturn d_Law_back_15 rfl (by decide) (by decide) ⟨rfl, x, h', _, hq, rfl, rfl⟩
theorem t_Law_back_ISE {Q : xa_H → Nat → Prop} (ho : h o = some (.inr (0, fs0))) (hT : xa_T l D H0 M_SB_back 6 113 1 6 [.ref o] h sz "java/lang/IllegalStateException" Q) :
    xa_MW l D H0 M_Law_back 7 133 1 6 [.ref o, .ref ol] h sz (fun v h' sz' => v = some (.int (nI 1)) ∧ Q h' sz') := by
  refine xa_enterW (by decide) rfl ?_
  refine xa_aload_n d_Law_back_0 rfl ?_
  refine xa_iconst (v := nI 0) d_Law_back_1 rfl ?_
  refine xa_aload_n d_Law_back_2 rfl ?_
  refine xa_callVC (As := []) (st := [.int (nI 0), .ref ol]) d_Law_back_3 cat_back_ISE k_Law_37 ho hT rfl rfl (Nat.le_of_ble_eq_true rfl) ⟨by decide, by decide⟩ (Nat.le_of_ble_eq_true rfl) (Nat.le_of_ble_eq_true rfl) (fun a h' sz' hq => ?_)
  refine xa_astore_n d_Law_back_11 rfl rfl ?_
  refine xa_iconst (v := nI 1) d_Law_back_12 rfl ?_
  exact xa_ireturn d_Law_back_13 rfl (by decide) (by decide) ⟨rfl, hq⟩
theorem c_Law_move {Q : Int32 → xa_H → Nat → Prop} (ho : h o = some (.inr (0, fs0))) (hM : xa_M l D H0 M_SB_move 6 89 0 0 [.ref o, .int x1] h sz (fun v h' sz' => ∃ x, v = some (.int x) ∧ Q x h' sz')) (hout : ∀ x h' sz', Q x h' sz' → ∃ F, h' ol = some (.inl (D.1 101, 1, .inr (.inl F)))) :
    xa_MW l D H0 M_Law_move 7 110 0 0 [.ref o, .int x1, .ref ol] h sz (fun v h' sz' => v = some (.int (nI 0)) ∧ ∃ (x : Int32) (h1 : xa_H) (G : Nat → Int64), Q x h1 sz' ∧ G 0 = x.toInt64 ∧ h' = xa_u h1 ol (.inl (D.1 101, 1, .inr (.inl G)))) := by
  refine xa_enterW (by decide) rfl ?_
  refine xa_aload_n d_Law_move_0 rfl ?_
  refine xa_iconst (v := nI 0) d_Law_move_1 rfl ?_
  refine xa_aload_n d_Law_move_2 rfl ?_
  refine xa_iload_n d_Law_move_3 rfl ?_
  refine xa_callV (As := [.int x1]) (st := [.int (nI 0), .ref ol]) d_Law_move_4 k_Law_41 ho hM rfl rfl (Nat.le_of_ble_eq_true rfl) ⟨by decide, by decide⟩ (Nat.le_of_ble_eq_true rfl) (Nat.le_of_ble_eq_true rfl) (fun v h' sz' hq => ?_)
  obtain ⟨x, e1, hq⟩ := hq
  rw [e1]
  obtain ⟨F, hF⟩ := hout _ _ _ hq
  show xa_X l D H0 M_Law_move _ _ _ _ h' sz' 7 _ [.int x, .int (nI 0), .ref ol]
  refine xa_i2l d_Law_move_7 rfl ?_
  refine xa_lastE (j := 0) d_Law_move_8 hF rfl (by decide) (by decide) ?_
  refine xa_goto (tgt := 15) d_Law_move_9 (by decide) ?_
  refine xa_iconst (v := nI 0) d_Law_move_15 rfl ?_
  exact xa_ireturn d_Law_move_16 rfl (by decide) (by decide) ⟨rfl, x, h', _, hq, rfl, rfl⟩
theorem t_Law_move_IOOB {Q : xa_H → Nat → Prop} (ho : h o = some (.inr (0, fs0))) (hT : xa_T l D H0 M_SB_move 6 89 1 6 [.ref o, .int x1] h sz "java/lang/IndexOutOfBoundsException" Q) :
    xa_MW l D H0 M_Law_move 7 110 1 6 [.ref o, .int x1, .ref ol] h sz (fun v h' sz' => v = some (.int (nI 1)) ∧ Q h' sz') := by
  refine xa_enterW (by decide) rfl ?_
  refine xa_aload_n d_Law_move_0 rfl ?_
  refine xa_iconst (v := nI 0) d_Law_move_1 rfl ?_
  refine xa_aload_n d_Law_move_2 rfl ?_
  refine xa_iload_n d_Law_move_3 rfl ?_
  refine xa_callVC (As := [.int x1]) (st := [.int (nI 0), .ref ol]) d_Law_move_4 cat_move_IOOB k_Law_41 ho hT rfl rfl (Nat.le_of_ble_eq_true rfl) ⟨by decide, by decide⟩ (Nat.le_of_ble_eq_true rfl) (Nat.le_of_ble_eq_true rfl) (fun a h' sz' hq => ?_)
  refine xa_astore_n d_Law_move_12 rfl rfl ?_
  refine xa_iconst (v := nI 1) d_Law_move_13 rfl ?_
  exact xa_ireturn d_Law_move_14 rfl (by decide) (by decide) ⟨rfl, hq⟩
theorem c_Law_taken {Q : Int32 → xa_H → Nat → Prop} (ho : h o = some (.inr (0, fs0))) (hM : xa_M l D H0 M_SB_taken 7 109 0 0 [.ref o, .int x1] h sz (fun v h' sz' => ∃ x, v = some (.int x) ∧ Q x h' sz')) (hout : ∀ x h' sz', Q x h' sz' → ∃ F, h' ol = some (.inl (D.1 101, 1, .inr (.inl F)))) :
    xa_MW l D H0 M_Law_taken 8 130 0 0 [.ref o, .int x1, .ref ol] h sz (fun v h' sz' => v = some (.int (nI 0)) ∧ ∃ (x : Int32) (h1 : xa_H) (G : Nat → Int64), Q x h1 sz' ∧ G 0 = x.toInt64 ∧ h' = xa_u h1 ol (.inl (D.1 101, 1, .inr (.inl G)))) := by
  refine xa_enterW (by decide) rfl ?_
  refine xa_aload_n d_Law_taken_0 rfl ?_
  refine xa_iconst (v := nI 0) d_Law_taken_1 rfl ?_
  refine xa_aload_n d_Law_taken_2 rfl ?_
  refine xa_iload_n d_Law_taken_3 rfl ?_
  refine xa_callV (As := [.int x1]) (st := [.int (nI 0), .ref ol]) d_Law_taken_4 k_Law_44 ho hM rfl rfl (Nat.le_of_ble_eq_true rfl) ⟨by decide, by decide⟩ (Nat.le_of_ble_eq_true rfl) (Nat.le_of_ble_eq_true rfl) (fun v h' sz' hq => ?_)
  obtain ⟨x, e1, hq⟩ := hq
  rw [e1]
  obtain ⟨F, hF⟩ := hout _ _ _ hq
  show xa_X l D H0 M_Law_taken _ _ _ _ h' sz' 7 _ [.int x, .int (nI 0), .ref ol]
  refine xa_i2l d_Law_taken_7 rfl ?_
  refine xa_lastE (j := 0) d_Law_taken_8 hF rfl (by decide) (by decide) ?_
  refine xa_goto (tgt := 15) d_Law_taken_9 (by decide) ?_
  refine xa_iconst (v := nI 0) d_Law_taken_15 rfl ?_
  exact xa_ireturn d_Law_taken_16 rfl (by decide) (by decide) ⟨rfl, x, h', _, hq, rfl, rfl⟩
theorem t_Law_taken_IAE {Q : xa_H → Nat → Prop} (ho : h o = some (.inr (0, fs0))) (hT : xa_T l D H0 M_SB_taken 7 109 1 6 [.ref o, .int x1] h sz "java/lang/IllegalArgumentException" Q) :
    xa_MW l D H0 M_Law_taken 8 130 1 6 [.ref o, .int x1, .ref ol] h sz (fun v h' sz' => v = some (.int (nI 1)) ∧ Q h' sz') := by
  refine xa_enterW (by decide) rfl ?_
  refine xa_aload_n d_Law_taken_0 rfl ?_
  refine xa_iconst (v := nI 0) d_Law_taken_1 rfl ?_
  refine xa_aload_n d_Law_taken_2 rfl ?_
  refine xa_iload_n d_Law_taken_3 rfl ?_
  refine xa_callVC (As := [.int x1]) (st := [.int (nI 0), .ref ol]) d_Law_taken_4 cat_taken_IAE k_Law_44 ho hT rfl rfl (Nat.le_of_ble_eq_true rfl) ⟨by decide, by decide⟩ (Nat.le_of_ble_eq_true rfl) (Nat.le_of_ble_eq_true rfl) (fun a h' sz' hq => ?_)
  refine xa_astore_n d_Law_taken_12 rfl rfl ?_
  refine xa_iconst (v := nI 1) d_Law_taken_13 rfl ?_
  exact xa_ireturn d_Law_taken_14 rfl (by decide) (by decide) ⟨rfl, hq⟩
theorem c_Law_string {Q : Int32 → xa_H → Nat → Prop} (ho : h o = some (.inr (0, fs0))) (hM : xa_M l D H0 M_SB_string 7 110 0 0 [.ref o, .int x1, .int x2] h sz (fun v h' sz' => ∃ x, v = some (.int x) ∧ Q x h' sz')) (hout : ∀ x h' sz', Q x h' sz' → ∃ F, h' ol = some (.inl (D.1 101, 1, .inr (.inl F)))) :
    xa_MW l D H0 M_Law_string 8 133 0 0 [.ref o, .int x1, .int x2, .ref ol] h sz (fun v h' sz' => v = some (.int (nI 0)) ∧ ∃ (x : Int32) (h1 : xa_H) (G : Nat → Int64), Q x h1 sz' ∧ G 0 = x.toInt64 ∧ h' = xa_u h1 ol (.inl (D.1 101, 1, .inr (.inl G)))) := by
  refine xa_enterW (by decide) rfl ?_
  refine xa_aload_n d_Law_string_0 rfl ?_
  refine xa_iconst (v := nI 0) d_Law_string_1 rfl ?_
  refine xa_aload_n d_Law_string_2 rfl ?_
  refine xa_iload_n d_Law_string_3 rfl ?_
  refine xa_iload_n d_Law_string_4 rfl ?_
  refine xa_callV (As := [.int x1, .int x2]) (st := [.int (nI 0), .ref ol]) d_Law_string_5 k_Law_47 ho hM rfl rfl (Nat.le_of_ble_eq_true rfl) ⟨by decide, by decide⟩ (Nat.le_of_ble_eq_true rfl) (Nat.le_of_ble_eq_true rfl) (fun v h' sz' hq => ?_)
  obtain ⟨x, e1, hq⟩ := hq
  rw [e1]
  obtain ⟨F, hF⟩ := hout _ _ _ hq
  show xa_X l D H0 M_Law_string _ _ _ _ h' sz' 8 _ [.int x, .int (nI 0), .ref ol]
  refine xa_i2l d_Law_string_8 rfl ?_
  refine xa_lastE (j := 0) d_Law_string_9 hF rfl (by decide) (by decide) ?_
  refine xa_goto (tgt := 21) d_Law_string_10 (by decide) ?_
  refine xa_iconst (v := nI 0) d_Law_string_21 rfl ?_
  exact xa_ireturn d_Law_string_22 rfl (by decide) (by decide) ⟨rfl, x, h', _, hq, rfl, rfl⟩
theorem t_Law_string_IOOB {Q : xa_H → Nat → Prop} (ho : h o = some (.inr (0, fs0))) (hT : xa_T l D H0 M_SB_string 7 110 1 6 [.ref o, .int x1, .int x2] h sz "java/lang/IndexOutOfBoundsException" Q) :
    xa_MW l D H0 M_Law_string 8 133 1 6 [.ref o, .int x1, .int x2, .ref ol] h sz (fun v h' sz' => v = some (.int (nI 1)) ∧ Q h' sz') := by
  refine xa_enterW (by decide) rfl ?_
  refine xa_aload_n d_Law_string_0 rfl ?_
  refine xa_iconst (v := nI 0) d_Law_string_1 rfl ?_
  refine xa_aload_n d_Law_string_2 rfl ?_
  refine xa_iload_n d_Law_string_3 rfl ?_
  refine xa_iload_n d_Law_string_4 rfl ?_
  refine xa_callVC (As := [.int x1, .int x2]) (st := [.int (nI 0), .ref ol]) d_Law_string_5 cat_string_IOOB k_Law_47 ho hT rfl rfl (Nat.le_of_ble_eq_true rfl) ⟨by decide, by decide⟩ (Nat.le_of_ble_eq_true rfl) (Nat.le_of_ble_eq_true rfl) (fun a h' sz' hq => ?_)
  refine xa_astore d_Law_string_13 rfl rfl ?_
  refine xa_iconst (v := nI 1) d_Law_string_15 rfl ?_
  exact xa_ireturn d_Law_string_16 rfl (by decide) (by decide) ⟨rfl, hq⟩
theorem t_Law_string_IAE {Q : xa_H → Nat → Prop} (ho : h o = some (.inr (0, fs0))) (hT : xa_T l D H0 M_SB_string 7 110 1 6 [.ref o, .int x1, .int x2] h sz "java/lang/IllegalArgumentException" Q) :
    xa_MW l D H0 M_Law_string 8 133 1 6 [.ref o, .int x1, .int x2, .ref ol] h sz (fun v h' sz' => v = some (.int (nI 2)) ∧ Q h' sz') := by
  refine xa_enterW (by decide) rfl ?_
  refine xa_aload_n d_Law_string_0 rfl ?_
  refine xa_iconst (v := nI 0) d_Law_string_1 rfl ?_
  refine xa_aload_n d_Law_string_2 rfl ?_
  refine xa_iload_n d_Law_string_3 rfl ?_
  refine xa_iload_n d_Law_string_4 rfl ?_
  refine xa_callVC (As := [.int x1, .int x2]) (st := [.int (nI 0), .ref ol]) d_Law_string_5 cat_string_IAE k_Law_47 ho hT rfl rfl (Nat.le_of_ble_eq_true rfl) ⟨by decide, by decide⟩ (Nat.le_of_ble_eq_true rfl) (Nat.le_of_ble_eq_true rfl) (fun a h' sz' hq => ?_)
  refine xa_astore d_Law_string_17 rfl rfl ?_
  refine xa_iconst (v := nI 2) d_Law_string_19 rfl ?_
  exact xa_ireturn d_Law_string_20 rfl (by decide) (by decide) ⟨rfl, hq⟩
theorem c_Law_strings {Q : Int32 → xa_H → Nat → Prop} (ho : h o = some (.inr (0, fs0))) (hM : xa_M l D H0 M_SB_strings 7 109 0 0 [.ref o, .int x1] h sz (fun v h' sz' => ∃ x, v = some (.int x) ∧ Q x h' sz')) (hout : ∀ x h' sz', Q x h' sz' → ∃ F, h' ol = some (.inl (D.1 101, 1, .inr (.inl F)))) :
    xa_MW l D H0 M_Law_strings 8 130 0 0 [.ref o, .int x1, .ref ol] h sz (fun v h' sz' => v = some (.int (nI 0)) ∧ ∃ (x : Int32) (h1 : xa_H) (G : Nat → Int64), Q x h1 sz' ∧ G 0 = x.toInt64 ∧ h' = xa_u h1 ol (.inl (D.1 101, 1, .inr (.inl G)))) := by
  refine xa_enterW (by decide) rfl ?_
  refine xa_aload_n d_Law_strings_0 rfl ?_
  refine xa_iconst (v := nI 0) d_Law_strings_1 rfl ?_
  refine xa_aload_n d_Law_strings_2 rfl ?_
  refine xa_iload_n d_Law_strings_3 rfl ?_
  refine xa_callV (As := [.int x1]) (st := [.int (nI 0), .ref ol]) d_Law_strings_4 k_Law_51 ho hM rfl rfl (Nat.le_of_ble_eq_true rfl) ⟨by decide, by decide⟩ (Nat.le_of_ble_eq_true rfl) (Nat.le_of_ble_eq_true rfl) (fun v h' sz' hq => ?_)
  obtain ⟨x, e1, hq⟩ := hq
  rw [e1]
  obtain ⟨F, hF⟩ := hout _ _ _ hq
  show xa_X l D H0 M_Law_strings _ _ _ _ h' sz' 7 _ [.int x, .int (nI 0), .ref ol]
  refine xa_i2l d_Law_strings_7 rfl ?_
  refine xa_lastE (j := 0) d_Law_strings_8 hF rfl (by decide) (by decide) ?_
  refine xa_goto (tgt := 15) d_Law_strings_9 (by decide) ?_
  refine xa_iconst (v := nI 0) d_Law_strings_15 rfl ?_
  exact xa_ireturn d_Law_strings_16 rfl (by decide) (by decide) ⟨rfl, x, h', _, hq, rfl, rfl⟩
theorem t_Law_strings_IAE {Q : xa_H → Nat → Prop} (ho : h o = some (.inr (0, fs0))) (hT : xa_T l D H0 M_SB_strings 7 109 1 6 [.ref o, .int x1] h sz "java/lang/IllegalArgumentException" Q) :
    xa_MW l D H0 M_Law_strings 8 130 1 6 [.ref o, .int x1, .ref ol] h sz (fun v h' sz' => v = some (.int (nI 1)) ∧ Q h' sz') := by
  refine xa_enterW (by decide) rfl ?_
  refine xa_aload_n d_Law_strings_0 rfl ?_
  refine xa_iconst (v := nI 0) d_Law_strings_1 rfl ?_
  refine xa_aload_n d_Law_strings_2 rfl ?_
  refine xa_iload_n d_Law_strings_3 rfl ?_
  refine xa_callVC (As := [.int x1]) (st := [.int (nI 0), .ref ol]) d_Law_strings_4 cat_strings_IAE k_Law_51 ho hT rfl rfl (Nat.le_of_ble_eq_true rfl) ⟨by decide, by decide⟩ (Nat.le_of_ble_eq_true rfl) (Nat.le_of_ble_eq_true rfl) (fun a h' sz' hq => ?_)
  refine xa_astore_n d_Law_strings_12 rfl rfl ?_
  refine xa_iconst (v := nI 1) d_Law_strings_13 rfl ?_
  exact xa_ireturn d_Law_strings_14 rfl (by decide) (by decide) ⟨rfl, hq⟩
theorem c_Law_ground {Q : Int32 → xa_H → Nat → Prop} (ho : h o = some (.inr (0, fs0))) (hM : xa_M l D H0 M_SB_ground 7 109 0 0 [.ref o, .int x1] h sz (fun v h' sz' => ∃ x, v = some (.int x) ∧ Q x h' sz')) (hout : ∀ x h' sz', Q x h' sz' → ∃ F, h' ol = some (.inl (D.1 101, 1, .inr (.inl F)))) :
    xa_MW l D H0 M_Law_ground 8 130 0 0 [.ref o, .int x1, .ref ol] h sz (fun v h' sz' => v = some (.int (nI 0)) ∧ ∃ (x : Int32) (h1 : xa_H) (G : Nat → Int64), Q x h1 sz' ∧ G 0 = x.toInt64 ∧ h' = xa_u h1 ol (.inl (D.1 101, 1, .inr (.inl G)))) := by
  refine xa_enterW (by decide) rfl ?_
  refine xa_aload_n d_Law_ground_0 rfl ?_
  refine xa_iconst (v := nI 0) d_Law_ground_1 rfl ?_
  refine xa_aload_n d_Law_ground_2 rfl ?_
  refine xa_iload_n d_Law_ground_3 rfl ?_
  refine xa_callV (As := [.int x1]) (st := [.int (nI 0), .ref ol]) d_Law_ground_4 k_Law_54 ho hM rfl rfl (Nat.le_of_ble_eq_true rfl) ⟨by decide, by decide⟩ (Nat.le_of_ble_eq_true rfl) (Nat.le_of_ble_eq_true rfl) (fun v h' sz' hq => ?_)
  obtain ⟨x, e1, hq⟩ := hq
  rw [e1]
  obtain ⟨F, hF⟩ := hout _ _ _ hq
  show xa_X l D H0 M_Law_ground _ _ _ _ h' sz' 7 _ [.int x, .int (nI 0), .ref ol]
  refine xa_i2l d_Law_ground_7 rfl ?_
  refine xa_lastE (j := 0) d_Law_ground_8 hF rfl (by decide) (by decide) ?_
  refine xa_goto (tgt := 15) d_Law_ground_9 (by decide) ?_
  refine xa_iconst (v := nI 0) d_Law_ground_15 rfl ?_
  exact xa_ireturn d_Law_ground_16 rfl (by decide) (by decide) ⟨rfl, x, h', _, hq, rfl, rfl⟩
theorem t_Law_ground_IAE {Q : xa_H → Nat → Prop} (ho : h o = some (.inr (0, fs0))) (hT : xa_T l D H0 M_SB_ground 7 109 1 6 [.ref o, .int x1] h sz "java/lang/IllegalArgumentException" Q) :
    xa_MW l D H0 M_Law_ground 8 130 1 6 [.ref o, .int x1, .ref ol] h sz (fun v h' sz' => v = some (.int (nI 1)) ∧ Q h' sz') := by
  refine xa_enterW (by decide) rfl ?_
  refine xa_aload_n d_Law_ground_0 rfl ?_
  refine xa_iconst (v := nI 0) d_Law_ground_1 rfl ?_
  refine xa_aload_n d_Law_ground_2 rfl ?_
  refine xa_iload_n d_Law_ground_3 rfl ?_
  refine xa_callVC (As := [.int x1]) (st := [.int (nI 0), .ref ol]) d_Law_ground_4 cat_ground_IAE k_Law_54 ho hT rfl rfl (Nat.le_of_ble_eq_true rfl) ⟨by decide, by decide⟩ (Nat.le_of_ble_eq_true rfl) (Nat.le_of_ble_eq_true rfl) (fun a h' sz' hq => ?_)
  refine xa_astore_n d_Law_ground_12 rfl rfl ?_
  refine xa_iconst (v := nI 1) d_Law_ground_13 rfl ?_
  exact xa_ireturn d_Law_ground_14 rfl (by decide) (by decide) ⟨rfl, hq⟩
theorem c_Law_owner {Q : Int32 → xa_H → Nat → Prop} (ho : h o = some (.inr (0, fs0))) (hM : xa_M l D H0 M_SB_owner 7 110 0 0 [.ref o, .int x1] h sz (fun v h' sz' => ∃ x, v = some (.int x) ∧ Q x h' sz')) (hout : ∀ x h' sz', Q x h' sz' → ∃ F, h' ol = some (.inl (D.1 101, 1, .inr (.inl F)))) :
    xa_MW l D H0 M_Law_owner 8 131 0 0 [.ref o, .int x1, .ref ol] h sz (fun v h' sz' => v = some (.int (nI 0)) ∧ ∃ (x : Int32) (h1 : xa_H) (G : Nat → Int64), Q x h1 sz' ∧ G 0 = x.toInt64 ∧ h' = xa_u h1 ol (.inl (D.1 101, 1, .inr (.inl G)))) := by
  refine xa_enterW (by decide) rfl ?_
  refine xa_aload_n d_Law_owner_0 rfl ?_
  refine xa_iconst (v := nI 0) d_Law_owner_1 rfl ?_
  refine xa_aload_n d_Law_owner_2 rfl ?_
  refine xa_iload_n d_Law_owner_3 rfl ?_
  refine xa_callV (As := [.int x1]) (st := [.int (nI 0), .ref ol]) d_Law_owner_4 k_Law_57 ho hM rfl rfl (Nat.le_of_ble_eq_true rfl) ⟨by decide, by decide⟩ (Nat.le_of_ble_eq_true rfl) (Nat.le_of_ble_eq_true rfl) (fun v h' sz' hq => ?_)
  obtain ⟨x, e1, hq⟩ := hq
  rw [e1]
  obtain ⟨F, hF⟩ := hout _ _ _ hq
  show xa_X l D H0 M_Law_owner _ _ _ _ h' sz' 7 _ [.int x, .int (nI 0), .ref ol]
  refine xa_i2l d_Law_owner_7 rfl ?_
  refine xa_lastE (j := 0) d_Law_owner_8 hF rfl (by decide) (by decide) ?_
  refine xa_goto (tgt := 15) d_Law_owner_9 (by decide) ?_
  refine xa_iconst (v := nI 0) d_Law_owner_15 rfl ?_
  exact xa_ireturn d_Law_owner_16 rfl (by decide) (by decide) ⟨rfl, x, h', _, hq, rfl, rfl⟩
theorem t_Law_owner_IOOB {Q : xa_H → Nat → Prop} (ho : h o = some (.inr (0, fs0))) (hT : xa_T l D H0 M_SB_owner 7 110 1 6 [.ref o, .int x1] h sz "java/lang/IndexOutOfBoundsException" Q) :
    xa_MW l D H0 M_Law_owner 8 131 1 6 [.ref o, .int x1, .ref ol] h sz (fun v h' sz' => v = some (.int (nI 1)) ∧ Q h' sz') := by
  refine xa_enterW (by decide) rfl ?_
  refine xa_aload_n d_Law_owner_0 rfl ?_
  refine xa_iconst (v := nI 0) d_Law_owner_1 rfl ?_
  refine xa_aload_n d_Law_owner_2 rfl ?_
  refine xa_iload_n d_Law_owner_3 rfl ?_
  refine xa_callVC (As := [.int x1]) (st := [.int (nI 0), .ref ol]) d_Law_owner_4 cat_owner_IOOB k_Law_57 ho hT rfl rfl (Nat.le_of_ble_eq_true rfl) ⟨by decide, by decide⟩ (Nat.le_of_ble_eq_true rfl) (Nat.le_of_ble_eq_true rfl) (fun a h' sz' hq => ?_)
  refine xa_astore_n d_Law_owner_12 rfl rfl ?_
  refine xa_iconst (v := nI 1) d_Law_owner_13 rfl ?_
  exact xa_ireturn d_Law_owner_14 rfl (by decide) (by decide) ⟨rfl, hq⟩
theorem c_Law_alive {Q : Nat → xa_H → Nat → Prop} (ho : h o = some (.inr (0, fs0))) (hM : xa_M l D H0 M_SB_alive 7 116 0 0 [.ref o, .int x1] h sz (fun v h' sz' => ∃ x, x ≤ 1 ∧ v = some (.int (nI x)) ∧ Q x h' sz')) (hout : ∀ x h' sz', Q x h' sz' → ∃ F, h' ol = some (.inl (D.1 101, 1, .inr (.inl F)))) :
    xa_MW l D H0 M_Law_alive 8 137 0 0 [.ref o, .int x1, .ref ol] h sz (fun v h' sz' => v = some (.int (nI 0)) ∧ ∃ (x : Nat) (h1 : xa_H) (G : Nat → Int64), x ≤ 1 ∧ Q x h1 sz' ∧ ((x = 1 ∧ G 0 = 1) ∨ (x = 0 ∧ G 0 = 0)) ∧ h' = xa_u h1 ol (.inl (D.1 101, 1, .inr (.inl G)))) := by
  refine xa_enterW (by decide) rfl ?_
  refine xa_aload_n d_Law_alive_0 rfl ?_
  refine xa_iconst (v := nI 0) d_Law_alive_1 rfl ?_
  refine xa_aload_n d_Law_alive_2 rfl ?_
  refine xa_iload_n d_Law_alive_3 rfl ?_
  refine xa_callV (As := [.int x1]) (st := [.int (nI 0), .ref ol]) d_Law_alive_4 k_Law_60 ho hM rfl rfl (Nat.le_of_ble_eq_true rfl) ⟨by decide, by decide⟩ (Nat.le_of_ble_eq_true rfl) (Nat.le_of_ble_eq_true rfl) (fun v h' sz' hq => ?_)
  obtain ⟨x, hx, e1, hq⟩ := hq
  rw [e1]
  obtain ⟨F, hF⟩ := hout _ _ _ hq
  show xa_X l D H0 M_Law_alive _ _ _ _ h' sz' 7 _ [.int (nI x), .int (nI 0), .ref ol]
  refine xa_if_eqN (tgt := 14) d_Law_alive_7 (by decide) (by omega) (fun hz => ?_) (fun hz => ?_)
  ·
    refine xa_lconst (v := 0) d_Law_alive_14 rfl ?_
    refine xa_lastE (j := 0) d_Law_alive_15 hF rfl (by decide) (by decide) ?_
    refine xa_goto (tgt := 22) d_Law_alive_16 (by decide) ?_
    refine xa_iconst (v := nI 0) d_Law_alive_22 rfl ?_
    exact xa_ireturn d_Law_alive_23 rfl (by decide) (by decide) ⟨rfl, x, h', _, hx, hq, Or.inr ⟨hz, rfl⟩, rfl⟩
  ·
    refine xa_lconst (v := 1) d_Law_alive_10 rfl ?_
    refine xa_goto (tgt := 15) d_Law_alive_11 (by decide) ?_
    refine xa_lastE (j := 0) d_Law_alive_15 hF rfl (by decide) (by decide) ?_
    refine xa_goto (tgt := 22) d_Law_alive_16 (by decide) ?_
    refine xa_iconst (v := nI 0) d_Law_alive_22 rfl ?_
    exact xa_ireturn d_Law_alive_23 rfl (by decide) (by decide) ⟨rfl, x, h', _, hx, hq, Or.inl ⟨by omega, rfl⟩, rfl⟩
theorem t_Law_alive_IOOB {Q : xa_H → Nat → Prop} (ho : h o = some (.inr (0, fs0))) (hT : xa_T l D H0 M_SB_alive 7 116 1 6 [.ref o, .int x1] h sz "java/lang/IndexOutOfBoundsException" Q) :
    xa_MW l D H0 M_Law_alive 8 137 1 6 [.ref o, .int x1, .ref ol] h sz (fun v h' sz' => v = some (.int (nI 1)) ∧ Q h' sz') := by
  refine xa_enterW (by decide) rfl ?_
  refine xa_aload_n d_Law_alive_0 rfl ?_
  refine xa_iconst (v := nI 0) d_Law_alive_1 rfl ?_
  refine xa_aload_n d_Law_alive_2 rfl ?_
  refine xa_iload_n d_Law_alive_3 rfl ?_
  refine xa_callVC (As := [.int x1]) (st := [.int (nI 0), .ref ol]) d_Law_alive_4 cat_alive_IOOB k_Law_60 ho hT rfl rfl (Nat.le_of_ble_eq_true rfl) ⟨by decide, by decide⟩ (Nat.le_of_ble_eq_true rfl) (Nat.le_of_ble_eq_true rfl) (fun a h' sz' hq => ?_)
  refine xa_astore_n d_Law_alive_19 rfl rfl ?_
  refine xa_iconst (v := nI 1) d_Law_alive_20 rfl ?_
  exact xa_ireturn d_Law_alive_21 rfl (by decide) (by decide) ⟨rfl, hq⟩
theorem c_Law_safe {Q : Int32 → xa_H → Nat → Prop} (ho : h o = some (.inr (0, fs0))) (hM : xa_M l D H0 M_SB_safe 7 116 0 0 [.ref o, .int x1] h sz (fun v h' sz' => ∃ x, v = some (.int x) ∧ Q x h' sz')) (hout : ∀ x h' sz', Q x h' sz' → ∃ F, h' ol = some (.inl (D.1 101, 1, .inr (.inl F)))) :
    xa_MW l D H0 M_Law_safe 8 137 0 0 [.ref o, .int x1, .ref ol] h sz (fun v h' sz' => v = some (.int (nI 0)) ∧ ∃ (x : Int32) (h1 : xa_H) (G : Nat → Int64), Q x h1 sz' ∧ G 0 = x.toInt64 ∧ h' = xa_u h1 ol (.inl (D.1 101, 1, .inr (.inl G)))) := by
  refine xa_enterW (by decide) rfl ?_
  refine xa_aload_n d_Law_safe_0 rfl ?_
  refine xa_iconst (v := nI 0) d_Law_safe_1 rfl ?_
  refine xa_aload_n d_Law_safe_2 rfl ?_
  refine xa_iload_n d_Law_safe_3 rfl ?_
  refine xa_callV (As := [.int x1]) (st := [.int (nI 0), .ref ol]) d_Law_safe_4 k_Law_64 ho hM rfl rfl (Nat.le_of_ble_eq_true rfl) ⟨by decide, by decide⟩ (Nat.le_of_ble_eq_true rfl) (Nat.le_of_ble_eq_true rfl) (fun v h' sz' hq => ?_)
  obtain ⟨x, e1, hq⟩ := hq
  rw [e1]
  obtain ⟨F, hF⟩ := hout _ _ _ hq
  show xa_X l D H0 M_Law_safe _ _ _ _ h' sz' 7 _ [.int x, .int (nI 0), .ref ol]
  refine xa_i2l d_Law_safe_7 rfl ?_
  refine xa_lastE (j := 0) d_Law_safe_8 hF rfl (by decide) (by decide) ?_
  refine xa_goto (tgt := 15) d_Law_safe_9 (by decide) ?_
  refine xa_iconst (v := nI 0) d_Law_safe_15 rfl ?_
  exact xa_ireturn d_Law_safe_16 rfl (by decide) (by decide) ⟨rfl, x, h', _, hq, rfl, rfl⟩
theorem t_Law_safe_IAE {Q : xa_H → Nat → Prop} (ho : h o = some (.inr (0, fs0))) (hT : xa_T l D H0 M_SB_safe 7 116 1 6 [.ref o, .int x1] h sz "java/lang/IllegalArgumentException" Q) :
    xa_MW l D H0 M_Law_safe 8 137 1 6 [.ref o, .int x1, .ref ol] h sz (fun v h' sz' => v = some (.int (nI 1)) ∧ Q h' sz') := by
  refine xa_enterW (by decide) rfl ?_
  refine xa_aload_n d_Law_safe_0 rfl ?_
  refine xa_iconst (v := nI 0) d_Law_safe_1 rfl ?_
  refine xa_aload_n d_Law_safe_2 rfl ?_
  refine xa_iload_n d_Law_safe_3 rfl ?_
  refine xa_callVC (As := [.int x1]) (st := [.int (nI 0), .ref ol]) d_Law_safe_4 cat_safe_IAE k_Law_64 ho hT rfl rfl (Nat.le_of_ble_eq_true rfl) ⟨by decide, by decide⟩ (Nat.le_of_ble_eq_true rfl) (Nat.le_of_ble_eq_true rfl) (fun a h' sz' hq => ?_)
  refine xa_astore_n d_Law_safe_12 rfl rfl ?_
  refine xa_iconst (v := nI 1) d_Law_safe_13 rfl ?_
  exact xa_ireturn d_Law_safe_14 rfl (by decide) (by decide) ⟨rfl, hq⟩
theorem c_Law_ago {Q : Int32 → xa_H → Nat → Prop} (ho : h o = some (.inr (0, fs0))) (hM : xa_M l D H0 M_SB_ago 7 114 0 0 [.ref o, .int x1] h sz (fun v h' sz' => ∃ x, v = some (.int x) ∧ Q x h' sz')) (hout : ∀ x h' sz', Q x h' sz' → ∃ F, h' ol = some (.inl (D.1 101, 1, .inr (.inl F)))) :
    xa_MW l D H0 M_Law_ago 8 136 0 0 [.ref o, .int x1, .ref ol] h sz (fun v h' sz' => v = some (.int (nI 0)) ∧ ∃ (x : Int32) (h1 : xa_H) (G : Nat → Int64), Q x h1 sz' ∧ G 0 = x.toInt64 ∧ h' = xa_u h1 ol (.inl (D.1 101, 1, .inr (.inl G)))) := by
  refine xa_enterW (by decide) rfl ?_
  refine xa_aload_n d_Law_ago_0 rfl ?_
  refine xa_iconst (v := nI 0) d_Law_ago_1 rfl ?_
  refine xa_aload_n d_Law_ago_2 rfl ?_
  refine xa_iload_n d_Law_ago_3 rfl ?_
  refine xa_callV (As := [.int x1]) (st := [.int (nI 0), .ref ol]) d_Law_ago_4 k_Law_67 ho hM rfl rfl (Nat.le_of_ble_eq_true rfl) ⟨by decide, by decide⟩ (Nat.le_of_ble_eq_true rfl) (Nat.le_of_ble_eq_true rfl) (fun v h' sz' hq => ?_)
  obtain ⟨x, e1, hq⟩ := hq
  rw [e1]
  obtain ⟨F, hF⟩ := hout _ _ _ hq
  show xa_X l D H0 M_Law_ago _ _ _ _ h' sz' 7 _ [.int x, .int (nI 0), .ref ol]
  refine xa_i2l d_Law_ago_7 rfl ?_
  refine xa_lastE (j := 0) d_Law_ago_8 hF rfl (by decide) (by decide) ?_
  refine xa_goto (tgt := 15) d_Law_ago_9 (by decide) ?_
  refine xa_iconst (v := nI 0) d_Law_ago_15 rfl ?_
  exact xa_ireturn d_Law_ago_16 rfl (by decide) (by decide) ⟨rfl, x, h', _, hq, rfl, rfl⟩
theorem t_Law_ago_IOOB {Q : xa_H → Nat → Prop} (ho : h o = some (.inr (0, fs0))) (hT : xa_T l D H0 M_SB_ago 7 114 1 6 [.ref o, .int x1] h sz "java/lang/IndexOutOfBoundsException" Q) :
    xa_MW l D H0 M_Law_ago 8 136 1 6 [.ref o, .int x1, .ref ol] h sz (fun v h' sz' => v = some (.int (nI 1)) ∧ Q h' sz') := by
  refine xa_enterW (by decide) rfl ?_
  refine xa_aload_n d_Law_ago_0 rfl ?_
  refine xa_iconst (v := nI 0) d_Law_ago_1 rfl ?_
  refine xa_aload_n d_Law_ago_2 rfl ?_
  refine xa_iload_n d_Law_ago_3 rfl ?_
  refine xa_callVC (As := [.int x1]) (st := [.int (nI 0), .ref ol]) d_Law_ago_4 cat_ago_IOOB k_Law_67 ho hT rfl rfl (Nat.le_of_ble_eq_true rfl) ⟨by decide, by decide⟩ (Nat.le_of_ble_eq_true rfl) (Nat.le_of_ble_eq_true rfl) (fun a h' sz' hq => ?_)
  refine xa_astore_n d_Law_ago_12 rfl rfl ?_
  refine xa_iconst (v := nI 1) d_Law_ago_13 rfl ?_
  exact xa_ireturn d_Law_ago_14 rfl (by decide) (by decide) ⟨rfl, hq⟩
end LW
