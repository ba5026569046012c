/-! History: keep, takeOutOfBucket, hasEnded, pointOfMove. -/
def xk_h (D : va_G) (h : xa_H) (hi sz B nb : Nat) (bf ob : Option Nat) (pt x y : Int32) (F : Nat → Option Nat) (u : Nat) : xa_H :=
  xa_u (xa_u (xa_u h sz (.inr (6, [va_rf bf, va_rf ob, .ref B, .int (nI nb), .int pt, .int x, .int y]))) hi (.inr (4, [.ref sz, .ref (hi + 1)]))) (hi + 1) (.inl (D.1 103, 128, .inr (.inr (.inr (.inr (va_up F u (some sz)))))))
section HK
variable {l : Launch} {D : va_G} {H0 : Heap} {h : xa_H} {sz : Nat} {R : Room}
theorem xa_args6 (p B : Nat) (bf : Option Nat) (x y z : Int32) : lv_args 0 [.ref p, va_rf bf, .ref B, .int x, .int y, .int z] = [(0, .ref p), (1, va_rf bf), (2, .ref B), (3, .int x), (4, .int y), (5, .int z)] := by cases bf <;> rfl
theorem xa_fit6 (p B : Nat) (bf : Option Nat) (x y z : Int32) : Nat.ble (lg_sl [.ref p, va_rf bf, .ref B, .int x, .int y, .int z]).length 7 = true := by cases bf <;> rfl
theorem xa_okb_rf {ls : List (Nat × Value)} (h : ∀ q ∈ ls, q.2.category = 1) (i : Nat) : xa_okb i ls = true := by
  induction ls with
  | nil => rfl
  | cons x r ih =>
    obtain ⟨j, w⟩ := x
    have h1 : w.category = 1 := h (j, w) List.mem_cons_self
    unfold xa_okb
    cases Nat.beq (j + 1) i with
    | true => simp [h1, ih (fun q hq => h q (List.mem_cons_of_mem _ hq))]
    | false => exact ih (fun q hq => h q (List.mem_cons_of_mem _ hq))
theorem c_History_keep {hi B N nb : Nat} {bf : Option Nat} {pt x y : Int32} {F : Nat → Option Nat} {V : Nat → Nat} {v1 : Value} (hh : h hi = some (.inr (4, [v1, .ref (hi + 1)]))) (hF : h (hi + 1) = some (.inl (D.1 103, 128, .inr (.inr (.inr (.inr F)))))) (hB : h B = some (xp_c D N V)) (hN : N < 1000)
    (hb : (bf = none ∧ nb = 0) ∨ ∃ (a k : Nat) (v1 v2 v3 v5 v6 v7 : Value), bf = some a ∧ h a = some (.inr (6, [v1, v2, v3, .int (nI k), v5, v6, v7])) ∧ nb = k + 1) :
    xa_M l D H0 M_History_keep 2 46 1 7 [.ref hi, va_rf bf, .ref B, .int pt, .int x, .int y] h sz (fun v h' sz' => v = none ∧ h' = xk_h D h hi sz B nb bf (F (gh V ((N + 31) / 32))) pt x y F (gh V ((N + 31) / 32)) ∧ sz' = sz + 1) := by
  refine xa_enter (by decide) rfl (xa_fit6 _ _ _ _ _ _) ?_
  rw [xa_args6]
  refine xa_pre (fun h1 h2 => ?_)
  have l1 := (h2 _ _ hh).2
  have l2 := (h2 _ _ hF).2
  have l3 := (h2 _ _ hB).2
  refine xa_aload_n d_History_keep_0 rfl ?_
  refine xa_callSr (As := [.ref B]) (st := []) d_History_keep_1 k_History_61 (c_History_bucketOf hB hN) rfl rfl (Nat.le_of_ble_eq_true rfl) ⟨by decide, by decide⟩ (by decide) (by decide) ?_
  refine xa_istore d_History_keep_4 rfl (xa_okb_rf (by intro q hq; simp only [List.mem_cons, List.not_mem_nil, or_false] at hq; rcases hq with rfl | rfl | rfl | rfl | rfl | rfl <;> first | rfl | exact xa_cat_rf _) _) ?_
  refine xa_aload_n d_History_keep_6 rfl ?_
  refine xa_new n_History_11 d_History_keep_7 (by decide) (by decide) ?_
  have e1 : xa_u h sz (.inr (6, [.null, .null, .null, .int 0, .int 0, .int 0, .int 0])) hi = some (.inr (4, [v1, .ref (hi + 1)])) := xa_u_ne hh (by omega)
  have e2 : xa_u h sz (.inr (6, [.null, .null, .null, .int 0, .int 0, .int 0, .int 0])) (hi + 1) = some (.inl (D.1 103, 128, .inr (.inr (.inr (.inr F))))) := xa_u_ne hF (by omega)
  refine xa_dup d_History_keep_10 rfl ?_
  refine xa_aload_nQ d_History_keep_11 rfl ?_
  refine xa_aload_n d_History_keep_12 rfl ?_
  refine xa_getf f_History_13 d_History_keep_13 (by assumption) (by rfl) ?_
  refine xa_iload d_History_keep_16 rfl ?_
  refine xa_qaldE d_History_keep_18 e2 rfl (gh_lt _ _) (by decide) rfl ?_
  refine xa_aload_n d_History_keep_19 rfl ?_
  refine xa_iload_n d_History_keep_20 rfl ?_
  refine xa_iload d_History_keep_21 rfl ?_
  refine xa_iload d_History_keep_23 rfl ?_
  refine xa_callIr (As := [va_rf bf, va_rf (F (gh V ((N + 31) / 32))), .ref B, .int pt, .int x, .int y]) (st := [.ref sz, .ref hi]) d_History_keep_25 k_History_75 (c_Pos_init (nb := nb) (xa_u_eq _ _ _) (by
    rcases hb with ⟨e3, e4⟩ | ⟨a, k, v1, v2, v3, v5, v6, v7, e3, e4, e5⟩
    · exact Or.inl ⟨e3, e4⟩
    · have := (h2 _ _ e4).2
      exact Or.inr ⟨a, k, v1, v2, v3, v5, v6, v7, e3, by omega, xa_u_ne e4 (by omega), e5⟩)) rfl rfl (Nat.le_of_ble_eq_true rfl) ⟨by decide, by decide⟩ (by decide) (by decide) ?_
  rw [xa_uu]
  refine xa_putf f_History_27 d_History_keep_28 (xa_u_ne hh (by omega)) (Nat.le_of_ble_eq_true rfl) rfl rfl ?_
  have e3 : ∀ e0 : va_E, xa_u (xa_u h sz e0) hi (.inr (4, [.ref sz, .ref (hi + 1)])) hi = some (.inr (4, [.ref sz, .ref (hi + 1)])) := fun e0 => xa_u_eq _ _ _
  have e4 := e3 (.inr (6, [va_rf bf, va_rf (F (gh V ((N + 31) / 32))), .ref B, .int (nI nb), .int pt, .int x, .int y]))
  refine xa_heap (h' := xa_u (xa_u h sz (.inr (6, [va_rf bf, va_rf (F (gh V ((N + 31) / 32))), .ref B, .int (nI nb), .int pt, .int x, .int y]))) hi (.inr (4, [.ref sz, .ref (hi + 1)]))) rfl ?_
  refine xa_aload_n d_History_keep_31 rfl ?_
  refine xa_getf f_History_13 d_History_keep_32 (by assumption) (by rfl) ?_
  refine xa_iload d_History_keep_35 rfl ?_
  refine xa_aload_n d_History_keep_37 rfl ?_
  refine xa_getf f_History_27 d_History_keep_38 (by assumption) (by rfl) ?_
  refine xa_qast d_History_keep_41 (xa_u_ne (xa_u_ne hF (by omega)) (by omega)) (vs := [va_rf bf, va_rf (F (gh V ((N + 31) / 32))), .ref B, .int (nI nb), .int pt, .int x, .int y]) (xa_u_ne (xa_u_eq _ _ _) (by omega)) (gh_lt _ _) rfl (by decide) ?_
  exact xa_return d_History_keep_42 rfl (by decide) (by decide) ⟨rfl, rfl, rfl⟩
theorem c_History_takeOut {hi p B N : Nat} {ob : Option Nat} {F : Nat → Option Nat} {V : Nat → Nat} {v1 w1 w4 w5 w6 w7 : Value} (hh : h hi = some (.inr (4, [v1, .ref (hi + 1)]))) (hF : h (hi + 1) = some (.inl (D.1 103, 128, .inr (.inr (.inr (.inr F)))))) (hp : h p = some (.inr (6, [w1, va_rf ob, .ref B, w4, w5, w6, w7]))) (hB : h B = some (xp_c D N V)) (hN : N < 1000) (ho : ∀ a, ob = some a → ∃ vs, h a = some (.inr (6, vs))) :
    xa_M l D H0 M_History_takeOutOfBucket 1 27 0 0 [.ref hi, .ref p] h sz (fun v h' sz' => v = none ∧ h' = xa_u h (hi + 1) (.inl (D.1 103, 128, .inr (.inr (.inr (.inr (va_up F (gh V ((N + 31) / 32)) ob)))))) ∧ sz' = sz) := by
  refine xa_enter (by decide) rfl rfl ?_
  refine xa_aload_n d_History_takeOutOfBucket_0 rfl ?_
  refine xa_getf f_History_13 d_History_takeOutOfBucket_1 (by assumption) (by rfl) ?_
  refine xa_aload_n d_History_takeOutOfBucket_4 rfl ?_
  refine xa_getf f_History_31 d_History_takeOutOfBucket_5 (by assumption) (by rfl) ?_
  refine xa_callSr (As := [.ref B]) (st := [.ref (hi + 1)]) d_History_takeOutOfBucket_8 k_History_61 (c_History_bucketOf hB hN) rfl rfl (Nat.le_of_ble_eq_true rfl) ⟨by decide, by decide⟩ (by decide) (by decide) ?_
  refine xa_aload_n d_History_takeOutOfBucket_11 rfl ?_
  refine xa_getf f_History_69 d_History_takeOutOfBucket_12 (by assumption) (by rfl) ?_
  cases ob with
  | none =>
    refine xa_qastN d_History_takeOutOfBucket_15 hF (gh_lt _ _) rfl (by decide) ?_
    exact xa_return d_History_takeOutOfBucket_16 rfl (by decide) (by decide) ⟨rfl, rfl, rfl⟩
  | some a =>
    obtain ⟨vs, ha⟩ := ho a rfl
    refine xa_qast d_History_takeOutOfBucket_15 hF (vs := vs) ha (gh_lt _ _) rfl (by decide) ?_
    exact xa_return d_History_takeOutOfBucket_16 rfl (by decide) (by decide) ⟨rfl, rfl, rfl⟩
theorem c_History_hasEnded {hi N m : Nat} {q B : Nat → Nat} {ob : Nat → Option Nat} {pt : Nat → Int32} {tb tw : Nat → Nat} {V : Nat → Nat → Nat} {v2 : Value} (hh : h hi = some (.inr (4, [.ref (q m), v2]))) (hP : xh_P D h N m q B ob pt tb tw V) :
    xa_M l D H0 M_History_hasEnded 0 0 0 0 [.ref hi] h sz (fun v h' sz' => v = some (.int (if pt m = -1 ∧ m ≠ 0 ∧ pt (m - 1) = -1 then 1 else 0)) ∧ h' = h ∧ sz' = sz) := by
  refine xa_enter (by decide) rfl rfl ?_
  obtain ⟨p1, -⟩ := hP m (Nat.le_refl m)
  have no : ¬ (pt m = -1 ∧ m ≠ 0 ∧ pt (m - 1) = -1) → ∀ lsx, xa_X l D H0 M_History_hasEnded (xa_rm 0 0 0 0) (xa_Zr D H0 0 0 (fun v h' sz' => v = some (.int (if pt m = -1 ∧ m ≠ 0 ∧ pt (m - 1) = -1 then 1 else 0)) ∧ h' = h ∧ sz' = sz)) 0 0 h sz 39 lsx [] := by
    intro hn lsx
    refine xa_iconst (v := nI 0) d_History_hasEnded_39 rfl ?_
    exact xa_zreturn (v := nI 0) d_History_hasEnded_40 rfl (by decide) (by decide) (by decide) ⟨by rw [if_neg hn]; rfl, rfl, rfl⟩
  refine xa_aload_n d_History_hasEnded_0 rfl ?_
  refine xa_getf f_History_27 d_History_hasEnded_1 (by assumption) (by rfl) ?_
  refine xa_getf f_History_58 d_History_hasEnded_4 (by assumption) (by rfl) ?_
  refine xa_iconst (v := -1) d_History_hasEnded_7 rfl ?_
  refine xa_icmp_ne (tgt := 39) d_History_hasEnded_8 (by decide) (fun hz => ?_) (fun hz => ?_)
  · exact no (fun z => hz z.1) _
  ·
    refine xa_aload_n d_History_hasEnded_11 rfl ?_
    refine xa_getf f_History_27 d_History_hasEnded_12 (by assumption) (by rfl) ?_
    refine xa_getf f_History_55 d_History_hasEnded_15 (by assumption) (by rfl) ?_
    by_cases hm : m = 0
    · rw [if_pos hm]
      refine xa_ifnullN (tgt := 39) d_History_hasEnded_18 (by decide) ?_
      exact no (fun z => z.2.1 hm) _
    · rw [if_neg hm]
      refine xa_ifnull d_History_hasEnded_18 ?_
      rw [if_neg hm] at p1
      obtain ⟨p2, -⟩ := hP (m - 1) (by omega)
      refine xa_aload_n d_History_hasEnded_21 rfl ?_
      refine xa_getf f_History_27 d_History_hasEnded_22 (by assumption) (by rfl) ?_
      refine xa_getf f_History_55 d_History_hasEnded_25 (by assumption) (by rfl) ?_
      refine xa_getf f_History_58 d_History_hasEnded_28 (by assumption) (by rfl) ?_
      refine xa_iconst (v := -1) d_History_hasEnded_31 rfl ?_
      refine xa_icmp_ne (tgt := 39) d_History_hasEnded_32 (by decide) (fun hz2 => ?_) (fun hz2 => ?_)
      · exact no (fun z => hz2 z.2.2) _
      ·
        refine xa_iconst (v := nI 1) d_History_hasEnded_35 rfl ?_
        refine xa_goto (tgt := 40) d_History_hasEnded_36 (by decide) ?_
        exact xa_zreturn (v := nI 1) d_History_hasEnded_40 rfl (by decide) (by decide) (by decide) ⟨by rw [if_pos ⟨hz, hm, hz2⟩]; rfl, rfl, rfl⟩
theorem w_pointOfMove {hi N m i : Nat} {q B : Nat → Nat} {ob : Nat → Option Nat} {pt : Nat → Int32} {tb tw : Nat → Nat} {V : Nat → Nat → Nat} (hP : xh_P D h N m q B ob pt tb tw V) (hm : m < 2000) (j : Nat) (hj : j ≤ m) (hij : i + 1 ≤ j) :
    xa_X l D H0 M_History_pointOfMove R (xa_Zr D H0 0 0 (fun v h' sz' => v = some (.int (pt (i + 1))) ∧ h' = h ∧ sz' = sz)) 0 0 h sz 5 [(0, .ref hi), (1, .int (nI i)), (2, .ref (q j))] [] := by
  obtain ⟨p1, -⟩ := hP j hj
  rw [if_neg (by omega)] at p1
  refine xa_aload_n d_History_pointOfMove_5 rfl ?_
  refine xa_getf f_History_55 d_History_pointOfMove_6 (by assumption) (by rfl) ?_
  refine xa_ifnull d_History_pointOfMove_9 ?_
  refine xa_aload_n d_History_pointOfMove_12 rfl ?_
  refine xa_getf f_History_72 d_History_pointOfMove_13 (by assumption) (by rfl) ?_
  refine xa_iload_n d_History_pointOfMove_16 rfl ?_
  refine xa_iconst (v := nI 1) d_History_pointOfMove_17 rfl ?_
  refine xa_iaddN d_History_pointOfMove_18 ?_
  refine xa_icmp_leN (tgt := 30) d_History_pointOfMove_19 (by decide) (by omega) (by omega) (fun hb => ?_) (fun hb => ?_)
  · have hji : j = i + 1 := by omega
    subst hji
    refine xa_aload_n d_History_pointOfMove_30 rfl ?_
    refine xa_getf f_History_58 d_History_pointOfMove_31 (by assumption) (by rfl) ?_
    exact xa_ireturn d_History_pointOfMove_34 rfl (by omega) (by omega) ⟨rfl, rfl, rfl⟩
  ·
    refine xa_aload_n d_History_pointOfMove_22 rfl ?_
    refine xa_getf f_History_55 d_History_pointOfMove_23 (by assumption) (by rfl) ?_
    refine xa_astore_n d_History_pointOfMove_26 rfl rfl ?_
    refine xa_goto (tgt := 5) d_History_pointOfMove_27 (by decide) ?_
    refine xa_ls ?_ (w_pointOfMove (hi := hi) hP hm (j - 1) (by omega) (by omega))
    exact ⟨rfl, rfl, rfl, trivial⟩
termination_by j
decreasing_by omega
theorem c_History_pointOfMove {hi N m i : Nat} {q B : Nat → Nat} {ob : Nat → Option Nat} {pt : Nat → Int32} {tb tw : Nat → Nat} {V : Nat → Nat → Nat} {v2 : Value} (hh : h hi = some (.inr (4, [.ref (q m), v2]))) (hP : xh_P D h N m q B ob pt tb tw V) (hm : m < 2000) (hi' : i < m) :
    xa_M l D H0 M_History_pointOfMove 0 0 0 0 [.ref hi, .int (nI i)] h sz (fun v h' sz' => v = some (.int (pt (i + 1))) ∧ h' = h ∧ sz' = sz) := by
  refine xa_enter (by decide) rfl rfl ?_
  refine xa_aload_n d_History_pointOfMove_0 rfl ?_
  refine xa_getf f_History_27 d_History_pointOfMove_1 (by assumption) (by rfl) ?_
  refine xa_astore_n d_History_pointOfMove_4 rfl rfl ?_
  refine xa_ls ?_ (w_pointOfMove (hi := hi) hP hm m (Nat.le_refl m) (by omega))
  exact ⟨rfl, rfl, rfl, trivial⟩
end HK
