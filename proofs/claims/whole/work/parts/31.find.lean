/-! History: bucketOf, hasBoard, find, hasEnded, pointOfMove. -/
section HI
variable {l : Launch} {D : va_G} {H0 : Heap} {h : xa_H} {sz : Nat} {R : Room}
theorem w_bucketOf {a N : Nat} {V : Nat → Nat} (hB : h a = some (xp_c D N V)) (hN : N < 1000) (i : Nat) (hi : i ≤ (N + 31) / 32) :
    xa_X l D H0 M_History_bucketOf R (xa_Zr D H0 0 0 (fun v h' sz' => v = some (.int (nI (gh V ((N + 31) / 32)))) ∧ h' = h ∧ sz' = sz)) 0 0 h sz 11 [(0, .ref a), (1, .long (gh_mix V i)), (3, .ref a), (4, .int (nI ((N + 31) / 32))), (5, .int (nI i))] [] := by
  refine xa_iload d_History_bucketOf_11 rfl ?_
  refine xa_iload d_History_bucketOf_13 rfl ?_
  refine xa_icmp_geN (tgt := 39) d_History_bucketOf_15 (by decide) (by omega) (by omega) (fun hb => ?_) (fun hb => ?_)
  · have hie : i = (N + 31) / 32 := by omega
    subst hie
    refine xa_lload_n d_History_bucketOf_39 rfl ?_
    refine xa_bipush (v := nI 57) d_History_bucketOf_40 (by decide) ?_
    refine xa_lushr d_History_bucketOf_42 rfl ?_
    refine xa_l2i d_History_bucketOf_43 rfl ?_
    refine xa_int (gh_word _) ?_
    exact xa_ireturn d_History_bucketOf_44 rfl (by omega) (by omega) ⟨rfl, rfl, rfl⟩
  ·
    refine xa_aload_n d_History_bucketOf_18 rfl ?_
    refine xa_iload d_History_bucketOf_19 rfl ?_
    refine xa_laldE d_History_bucketOf_21 hB rfl hb (by omega) rfl ?_
    refine xa_lstore d_History_bucketOf_22 rfl rfl ?_
    refine xa_lload_n d_History_bucketOf_24 rfl ?_
    refine xa_lload d_History_bucketOf_25 rfl ?_
    refine xa_lxor d_History_bucketOf_27 ?_
    refine xa_ldc2 w_History_78 d_History_bucketOf_28 ?_
    refine xa_lmul d_History_bucketOf_31 ?_
    refine xa_lstore_n d_History_bucketOf_32 rfl rfl ?_
    refine xa_iincN d_History_bucketOf_33 rfl rfl rfl ?_
    refine xa_goto (tgt := 11) d_History_bucketOf_36 (by decide) ?_
    refine xa_ls ?_ (w_bucketOf hB hN (i + 1) (by omega))
    exact ⟨rfl, rfl, rfl, rfl, rfl, trivial⟩
termination_by (N + 31) / 32 - i
decreasing_by omega
theorem c_History_bucketOf {a N : Nat} {V : Nat → Nat} (hB : h a = some (xp_c D N V)) (hN : N < 1000) :
    xa_M l D H0 M_History_bucketOf 0 0 0 0 [.ref a] h sz (fun v h' sz' => v = some (.int (nI (gh V ((N + 31) / 32)))) ∧ h' = h ∧ sz' = sz) := by
  refine xa_enter (by decide) rfl rfl ?_
  refine xa_lconst (v := 0) d_History_bucketOf_0 rfl ?_
  refine xa_lstore_n d_History_bucketOf_1 rfl rfl ?_
  refine xa_aload_n d_History_bucketOf_2 rfl ?_
  refine xa_astore_n d_History_bucketOf_3 rfl rfl ?_
  refine xa_aload_n d_History_bucketOf_4 rfl ?_
  refine xa_alen (t0 := 1) (v := nI ((N + 31) / 32)) rfl d_History_bucketOf_5 hB rfl ?_
  refine xa_istore d_History_bucketOf_6 rfl rfl ?_
  refine xa_iconst (v := nI 0) d_History_bucketOf_8 rfl ?_
  refine xa_istore d_History_bucketOf_9 rfl rfl ?_
  refine xa_ls ?_ (w_bucketOf hB hN 0 (by omega))
  exact ⟨rfl, rfl, rfl, rfl, rfl, trivial⟩
theorem w_hasBoard {p a a' N : Nat} {V W : Nat → Nat} {v1 v2 v4 v5 v6 v7 : Value} (hp : h p = some (.inr (6, [v1, v2, .ref a, v4, v5, v6, v7]))) (hB : h a = some (xp_c D N V)) (hB' : h a' = some (xp_c D N W)) (hN : N < 1000) (hV : ∀ i, i < (N + 31) / 32 → V i < 2 ^ 64) (hW : ∀ i, i < (N + 31) / 32 → W i < 2 ^ 64) (i : Nat) (hi : i ≤ (N + 31) / 32) (he : ∀ j, j < i → V j = W j) :
    xa_X l D H0 M_Pos_hasBoard R (xa_Zr D H0 0 0 (fun v h' sz' => ((v = some (.int 1) ∧ xh_E N V W) ∨ (v = some (.int 0) ∧ ¬ xh_E N V W)) ∧ h' = h ∧ sz' = sz)) 0 0 h sz 2 [(0, .ref p), (1, .ref a'), (2, .int (nI i))] [] := by
  refine xa_iload_n d_Pos_hasBoard_2 rfl ?_
  refine xa_aload_n d_Pos_hasBoard_3 rfl ?_
  refine xa_getf f_Pos_16 d_Pos_hasBoard_4 (by assumption) (by rfl) ?_
  refine xa_alen (t0 := 1) (v := nI ((N + 31) / 32)) rfl d_Pos_hasBoard_7 hB rfl ?_
  refine xa_icmp_geN (tgt := 38) d_Pos_hasBoard_8 (by decide) (by omega) (by omega) (fun hb => ?_) (fun hb => ?_)
  ·
    refine xa_iconst (v := nI 1) d_Pos_hasBoard_38 rfl ?_
    exact xa_zreturn (v := nI 1) d_Pos_hasBoard_39 rfl (by decide) (by omega) (by omega) ⟨Or.inl ⟨rfl, fun j hj => he j (by omega)⟩, rfl, rfl⟩
  ·
    refine xa_iload_n d_Pos_hasBoard_11 rfl ?_
    refine xa_aload_n d_Pos_hasBoard_12 rfl ?_
    refine xa_alen (t0 := 1) (v := nI ((N + 31) / 32)) rfl d_Pos_hasBoard_13 hB' rfl ?_
    refine xa_icmp_geN (tgt := 38) d_Pos_hasBoard_14 (by decide) (by omega) (by omega) (fun hb2 => ?_) (fun hb2 => ?_)
    · omega
    ·
      refine xa_aload_n d_Pos_hasBoard_17 rfl ?_
      refine xa_getf f_Pos_16 d_Pos_hasBoard_18 (by assumption) (by rfl) ?_
      refine xa_iload_n d_Pos_hasBoard_21 rfl ?_
      refine xa_laldE d_Pos_hasBoard_22 hB rfl hb (by omega) rfl ?_
      refine xa_aload_n d_Pos_hasBoard_23 rfl ?_
      refine xa_iload_n d_Pos_hasBoard_24 rfl ?_
      refine xa_laldE d_Pos_hasBoard_25 hB' rfl hb (by omega) rfl ?_
      refine xa_lcmp d_Pos_hasBoard_26 ?_
      refine xa_if_eq (tgt := 32) d_Pos_hasBoard_27 (by decide) (fun hz => ?_) (fun hz => ?_)
      · have hvw : lN (V i) = lN (W i) := (lg_cmp_eq _ _).mp hz
        have hvw2 : V i = W i := by
          have e := congrArg (fun x : Int64 => x.toBitVec.toNat) hvw
          rw [wb_tn (hV i hb), wb_tn (hW i hb)] at e
          exact e
        refine xa_iincN d_Pos_hasBoard_32 rfl rfl rfl ?_
        refine xa_goto (tgt := 2) d_Pos_hasBoard_35 (by decide) ?_
        refine xa_ls ?_ (w_hasBoard hp hB hB' hN hV hW (i + 1) (by omega) (fun j hj => ?_))
        · exact ⟨rfl, rfl, rfl, trivial⟩
        · by_cases hji : j = i
          · rw [hji]; exact hvw2
          · exact he j (by omega)
      ·
        refine xa_iconst (v := nI 0) d_Pos_hasBoard_30 rfl ?_
        exact xa_zreturn (v := nI 0) d_Pos_hasBoard_31 rfl (by decide) (by omega) (by omega) ⟨Or.inr ⟨rfl, fun z => hz ((lg_cmp_eq _ _).mpr (by rw [z i hb]))⟩, rfl, rfl⟩
termination_by (N + 31) / 32 - i
decreasing_by omega
theorem c_Pos_hasBoard {p a a' N : Nat} {V W : Nat → Nat} {v1 v2 v4 v5 v6 v7 : Value} (hp : h p = some (.inr (6, [v1, v2, .ref a, v4, v5, v6, v7]))) (hB : h a = some (xp_c D N V)) (hB' : h a' = some (xp_c D N W)) (hN : N < 1000) (hV : ∀ i, i < (N + 31) / 32 → V i < 2 ^ 64) (hW : ∀ i, i < (N + 31) / 32 → W i < 2 ^ 64) :
    xa_M l D H0 M_Pos_hasBoard 0 0 0 0 [.ref p, .ref a'] h sz (fun v h' sz' => ((v = some (.int 1) ∧ xh_E N V W) ∨ (v = some (.int 0) ∧ ¬ xh_E N V W)) ∧ h' = h ∧ sz' = sz) := by
  refine xa_enter (by decide) rfl rfl ?_
  refine xa_iconst (v := nI 0) d_Pos_hasBoard_0 rfl ?_
  refine xa_istore_n d_Pos_hasBoard_1 rfl rfl ?_
  refine xa_ls ?_ (w_hasBoard hp hB hB' hN hV hW 0 (by omega) (fun j hj => absurd hj (Nat.not_lt_zero _)))
  exact ⟨rfl, rfl, rfl, trivial⟩
theorem w_find {hi a N m : Nat} {q B : Nat → Nat} {ob F : Nat → Option Nat} {pt : Nat → Int32} {tb tw W : Nat → Nat} {V : Nat → Nat → Nat} (hR : 1 ≤ R.frames ∧ 22 ≤ R.locals) (hP : xh_P D h N m q B ob pt tb tw V) (hC : xh_B N m q ob F V) (ha : h a = some (xp_c D N W)) (hN : N < 1000) (hV : ∀ j, j ≤ m → ∀ i, i < (N + 31) / 32 → V j i < 2 ^ 64) (hW : ∀ i, i < (N + 31) / 32 → W i < 2 ^ 64)
    (k : Nat) (hk : k ≤ m + 1) (hno : ∀ j, k ≤ j → j ≤ m → ¬ xh_E N (V j) W) :
    xa_X l D H0 M_History_find R (xa_Zr D H0 0 0 (fun v h' sz' => ((v = some .null ∧ ∀ j, j ≤ m → ¬ xh_E N (V j) W) ∨ ∃ j, j ≤ m ∧ v = some (.ref (q j)) ∧ xh_E N (V j) W ∧ ∀ j', j < j' → j' ≤ m → ¬ xh_E N (V j') W) ∧ h' = h ∧ sz' = sz)) 0 0 h sz 10 [(0, .ref hi), (1, .ref a), (2, va_rf ((gh_top (fun j => gh (V j) ((N + 31) / 32)) (gh W ((N + 31) / 32)) k).map q))] [] := by
  have hsame : ∀ j, xh_E N (V j) W → gh (V j) ((N + 31) / 32) = gh W ((N + 31) / 32) := fun j hj => gh_eq hj
  cases htop : gh_top (fun j => gh (V j) ((N + 31) / 32)) (gh W ((N + 31) / 32)) k with
  | none =>
    have h1 := gh_top_none htop
    show xa_X l D H0 M_History_find R _ 0 0 h sz 10 [(0, .ref hi), (1, .ref a), (2, .null)] []
    refine xa_aload_nN d_History_find_10 rfl ?_
    refine xa_ifnullN (tgt := 30) d_History_find_11 (by decide) ?_
    refine xa_aload_nN d_History_find_30 rfl ?_
    exact xa_areturnN d_History_find_31 rfl (Or.inl ⟨_, rfl⟩) (by omega) (by omega) ⟨Or.inl ⟨rfl, fun j hj hz => by
      by_cases hjk : j < k
      · exact h1 j hjk (hsame j hz)
      · exact hno j (by omega) hj hz⟩, rfl, rfl⟩
  | some j =>
    obtain ⟨h1, h2, h3⟩ := gh_top_some htop
    obtain ⟨p1, p2⟩ := hP j (by omega)
    have hno' : ∀ j', j < j' → j' ≤ m → ¬ xh_E N (V j') W := fun j' e1 e2 hz => by
      by_cases hjk : j' < k
      · exact h3 j' e1 hjk (hsame j' hz)
      · exact hno j' (by omega) e2 hz
    show xa_X l D H0 M_History_find R _ 0 0 h sz 10 [(0, .ref hi), (1, .ref a), (2, .ref (q j))] []
    refine xa_aload_n d_History_find_10 rfl ?_
    refine xa_ifnull d_History_find_11 ?_
    refine xa_aload_n d_History_find_14 rfl ?_
    refine xa_aload_n d_History_find_15 rfl ?_
    refine xa_callV (As := [.ref a]) (st := []) d_History_find_16 k_History_65 p1 (c_Pos_hasBoard p1 p2 ha hN (hV j (by omega)) hW) rfl rfl (Nat.le_of_ble_eq_true rfl) ⟨hR.1, hR.2⟩ (by omega) (by omega) (fun v h' sz' hq => ?_)
    obtain ⟨hv, e2, e3⟩ := hq
    rw [e2, e3]
    rcases hv with ⟨hv, hE⟩ | ⟨hv, hE⟩
    · rw [hv]
      refine xa_int (y := nI 1) rfl ?_
      refine xa_if_neN (tgt := 30) d_History_find_19 (by decide) (by omega) (fun hz => ?_) (fun hz => ?_)
      ·
        refine xa_aload_n d_History_find_30 rfl ?_
        exact xa_areturn d_History_find_31 rfl (Or.inl ⟨_, rfl⟩) (by omega) (by omega) ⟨Or.inr ⟨j, by omega, rfl, hE, hno'⟩, rfl, rfl⟩
      · omega
    · rw [hv]
      refine xa_int (y := nI 0) rfl ?_
      refine xa_if_neN (tgt := 30) d_History_find_19 (by decide) (by omega) (fun hz => ?_) (fun hz => ?_)
      · omega
      ·
        refine xa_aload_n d_History_find_22 rfl ?_
        refine xa_getf f_History_69 d_History_find_23 (by assumption) (by rfl) ?_
        have hob := hC.1 j (by omega)
        have h2' : gh (V j) ((N + 31) / 32) = gh W ((N + 31) / 32) := h2
        rw [h2'] at hob
        rw [hob]
        refine xa_astore_nQ d_History_find_26 rfl rfl ?_
        refine xa_goto (tgt := 10) d_History_find_27 (by decide) ?_
        refine xa_ls ?_ (w_find (hi := hi) hR hP hC ha hN hV hW j (by omega) (fun j' e1 e2 => ?_))
        · exact ⟨rfl, rfl, rfl, trivial⟩
        · by_cases hj : j' = j
          · rw [hj]; exact hE
          · exact hno' j' (by omega) e2
termination_by k
decreasing_by omega
theorem c_History_find {hi a N m : Nat} {q B : Nat → Nat} {ob F : Nat → Option Nat} {pt : Nat → Int32} {tb tw W : Nat → Nat} {V : Nat → Nat → Nat} {v1 : Value} (hh : h hi = some (.inr (4, [v1, .ref (hi + 1)]))) (hF : h (hi + 1) = some (.inl (D.1 103, 128, .inr (.inr (.inr (.inr F)))))) (hP : xh_P D h N m q B ob pt tb tw V) (hC : xh_B N m q ob F V) (ha : h a = some (xp_c D N W)) (hN : N < 1000) (hV : ∀ j, j ≤ m → ∀ i, i < (N + 31) / 32 → V j i < 2 ^ 64) (hW : ∀ i, i < (N + 31) / 32 → W i < 2 ^ 64) :
    xa_M l D H0 M_History_find 1 27 0 0 [.ref hi, .ref a] h sz (fun v h' sz' => ((v = some .null ∧ ∀ j, j ≤ m → ¬ xh_E N (V j) W) ∨ ∃ j, j ≤ m ∧ v = some (.ref (q j)) ∧ xh_E N (V j) W ∧ ∀ j', j < j' → j' ≤ m → ¬ xh_E N (V j') W) ∧ h' = h ∧ sz' = sz) := by
  refine xa_enter (by decide) rfl rfl ?_
  refine xa_aload_n d_History_find_0 rfl ?_
  refine xa_getf f_History_13 d_History_find_1 (by assumption) (by rfl) ?_
  refine xa_aload_n d_History_find_4 rfl ?_
  refine xa_callSr (As := [.ref a]) (st := [.ref (hi + 1)]) d_History_find_5 k_History_61 (c_History_bucketOf ha hN) rfl rfl (Nat.le_of_ble_eq_true rfl) ⟨by decide, by decide⟩ (by decide) (by decide) ?_
  refine xa_qaldE d_History_find_8 hF rfl (gh_lt _ _) (by decide) (hC.2 _ (gh_lt _ _)) ?_
  refine xa_astore_nQ d_History_find_9 rfl rfl ?_
  refine xa_ls ?_ (w_find (hi := hi) ⟨by decide, by decide⟩ hP hC ha hN hV hW (m + 1) (by omega) (fun j e1 e2 => by omega))
  exact ⟨rfl, rfl, rfl, trivial⟩
end HI
