/-! Trial.attempt. -/
theorem w_acopy : Cond.methodLink "StoneBoard$Trial" 39 arraycopyName ∈ xa_ws ∧ Cond.native arraycopyName ∈ xa_ws ∧ Cond.static arraycopyName ∈ xa_ws ∧ Cond.initialized "java/lang/System" ∈ xa_ws := ⟨xa_m2 97 rfl rfl, xa_m2 99 rfl rfl, xa_m2 98 rfl rfl, xa_m1 19 rfl rfl⟩
section AT
variable {l : Launch} {D : va_G} {H0 : Heap} {h : xa_H} {sz : Nat}
theorem c_Trial_attempt {n ch g aK c tr p sd k ls aP : Nat} {f A O S BR : Nat → Int32} {b ar o s V0 Vb : Nat → Nat} (hr : xq_R D h n ch g aK c f A O S BR b ar o s) (hlt : g + 1 < ch ∧ aK < ch ∧ ch + 8 < tr) (hp : p < n * n) (hp0 : b p = 0) (hsd : sd = 1 ∨ sd = 2) (hP : h aP = some (xp_c D (n * n) Vb)) (hVb : gp_B (n * n) b Vb) (haP : aP ≠ tr ∧ aP ≠ tr + 1) :
    xa_M l D H0 M_Trial_attempt 3 70 0 0 [.ref tr, .ref aP, .int (nI p), .int (nI sd)] (xr_h D h tr g aK ch (n * n) V0 k ls) sz (fun v h' sz' => ∃ (t V : Nat → Nat) (k ls : Nat), gp_B (n * n) t V ∧ gq_T n b p sd t k ls ∧ v = none ∧ h' = xr_h D h tr g aK ch (n * n) V k ls ∧ sz' = sz) := by
  have hN : n * n < 1000 := hr.1.2.2.2.2.2.2.2.2.1
  have hb := hr.1.2.2.2.2.2.2.2.2.2.2
  have r0 : ∀ (V : Nat → Nat) (k ls : Nat), xr_h D h tr g aK ch (n * n) V k ls tr = some (.inr (7, [.ref (tr + 1), .int (nI k), .int (nI ls), .ref g, .ref aK, .ref ch])) := fun V k ls => xr_h0
  have q1 := r0 V0 k ls
  refine xa_enter (by decide) rfl rfl ?_
  refine xa_aload_n d_Trial_attempt_0 rfl ?_
  refine xa_iconst (v := nI 0) d_Trial_attempt_1 rfl ?_
  refine xa_aload_n d_Trial_attempt_2 rfl ?_
  refine xa_getf f_Trial_35 d_Trial_attempt_3 (by assumption) (by rfl) ?_
  refine xa_iconst (v := nI 0) d_Trial_attempt_6 rfl ?_
  refine xa_aload_n d_Trial_attempt_7 rfl ?_
  refine xa_getf f_Trial_35 d_Trial_attempt_8 (by assumption) (by rfl) ?_
  refine xa_alen (t0 := 1) (v := nI ((n * n + 31) / 32)) rfl d_Trial_attempt_11 xr_h1 rfl ?_
  refine xa_acopy w_acopy d_Trial_attempt_12 (xr_hn hP haP.1 haP.2) xr_h1 (by omega) (by decide) (by decide) ?_
  rw [xr_u1]
  have q2 := r0 Vb k ls
  refine xa_aload_n d_Trial_attempt_15 rfl ?_
  refine xa_getf f_Trial_35 d_Trial_attempt_16 (by assumption) (by rfl) ?_
  refine xa_iload_n d_Trial_attempt_19 rfl ?_
  refine xa_iload_n d_Trial_attempt_20 rfl ?_
  refine xa_callSr (As := [.ref (tr + 1), .int (nI p), .int (nI sd)]) (st := []) d_Trial_attempt_21 k_Trial_45 (c_Packed_setKind xr_h1 hVb hp (show sd < 4 by omega) hN) rfl rfl (Nat.le_of_ble_eq_true rfl) ⟨by decide, by decide⟩ (by decide) (by decide) ?_
  rw [xr_u1]
  have hV1 := gp_B_set hVb hp (show sd < 4 by omega)
  generalize (fun i => if i = p / 32 then gp_set (Vb (p / 32)) (p % 32) sd else Vb i) = V1 at hV1 ⊢
  have q3 := r0 V1 k ls
  refine xa_aload_n d_Trial_attempt_24 rfl ?_
  refine xa_iconst (v := nI 0) d_Trial_attempt_25 rfl ?_
  refine xa_putf f_Trial_49 d_Trial_attempt_26 q3 (Nat.le_of_ble_eq_true rfl) rfl rfl ?_
  refine xa_heap (xr_u0 0 ls) ?_
  refine xa_aload_n d_Trial_attempt_29 rfl ?_
  refine xa_iload_n d_Trial_attempt_30 rfl ?_
  refine xa_callSNr (As := [.int (nI sd)]) (st := [.ref tr]) d_Trial_attempt_31 k_Trial_52 (c_SB_otherSide (by omega)) rfl rfl (Nat.le_of_ble_eq_true rfl) ⟨by decide, by decide⟩ (by decide) (by decide) ?_
  refine xa_putf f_Trial_56 d_Trial_attempt_34 (r0 V1 0 ls) (Nat.le_of_ble_eq_true rfl) rfl rfl ?_
  refine xa_heap (xr_u0 0 (3 - sd)) ?_
  have q4 := r0 V1 0 (3 - sd)
  refine xa_aload_n d_Trial_attempt_37 rfl ?_
  refine xa_iload_n d_Trial_attempt_38 rfl ?_
  refine xa_aload_n d_Trial_attempt_39 rfl ?_
  refine xa_getf f_Trial_56 d_Trial_attempt_40 (by assumption) (by rfl) ?_
  refine xa_callV (As := [.int (nI p), .int (nI (3 - sd))]) (st := []) d_Trial_attempt_43 k_Trial_59 q4 (c_Trial_takeClosed hr hlt hp hp0 (by omega) (fun q hq hqp => if_neg hqp) hV1) rfl rfl (Nat.le_of_ble_eq_true rfl) ⟨by decide, by decide⟩ (by decide) (by decide) (fun v h' sz' hq => ?_)
  obtain ⟨t1, V2, g1, g2, g3, g4, g5⟩ := hq
  rw [g3, g4, g5, Nat.zero_add (gb_cnt (gq_cap n b p (3 - sd) 4) (n * n))]
  have q5 := r0 V2 (gb_cnt (gq_cap n b p (3 - sd) 4) (n * n)) (3 - sd)
  have hle := gb_cnt_le (P := gq_cap n b p (3 - sd) 4) (n * n)
  refine xa_aload_n d_Trial_attempt_46 rfl ?_
  refine xa_getf f_Trial_49 d_Trial_attempt_47 (by assumption) (by rfl) ?_
  refine xa_if_neN (tgt := 92) d_Trial_attempt_50 (by decide) (by omega) (fun hz => ?_) (fun hz => ?_)
  · have hex : ∃ q, gq_cap n b p (3 - sd) 4 q := by
      refine Classical.byContradiction (fun hn => ?_)
      have := gb_cnt_0 (P := gq_cap n b p (3 - sd) 4) (n * n) (fun q _ hc => hn ⟨q, hc⟩)
      omega
    exact xa_return d_Trial_attempt_92 rfl (by omega) (by omega) ⟨t1, V2, _, _, g1, Or.inl ⟨hex, g2, rfl, rfl⟩, rfl, rfl, rfl⟩
  · have hno : ∀ q, ¬ gq_cap n b p (3 - sd) 4 q := fun q hc => by
      have := gb_cnt_pos hc (n * n) (gq_cap_lt hp (Nat.le_refl 4) hc)
      omega
    have ht1 : ∀ q, q < n * n → t1 q = if q = p then sd else b q := fun q hq => (g2 q hq).2 (hno q)
    refine xa_aload_n d_Trial_attempt_53 rfl ?_
    refine xa_iload_n d_Trial_attempt_54 rfl ?_
    refine xa_iload_n d_Trial_attempt_55 rfl ?_
    refine xa_callV (As := [.int (nI p), .int (nI sd)]) (st := []) d_Trial_attempt_56 k_Trial_63 q5 (c_Trial_findsBreath (xr_R hr hlt) q5 hp hsd) rfl rfl (Nat.le_of_ble_eq_true rfl) ⟨by decide, by decide⟩ (by decide) (by decide) (fun v h' sz' hq => ?_)
    obtain ⟨hv, e2, e3⟩ := hq
    rw [e2, e3]
    rcases hv with ⟨hv, hbre⟩ | ⟨hv, hbre⟩
    · rw [hv]
      refine xa_int (y := nI 1) rfl ?_
      refine xa_if_neN (tgt := 92) d_Trial_attempt_59 (by decide) (by omega) (fun hz2 => ?_) (fun hz2 => ?_)
      · exact xa_return d_Trial_attempt_92 rfl (by omega) (by omega) ⟨t1, V2, _, _, g1, Or.inr (Or.inl ⟨hno, hbre, ht1, hz, rfl⟩), rfl, rfl, rfl⟩
      · omega
    · rw [hv]
      refine xa_int (y := nI 0) rfl ?_
      refine xa_if_neN (tgt := 92) d_Trial_attempt_59 (by decide) (by omega) (fun hz2 => ?_) (fun hz2 => ?_)
      · omega
      ·
        refine xa_aload_n d_Trial_attempt_62 rfl ?_
        refine xa_iload_n d_Trial_attempt_63 rfl ?_
        refine xa_putf f_Trial_56 d_Trial_attempt_64 q5 (Nat.le_of_ble_eq_true rfl) rfl rfl ?_
        refine xa_heap (xr_u0 _ sd) ?_
        have q6 := r0 V2 (gb_cnt (gq_cap n b p (3 - sd) 4) (n * n)) sd
        refine xa_aload_n d_Trial_attempt_67 rfl ?_
        refine xa_iload_n d_Trial_attempt_68 rfl ?_
        refine xa_iload_n d_Trial_attempt_69 rfl ?_
        refine xa_callV (As := [.int (nI p), .int (nI sd)]) (st := []) d_Trial_attempt_70 k_Trial_59 q6 (c_Trial_takeClosed hr hlt hp hp0 hsd (fun q hq hqp => by rw [ht1 q hq, if_neg hqp]) g1) rfl rfl (Nat.le_of_ble_eq_true rfl) ⟨by decide, by decide⟩ (by decide) (by decide) (fun v h' sz' hq => ?_)
        obtain ⟨t2, V3, j1, j2, j3, j4, j5⟩ := hq
        rw [j3, j4, j5, hz, Nat.zero_add (gb_cnt (gq_cap n b p sd 4) (n * n))]
        have q7 := r0 V3 (gb_cnt (gq_cap n b p sd 4) (n * n)) sd
        refine xa_aload_n d_Trial_attempt_73 rfl ?_
        refine xa_getf f_Trial_35 d_Trial_attempt_74 (by assumption) (by rfl) ?_
        refine xa_iload_n d_Trial_attempt_77 rfl ?_
        refine xa_iconst (v := nI 0) d_Trial_attempt_78 rfl ?_
        refine xa_callSr (As := [.ref (tr + 1), .int (nI p), .int (nI 0)]) (st := []) d_Trial_attempt_79 k_Trial_45 (c_Packed_setKind xr_h1 j1 hp (show 0 < 4 by decide) hN) rfl rfl (Nat.le_of_ble_eq_true rfl) ⟨by decide, by decide⟩ (by decide) (by decide) ?_
        rw [xr_u1]
        have hV4 := gp_B_set j1 hp (show 0 < 4 by decide)
        generalize (fun i => if i = p / 32 then gp_set (V3 (p / 32)) (p % 32) 0 else V3 i) = V4 at hV4 ⊢
        have q8 := r0 V4 (gb_cnt (gq_cap n b p sd 4) (n * n)) sd
        refine xa_aload_n d_Trial_attempt_82 rfl ?_
        refine xa_dup d_Trial_attempt_83 rfl ?_
        refine xa_getf f_Trial_49 d_Trial_attempt_84 (by assumption) (by rfl) ?_
        refine xa_iconst (v := nI 1) d_Trial_attempt_87 rfl ?_
        refine xa_iaddN d_Trial_attempt_88 ?_
        refine xa_putf f_Trial_49 d_Trial_attempt_89 q8 (Nat.le_of_ble_eq_true rfl) rfl rfl ?_
        refine xa_heap (xr_u0 (gb_cnt (gq_cap n b p sd 4) (n * n) + 1) sd) ?_
        refine xa_return d_Trial_attempt_92 rfl (by omega) (by omega) ⟨_, V4, _, _, hV4, Or.inr (Or.inr ⟨hno, hbre, fun q hq => ?_, rfl, rfl⟩), rfl, rfl, rfl⟩
        constructor
        · intro hc
          by_cases hqp : q = p
          · simp only [if_pos hqp]
          · simp only [if_neg hqp]
            exact (j2 q hq).1 (hc.resolve_right hqp)
        · intro hc
          have hqp : ¬ q = p := fun z => hc (Or.inr z)
          simp only [if_neg hqp]
          rw [(j2 q hq).2 (fun z => hc (Or.inl z)), ht1 q hq, if_neg hqp]
end AT
