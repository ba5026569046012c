/-! Trial: isLastBreathOf, findsBreath, takeString. -/
/-- what a trial reads of the chart -/
def xq_R (D : va_G) (h : xa_H) (n ch g aK c : Nat) (f A O S BR : Nat → Int32) (b ar o s : Nat → Nat) : Prop :=
  xc_R D h n ch g aK c f A O S b ∧ h (ch + 5) = some (.inl (D.1 100, n * n, .inl BR)) ∧ xt_W n (fun q => nI (b q)) c ar o s A O S ∧ ∀ a, a < c → b (o (s a)) ≠ 0 → BR a = nI (gb_cnt (gt_br n (fun q => nI (b q)) (o (s a))) (n * n))
def xr_h (D : va_G) (h : xa_H) (tr g aK ch N : Nat) (V : Nat → Nat) (k ls : Nat) : xa_H := xa_u (xa_u h (tr + 1) (xp_c D N V)) tr (.inr (7, [.ref (tr + 1), .int (nI k), .int (nI ls), .ref g, .ref aK, .ref ch]))
section RH
variable {D : va_G} {h : xa_H} {tr g aK ch N k ls : Nat} {V : Nat → Nat}
theorem xr_hn {q : Nat} {e : Option va_E} (hq : h q = e) (h1 : q ≠ tr) (h2 : q ≠ tr + 1) : xr_h D h tr g aK ch N V k ls q = e := xa_u_ne (xa_u_ne hq h2) h1
theorem xr_h0 : xr_h D h tr g aK ch N V k ls tr = some (.inr (7, [.ref (tr + 1), .int (nI k), .int (nI ls), .ref g, .ref aK, .ref ch])) := xa_u_eq _ _ _
theorem xr_h1 : xr_h D h tr g aK ch N V k ls (tr + 1) = some (xp_c D N V) := xa_u_ne (xa_u_eq _ _ _) (by omega)
theorem xr_u0 (k' ls' : Nat) : xa_u (xr_h D h tr g aK ch N V k ls) tr (.inr (7, [.ref (tr + 1), .int (nI k'), .int (nI ls'), .ref g, .ref aK, .ref ch])) = xr_h D h tr g aK ch N V k' ls' := xa_uu _ _ _ _
theorem xr_u1 (V' : Nat → Nat) : xa_u (xr_h D h tr g aK ch N V k ls) (tr + 1) (xp_c D N V') = xr_h D h tr g aK ch N V' k ls := xa_uc _ (by omega) _ _ _
theorem xr_R {n c : Nat} {f A O S BR : Nat → Int32} {b ar o s : Nat → Nat} (hr : xq_R D h n ch g aK c f A O S BR b ar o s) (hlt : g + 1 < ch ∧ aK < ch ∧ ch + 8 < tr) : xq_R D (xr_h D h tr g aK ch N V k ls) n ch g aK c f A O S BR b ar o s := by
  obtain ⟨⟨r1, r2, r3, r4, r5, r6, r7, r8, hx⟩, r9, hy⟩ := hr
  exact ⟨⟨xr_hn r1 (by omega) (by omega), xr_hn r2 (by omega) (by omega), xr_hn r3 (by omega) (by omega), xr_hn r4 (by omega) (by omega), xr_hn r5 (by omega) (by omega), xr_hn r6 (by omega) (by omega), xr_hn r7 (by omega) (by omega), xr_hn r8 (by omega) (by omega), hx⟩, xr_hn r9 (by omega) (by omega), hy⟩
end RH
section TK
variable {l : Launch} {D : va_G} {H0 : Heap} {h : xa_H} {sz : Nat} {R : Room}
theorem c_Trial_isLastBreathOf {n ch g aK c tr x : Nat} {f A O S BR : Nat → Int32} {b ar o s : Nat → Nat} {v1 v2 v3 v4 v5 : Value} (hr : xq_R D h n ch g aK c f A O S BR b ar o s) (ht : h tr = some (.inr (7, [v1, v2, v3, v4, v5, .ref ch]))) (hx : x < n * n) (hbx : b x ≠ 0) :
    xa_M l D H0 M_Trial_isLastBreathOf 1 21 0 0 [.ref tr, .int (nI x)] h sz (fun v h' sz' => v = some (.int (if gb_cnt (gt_br n (fun q => nI (b q)) x) (n * n) = 1 then 1 else 0)) ∧ h' = h ∧ sz' = sz) := by
  obtain ⟨⟨r1, r2, r3, r4, r5, r6, r7, r8, hN, hf, hb⟩, r9, ⟨w1, w2, w3, w4⟩, hBR⟩ := hr
  have hax : ar x < c := w1.1 x hx
  have hcN : c ≤ n * n := w1.2.2.2.2.2.2.2.2.2.2
  obtain ⟨a1, a2, a3, a4, a5⟩ := gs_W_area w1 hax
  have hcon : gb_conn n (fun q => nI (b q)) (o (s (ar x))) x := (w1.2.1 _ _ a3 hx).mp a4
  have hb0 : b (o (s (ar x))) ≠ 0 := fun z => hbx (by
    have e : nI (b x) = nI (b (o (s (ar x)))) := gb_conn_k (k := fun q => nI (b q)) hcon
    have h5 := hb x hx
    have h6 := hb _ a3
    rw [(nI_eq (by omega) (by omega)).mp e]; exact z)
  have hcnt : gb_cnt (gt_br n (fun q => nI (b q)) (o (s (ar x)))) (n * n) = gb_cnt (gt_br n (fun q => nI (b q)) x) (n * n) := gb_cnt_eq _ (fun q _ => gt_br_conn a3 hcon q)
  have hle := gb_cnt_le (P := gt_br n (fun q => nI (b q)) x) (n * n)
  have hBx := hBR _ hax hb0
  rw [hcnt] at hBx
  refine xa_enter (by decide) rfl rfl ?_
  refine xa_aload_n d_Trial_isLastBreathOf_0 rfl ?_
  refine xa_getf f_Trial_19 d_Trial_isLastBreathOf_1 (by assumption) (by rfl) ?_
  refine xa_aload_n d_Trial_isLastBreathOf_4 rfl ?_
  refine xa_getf f_Trial_19 d_Trial_isLastBreathOf_5 (by assumption) (by rfl) ?_
  refine xa_getf f_Trial_79 d_Trial_isLastBreathOf_8 (by assumption) (by rfl) ?_
  refine xa_iload_n d_Trial_isLastBreathOf_11 rfl ?_
  refine xa_callVr (As := [.int (nI x)]) (st := [.ref ch]) d_Trial_isLastBreathOf_12 k_Trial_85 r2 (c_Areas_areaAt r2 r3 hN hx (w2 x hx)) rfl rfl (Nat.le_of_ble_eq_true rfl) ⟨by decide, by decide⟩ (by decide) (by decide) ?_
  refine xa_callVr (As := [.int (nI (ar x))]) (st := []) d_Trial_isLastBreathOf_15 k_Trial_100 r1 (c_Chart_get5 r1 r9 hN (by omega) hBx) rfl rfl (Nat.le_of_ble_eq_true rfl) ⟨by decide, by decide⟩ (by decide) (by decide) ?_
  refine xa_iconst (v := nI 1) d_Trial_isLastBreathOf_18 rfl ?_
  refine xa_icmp_neN (tgt := 26) d_Trial_isLastBreathOf_19 (by decide) (by omega) (by omega) (fun hz => ?_) (fun hz => ?_)
  ·
    refine xa_iconst (v := nI 0) d_Trial_isLastBreathOf_26 rfl ?_
    exact xa_zreturn d_Trial_isLastBreathOf_27 rfl rfl (by omega) (by omega) ⟨by rw [if_neg hz]; rfl, rfl, rfl⟩
  ·
    refine xa_iconst (v := nI 1) d_Trial_isLastBreathOf_22 rfl ?_
    refine xa_goto (tgt := 27) d_Trial_isLastBreathOf_23 (by decide) ?_
    exact xa_zreturn d_Trial_isLastBreathOf_27 rfl rfl (by omega) (by omega) ⟨by rw [if_pos hz]; rfl, rfl, rfl⟩
theorem w_findsBreath {n ch g aK c tr p sd : Nat} {f A O S BR : Nat → Int32} {b ar o s : Nat → Nat} {v1 v2 v3 : Value} (hR : 2 ≤ R.frames ∧ 42 ≤ R.locals) (hr : xq_R D h n ch g aK c f A O S BR b ar o s) (ht : h tr = some (.inr (7, [v1, v2, v3, .ref g, .ref aK, .ref ch]))) (hp : p < n * n) (hsd : sd = 1 ∨ sd = 2)
    (w : Nat) (hw : w ≤ 4) (hno : ¬ gq_bre n b p sd w) :
    xa_X l D H0 M_Trial_findsBreath R (xa_Zr D H0 0 0 (fun v h' sz' => ((v = some (.int 1) ∧ gq_bre n b p sd 4) ∨ (v = some (.int 0) ∧ ¬ gq_bre n b p sd 4)) ∧ h' = h ∧ sz' = sz)) 0 0 h sz 2 [(0, .ref tr), (1, .int (nI p)), (2, .int (nI sd)), (3, .int (nI w))] [] := by
  obtain ⟨⟨r1, r2, r3, r4, r5, r6, r7, r8, hN, hf, hb⟩, r9, -, -⟩ := id hr
  refine xa_iload_n d_Trial_findsBreath_2 rfl ?_
  refine xa_iconst (v := nI 4) d_Trial_findsBreath_3 rfl ?_
  refine xa_icmp_geN (tgt := 62) d_Trial_findsBreath_4 (by decide) (by omega) (by omega) (fun hb4 => ?_) (fun hb4 => ?_)
  · have hw4 : w = 4 := by omega
    subst hw4
    refine xa_iconst (v := nI 0) d_Trial_findsBreath_62 rfl ?_
    exact xa_zreturn (v := nI 0) d_Trial_findsBreath_63 rfl (by decide) (by omega) (by omega) ⟨Or.inr ⟨rfl, hno⟩, rfl, rfl⟩
  ·
    refine xa_aload_n d_Trial_findsBreath_7 rfl ?_
    refine xa_getf f_Trial_9 d_Trial_findsBreath_8 (by assumption) (by rfl) ?_
    refine xa_iload_n d_Trial_findsBreath_11 rfl ?_
    refine xa_iload_n d_Trial_findsBreath_12 rfl ?_
    refine xa_callVr (As := [.int (nI p), .int (nI w)]) (st := []) d_Trial_findsBreath_13 k_Trial_67 r6 (c_Grid_neighbour r6 r7 hN hp hb4) rfl rfl (Nat.le_of_ble_eq_true rfl) ⟨by have := hR.1; show 0 + 1 ≤ _; omega, by have := hR.2; show 8 + (3 + 11) + 0 ≤ _; omega⟩ (by omega) (by omega) ?_
    have again : (∀ x, gb_nb n p w = some x → ¬ (b x = 0 ∨ (b x = sd ∧ gb_cnt (gt_br n (fun q => nI (b q)) x) (n * n) ≠ 1))) → ∀ z : Int32, xa_X l D H0 M_Trial_findsBreath R (xa_Zr D H0 0 0 (fun v h' sz' => ((v = some (.int 1) ∧ gq_bre n b p sd 4) ∨ (v = some (.int 0) ∧ ¬ gq_bre n b p sd 4)) ∧ h' = h ∧ sz' = sz)) 0 0 h sz 56 [(0, .ref tr), (1, .int (nI p)), (2, .int (nI sd)), (3, .int (nI w)), (4, .int z)] [] := by
      intro hs z
      refine xa_iincN d_Trial_findsBreath_56 rfl rfl rfl ?_
      refine xa_goto (tgt := 2) d_Trial_findsBreath_59 (by decide) ?_
      refine xa_ls ?_ (w_findsBreath hR hr ht hp hsd (w + 1) (by omega) (fun hz => ?_))
      · exact ⟨rfl, rfl, rfl, rfl, trivial⟩
      · obtain ⟨v, x, h0, h1, h2⟩ := hz
        by_cases hv : v = w
        · subst hv; exact hs x h1 h2
        · exact hno ⟨v, x, by omega, h1, h2⟩
    have found : ∀ x, gb_nb n p w = some x → (b x = 0 ∨ (b x = sd ∧ gb_cnt (gt_br n (fun q => nI (b q)) x) (n * n) ≠ 1)) → ∀ lsx, xa_X l D H0 M_Trial_findsBreath R (xa_Zr D H0 0 0 (fun v h' sz' => ((v = some (.int 1) ∧ gq_bre n b p sd 4) ∨ (v = some (.int 0) ∧ ¬ gq_bre n b p sd 4)) ∧ h' = h ∧ sz' = sz)) 0 0 h sz 54 lsx [] := by
      intro x h1 h2 lsx
      refine xa_iconst (v := nI 1) d_Trial_findsBreath_54 rfl ?_
      exact xa_zreturn (v := nI 1) d_Trial_findsBreath_55 rfl (by decide) (by omega) (by omega) ⟨Or.inl ⟨rfl, w, x, by omega, h1, h2⟩, rfl, rfl⟩
    have hv := hf p w hp hb4
    cases hnb : gb_nb n p w with
    | none =>
      rw [hnb] at hv
      refine xa_int (show f (4 * p + w) = -1 from hv) ?_
      refine xa_istore d_Trial_findsBreath_16 rfl rfl ?_
      refine xa_iload d_Trial_findsBreath_18 rfl ?_
      refine xa_iconst (v := -1) d_Trial_findsBreath_20 rfl ?_
      refine xa_icmp_eq (tgt := 56) d_Trial_findsBreath_21 (by decide) (fun hz => ?_) (fun hz => ?_)
      · refine xa_ls ?_ (again (fun x hx => by rw [hnb] at hx; cases hx) (-1))
        exact ⟨rfl, rfl, rfl, rfl, rfl, trivial⟩
      · exact absurd rfl hz
    | some y =>
      rw [hnb] at hv
      have hy := gb_nb_lt hp hb4 hnb
      have hby := hb y hy
      refine xa_int (show f (4 * p + w) = nI y from hv) ?_
      refine xa_istore d_Trial_findsBreath_16 rfl rfl ?_
      refine xa_iload d_Trial_findsBreath_18 rfl ?_
      refine xa_iconst (v := -1) d_Trial_findsBreath_20 rfl ?_
      refine xa_icmp_eq (tgt := 56) d_Trial_findsBreath_21 (by decide) (fun hz => ?_) (fun hz => ?_)
      · exact absurd hz (gb_m1 (by omega))
      ·
        refine xa_aload_n d_Trial_findsBreath_24 rfl ?_
        refine xa_getf f_Trial_15 d_Trial_findsBreath_25 (by assumption) (by rfl) ?_
        refine xa_iload d_Trial_findsBreath_28 rfl ?_
        refine xa_ialdE d_Trial_findsBreath_30 (by assumption) rfl (by omega) (by omega) (by rfl) ?_
        refine xa_if_eqN (tgt := 54) d_Trial_findsBreath_31 (by decide) (by omega) (fun hz2 => ?_) (fun hz2 => ?_)
        · exact found y hnb (Or.inl hz2) _
        ·
          refine xa_aload_n d_Trial_findsBreath_34 rfl ?_
          refine xa_getf f_Trial_15 d_Trial_findsBreath_35 (by assumption) (by rfl) ?_
          refine xa_iload d_Trial_findsBreath_38 rfl ?_
          refine xa_ialdE d_Trial_findsBreath_40 (by assumption) rfl (by omega) (by omega) (by rfl) ?_
          refine xa_iload_n d_Trial_findsBreath_41 rfl ?_
          refine xa_icmp_neN (tgt := 56) d_Trial_findsBreath_42 (by decide) (by omega) (by omega) (fun hz3 => ?_) (fun hz3 => ?_)
          · refine xa_ls ?_ (again (fun x hx => by rw [hnb] at hx; cases hx; exact fun z => z.elim (by omega) (fun z => hz3 z.1)) (nI y))
            exact ⟨rfl, rfl, rfl, rfl, rfl, trivial⟩
          ·
            refine xa_aload_n d_Trial_findsBreath_45 rfl ?_
            refine xa_iload d_Trial_findsBreath_46 rfl ?_
            refine xa_callVr (As := [.int (nI y)]) (st := []) d_Trial_findsBreath_48 k_Trial_71 ht (c_Trial_isLastBreathOf hr ht hy (by omega)) rfl rfl (Nat.le_of_ble_eq_true rfl) ⟨by have := hR.1; show 1 + 1 ≤ _; omega, by have := hR.2; show 8 + (2 + 11) + 21 ≤ _; omega⟩ (by omega) (by omega) ?_
            by_cases h1 : gb_cnt (gt_br n (fun q => nI (b q)) y) (n * n) = 1
            · refine xa_int (show (if gb_cnt (gt_br n (fun q => nI (b q)) y) (n * n) = 1 then (1 : Int32) else 0) = nI 1 from by rw [if_pos h1]; rfl) ?_
              refine xa_if_neN (tgt := 56) d_Trial_findsBreath_51 (by decide) (by omega) (fun hz4 => ?_) (fun hz4 => ?_)
              · refine xa_ls ?_ (again (fun x hx => by rw [hnb] at hx; cases hx; exact fun z => z.elim (by omega) (fun z => z.2 h1)) (nI y))
                exact ⟨rfl, rfl, rfl, rfl, rfl, trivial⟩
              · omega
            · refine xa_int (show (if gb_cnt (gt_br n (fun q => nI (b q)) y) (n * n) = 1 then (1 : Int32) else 0) = nI 0 from by rw [if_neg h1]; rfl) ?_
              refine xa_if_neN (tgt := 56) d_Trial_findsBreath_51 (by decide) (by omega) (fun hz4 => ?_) (fun hz4 => ?_)
              · omega
              · exact found y hnb (Or.inr ⟨hz3, h1⟩) _
termination_by 4 - w
decreasing_by omega
theorem c_Trial_findsBreath {n ch g aK c tr p sd : Nat} {f A O S BR : Nat → Int32} {b ar o s : Nat → Nat} {v1 v2 v3 : Value} (hr : xq_R D h n ch g aK c f A O S BR b ar o s) (ht : h tr = some (.inr (7, [v1, v2, v3, .ref g, .ref aK, .ref ch]))) (hp : p < n * n) (hsd : sd = 1 ∨ sd = 2) :
    xa_M l D H0 M_Trial_findsBreath 2 42 0 0 [.ref tr, .int (nI p), .int (nI sd)] h sz (fun v h' sz' => ((v = some (.int 1) ∧ gq_bre n b p sd 4) ∨ (v = some (.int 0) ∧ ¬ gq_bre n b p sd 4)) ∧ h' = h ∧ sz' = sz) := by
  refine xa_enter (by decide) rfl rfl ?_
  refine xa_iconst (v := nI 0) d_Trial_findsBreath_0 rfl ?_
  refine xa_istore_n d_Trial_findsBreath_1 rfl rfl ?_
  refine xa_ls ?_ (w_findsBreath ⟨by decide, by decide⟩ hr ht hp hsd 0 (by omega) (fun ⟨v, x, h0, _⟩ => by omega))
  exact ⟨rfl, rfl, rfl, rfl, trivial⟩
theorem w_takeString {n ch g aK c tr a k ls : Nat} {f A O S BR : Nat → Int32} {b ar o s t : Nat → Nat} (hR : 1 ≤ R.frames ∧ 24 ≤ R.locals) (hr : xq_R D h n ch g aK c f A O S BR b ar o s) (hlt : g + 1 < ch ∧ aK < ch ∧ ch + 8 < tr) (ha : a < c)
    (i : Nat) (t' V' : Nat → Nat) (hi : i ≤ s (a + 1) - s a) (hV : gp_B (n * n) t' V') (ht' : gq_off (n * n) (fun q => ∃ j, j < i ∧ o (s a + j) = q) t t') :
    xa_X l D H0 M_Trial_takeString R (xa_Zr D H0 0 0 (fun v h' sz' => ∃ (t' V' : Nat → Nat), gp_B (n * n) t' V' ∧ gq_off (n * n) (gb_conn n (fun q => nI (b q)) (o (s a))) t t' ∧ v = none ∧ h' = xr_h D h tr g aK ch (n * n) V' (k + (s (a + 1) - s a)) ls ∧ sz' = sz)) 0 0 (xr_h D h tr g aK ch (n * n) V' k ls) sz 2 [(0, .ref tr), (1, .int (nI a)), (2, .int (nI i))] [] := by
  have hr' : xq_R D (xr_h D h tr g aK ch (n * n) V' k ls) n ch g aK c f A O S BR b ar o s := xr_R hr hlt
  obtain ⟨⟨r1, r2, r3, r4, r5, r6, r7, r8, hN, hf, hb⟩, r9, ⟨w1, w2, w3, w4⟩, hBR⟩ := hr'
  have r0 : xr_h D h tr g aK ch (n * n) V' k ls tr = some (.inr (7, [.ref (tr + 1), .int (nI k), .int (nI ls), .ref g, .ref aK, .ref ch])) := xr_h0
  have hcN : c ≤ n * n := w1.2.2.2.2.2.2.2.2.2.2
  obtain ⟨a1, a2, a3, a4, a5⟩ := gs_W_area w1 ha
  have hsz := w1.2.2.2.2.2.2.2.1 a ha
  refine xa_iload_n d_Trial_takeString_2 rfl ?_
  refine xa_aload_n d_Trial_takeString_3 rfl ?_
  refine xa_getf f_Trial_19 d_Trial_takeString_4 (by assumption) (by rfl) ?_
  refine xa_getf f_Trial_79 d_Trial_takeString_7 (by assumption) (by rfl) ?_
  refine xa_iload_n d_Trial_takeString_10 rfl ?_
  refine xa_callVr (As := [.int (nI a)]) (st := [.int (nI i)]) d_Trial_takeString_11 k_Trial_94 r2 (c_Areas_sizeOf (s := s) r2 r5 hN (by omega) (w4 a (by omega)) (w4 (a + 1) (by omega)) (by omega)) rfl rfl (Nat.le_of_ble_eq_true rfl) ⟨hR.1, by have := hR.2; show 8 + (2 + 11) + 0 ≤ _; omega⟩ (by omega) (by omega) ?_
  refine xa_icmp_geN (tgt := 43) d_Trial_takeString_14 (by decide) (by omega) (by omega) (fun hb4 => ?_) (fun hb4 => ?_)
  · have hie : i = s (a + 1) - s a := by omega
    refine xa_aload_n d_Trial_takeString_43 rfl ?_
    refine xa_dup d_Trial_takeString_44 rfl ?_
    refine xa_getf f_Trial_49 d_Trial_takeString_45 (by assumption) (by rfl) ?_
    refine xa_aload_n d_Trial_takeString_48 rfl ?_
    refine xa_getf f_Trial_19 d_Trial_takeString_49 (by assumption) (by rfl) ?_
    refine xa_getf f_Trial_79 d_Trial_takeString_52 (by assumption) (by rfl) ?_
    refine xa_iload_n d_Trial_takeString_55 rfl ?_
    refine xa_callVr (As := [.int (nI a)]) (st := [.int (nI k), .ref tr]) d_Trial_takeString_56 k_Trial_94 r2 (c_Areas_sizeOf (s := s) r2 r5 hN (by omega) (w4 a (by omega)) (w4 (a + 1) (by omega)) (by omega)) rfl rfl (Nat.le_of_ble_eq_true rfl) ⟨hR.1, by have := hR.2; show 8 + (2 + 11) + 0 ≤ _; omega⟩ (by omega) (by omega) ?_
    refine xa_iaddN d_Trial_takeString_59 ?_
    refine xa_putf f_Trial_49 d_Trial_takeString_60 r0 (Nat.le_of_ble_eq_true rfl) rfl rfl ?_
    refine xa_heap (xr_u0 (k + (s (a + 1) - s a)) ls) ?_
    exact xa_return d_Trial_takeString_63 rfl (by omega) (by omega) ⟨t', V', hV, gq_off_eq ht' (fun q _ => by rw [hie]; exact a5 q), rfl, rfl, rfl⟩
  ·
    refine xa_aload_n d_Trial_takeString_17 rfl ?_
    refine xa_getf f_Trial_35 d_Trial_takeString_18 (by assumption) (by rfl) ?_
    refine xa_aload_n d_Trial_takeString_21 rfl ?_
    refine xa_getf f_Trial_19 d_Trial_takeString_22 (by assumption) (by rfl) ?_
    refine xa_getf f_Trial_79 d_Trial_takeString_25 (by assumption) (by rfl) ?_
    refine xa_iload_n d_Trial_takeString_28 rfl ?_
    refine xa_iload_n d_Trial_takeString_29 rfl ?_
    refine xa_callVr (As := [.int (nI a), .int (nI i)]) (st := [.ref (tr + 1)]) d_Trial_takeString_30 k_Trial_97 r2 (c_Areas_pointOf (o := o) (s := s) r2 r4 r5 hN (by omega) (w4 a (by omega)) (by omega) (w3 _ (by omega))) rfl rfl (Nat.le_of_ble_eq_true rfl) ⟨hR.1, by have := hR.2; show 8 + (3 + 11) + 0 ≤ _; omega⟩ (by omega) (by omega) ?_
    refine xa_iconst (v := nI 0) d_Trial_takeString_33 rfl ?_
    have hpi : o (s a + i) < n * n := w1.2.2.1 _ (by omega)
    refine xa_callSr (As := [.ref (tr + 1), .int (nI (o (s a + i))), .int (nI 0)]) (st := []) d_Trial_takeString_34 k_Trial_45 (c_Packed_setKind xr_h1 hV hpi (show 0 < 4 by decide) hN) rfl rfl (Nat.le_of_ble_eq_true rfl) ⟨hR.1, by have := hR.2; show 8 + (5 + 11) + 0 ≤ _; omega⟩ (by omega) (by omega) ?_
    rw [xr_u1]
    refine xa_iincN d_Trial_takeString_37 rfl rfl rfl ?_
    refine xa_goto (tgt := 2) d_Trial_takeString_40 (by decide) ?_
    refine xa_ls ?_ (w_takeString hR hr hlt ha (i + 1) _ _ (by omega) (gp_B_set hV hpi (show 0 < 4 by decide)) (fun q hq => ?_))
    · exact ⟨rfl, rfl, rfl, trivial⟩
    · constructor
      · rintro ⟨j, hj, rfl⟩
        by_cases hji : o (s a + j) = o (s a + i)
        · simp only [if_pos hji]
        · simp only [if_neg hji]
          exact (ht' _ hq).1 ⟨j, by have : j ≠ i := fun z => hji (by rw [z]); omega, rfl⟩
      · intro hc
        have h1 : ¬ q = o (s a + i) := fun z => hc ⟨i, by omega, z.symm⟩
        simp only [if_neg h1]
        exact (ht' q hq).2 (fun ⟨j, hj, z⟩ => hc ⟨j, by omega, z⟩)
termination_by s (a + 1) - s a - i
decreasing_by omega
theorem c_Trial_takeString {n ch g aK c tr a k ls : Nat} {f A O S BR : Nat → Int32} {b ar o s t V : Nat → Nat} (hr : xq_R D h n ch g aK c f A O S BR b ar o s) (hlt : g + 1 < ch ∧ aK < ch ∧ ch + 8 < tr) (ha : a < c) (hV : gp_B (n * n) t V) :
    xa_M l D H0 M_Trial_takeString 1 24 0 0 [.ref tr, .int (nI a)] (xr_h D h tr g aK ch (n * n) V k ls) sz (fun v h' sz' => ∃ (t' V' : Nat → Nat), gp_B (n * n) t' V' ∧ gq_off (n * n) (gb_conn n (fun q => nI (b q)) (o (s a))) t t' ∧ v = none ∧ h' = xr_h D h tr g aK ch (n * n) V' (k + (s (a + 1) - s a)) ls ∧ sz' = sz) := by
  refine xa_enter (by decide) rfl rfl ?_
  refine xa_iconst (v := nI 0) d_Trial_takeString_0 rfl ?_
  refine xa_istore_n d_Trial_takeString_1 rfl rfl ?_
  refine xa_ls ?_ (w_takeString ⟨by decide, by decide⟩ hr hlt ha 0 t V (by omega) hV (fun q hq => ⟨fun ⟨j, hj, _⟩ => by omega, fun _ => rfl⟩))
  exact ⟨rfl, rfl, rfl, trivial⟩
end TK
