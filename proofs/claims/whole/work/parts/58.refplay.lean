/-! The reference: play, pass, back. -/
theorem xR_o_12 {r n : Nat} {v v' : Nat → Nat} (e : some (xR_o r n v) = some (xR_o r n v')) : nI (v 1) = nI (v' 1) ∧ nI (v 2) = nI (v' 2) := by
  have f0 : ∀ k : Nat, (match (xR_o r n v : va_E) with | .inr q => q.2[k]? | _ => none) = (match (xR_o r n v' : va_E) with | .inr q => q.2[k]? | _ => none) := fun k => by rw [Option.some.inj e]
  have f1 : some (Value.int (nI (v 1))) = some (Value.int (nI (v' 1))) := f0 5
  have f2 : some (Value.int (nI (v 2))) = some (Value.int (nI (v' 2))) := f0 6
  exact ⟨by injection f1 with f1; injection f1, by injection f2 with f2; injection f2⟩
theorem xR_I.add {n : Nat} {b : Nat → Nat} {m : Nat} {bd : Nat → Nat → Nat} {pt : Nat → Int32} {tb tw : Nat → Nat} {B SD MV TB TW : Nat → Int32} (hI : xR_I n b m bd pt tb tw B SD MV TB TW) {t u : Nat → Nat} {x : Int32} {k1 k2 : Nat} {B' SD' : Nat → Int32} (hN : n * n ≤ 169) (hB : ∀ q, q < n * n → B' q = nI (t q)) (hs1 : ∀ q, q < n * n → SD' (169 * (m + 1) + q) = nI (u q)) (hs2 : ∀ i, (i < 169 * (m + 1) ∨ 169 * (m + 1) + 169 ≤ i) → SD' i = SD i) :
    xR_I n t (m + 1) (xh_up bd (m + 1) u) (xh_up pt (m + 1) x) (xh_up tb (m + 1) (tb m + k1)) (xh_up tw (m + 1) (tw m + k2)) B' SD' (upd MV m x) (upd TB m (nI k1)) (upd TW m (nI k2)) := by
  obtain ⟨i1, i2, i3, i4, i5⟩ := hI
  refine ⟨hB, fun i hi q hq => ?_, fun i hi => ?_, fun i hi => ?_, fun i hi => ?_⟩
  · by_cases he : i = m + 1
    · subst he
      rw [xh_up_eq]
      exact hs1 q hq
    · rw [xh_up_ne _ _ he, hs2 _ (Or.inl (by omega))]
      exact i2 i (by omega) q hq
  · by_cases he : i = m
    · subst he
      rw [xh_up_eq]
      exact if_pos rfl
    · have hu : upd MV m x i = MV i := if_neg he
      rw [hu, xh_up_ne _ _ (by omega)]
      exact i3 i (by omega)
  · by_cases he : i = m
    · subst he
      refine ⟨k1, if_pos rfl, ?_⟩
      rw [xh_up_eq, xh_up_ne _ _ (by omega)]
    · have hu : upd TB m (nI k1) i = TB i := if_neg he
      rw [hu, xh_up_ne _ _ (by omega), xh_up_ne _ _ (by omega)]
      exact i4 i (by omega)
  · by_cases he : i = m
    · subst he
      refine ⟨k2, if_pos rfl, ?_⟩
      rw [xh_up_eq, xh_up_ne _ _ (by omega)]
    · have hu : upd TW m (nI k2) i = TW i := if_neg he
      rw [hu, xh_up_ne _ _ (by omega), xh_up_ne _ _ (by omega)]
      exact i5 i (by omega)
section RP
variable {l : Launch} {D : va_G} {H0 : Heap} {h : xa_H} {sz : Nat} {R : Room} {r n fs : Nat} {b : Nat → Nat} {m : Nat} {bd : Nat → Nat → Nat} {pt : Nat → Int32} {tb tw : Nat → Nat} {cd : Nat}
theorem w_play_cp {Z : xa_Z} {p sd : Nat} {v t : Nat → Nat} {TR : Nat → Int32} (h0 : h r = some (xR_o r n v)) (h2 : h (r + 2) = some (.inl (D.1 100, 169, .inl TR))) (hn : 2 ≤ n ∧ n ≤ 13) (ht : ∀ q, q < n * n → TR q = nI (t q))
    (kont : ∀ B', (∀ q, q < n * n → B' q = nI (t q)) → xa_X l D H0 M_Ref_play R Z 0 0 (xa_u h (r + 1) (.inl (D.1 100, 169, .inl B'))) sz 79 [(0, .ref r), (1, .int (nI p)), (2, .int (nI sd))] []) (k : Nat) (hk : k ≤ n * n) (B' : Nat → Int32) (hB' : ∀ q, q < k → B' q = nI (t q)) :
    xa_X l D H0 M_Ref_play R Z 0 0 (xa_u h (r + 1) (.inl (D.1 100, 169, .inl B'))) sz 53 [(0, .ref r), (1, .int (nI p)), (2, .int (nI sd)), (3, .int (nI k))] [] := by
  have hN : n * n ≤ 169 := Nat.mul_le_mul hn.2 hn.2
  have q0 : xa_u h (r + 1) (.inl (D.1 100, 169, .inl B')) r = some (xR_o r n v) := xa_u_ne h0 (by omega)
  have q2 : xa_u h (r + 1) (.inl (D.1 100, 169, .inl B')) (r + 2) = some (.inl (D.1 100, 169, .inl TR)) := xa_u_ne h2 (by omega)
  refine xa_iload_n d_Ref_play_53 rfl ?_
  refine xa_aload_n d_Ref_play_54 rfl ?_
  refine xa_getf f_Ref_62 d_Ref_play_55 (by assumption) (by rfl) ?_
  refine xa_icmp_geN (tgt := 79) d_Ref_play_58 (by decide) (by omega) (by omega) (fun hb => ?_) (fun hb => ?_)
  · have hke : k = n * n := by omega
    subst hke
    exact xa_sl (kont B' hB') ⟨rfl, rfl, rfl, trivial⟩
  ·
    refine xa_aload_n d_Ref_play_61 rfl ?_
    refine xa_getf f_Ref_7 d_Ref_play_62 (by assumption) (by rfl) ?_
    refine xa_iload_n d_Ref_play_65 rfl ?_
    refine xa_aload_n d_Ref_play_66 rfl ?_
    refine xa_getf f_Ref_13 d_Ref_play_67 (by assumption) (by rfl) ?_
    refine xa_iload_n d_Ref_play_70 rfl ?_
    refine xa_ialdE d_Ref_play_71 q2 rfl (show k < 169 by omega) (by omega) (ht k hb) ?_
    refine xa_iastE d_Ref_play_72 (xa_u_eq _ _ _) rfl (show k < 169 by omega) (by omega) ?_
    rw [xa_uu]
    refine xa_iincN d_Ref_play_73 rfl rfl rfl ?_
    refine xa_goto (tgt := 53) d_Ref_play_76 (by decide) ?_
    refine xa_ls ?_ (w_play_cp h0 h2 hn ht kont (k + 1) (by omega) _ (fun q hq => ?_))
    · exact ⟨rfl, rfl, rfl, rfl, trivial⟩
    · by_cases he : q = k
      · rw [he]; exact if_pos rfl
      · have hu : upd B' k (nI (t k)) q = B' q := if_neg he
        rw [hu]
        exact hB' q (by omega)
termination_by n * n - k
decreasing_by omega
theorem c_Ref_play {p k ls : Nat} {t : Nat → Nat} (hS : xR_S D h r n fs b m bd pt tb tw cd) (hZ : xZ_I n fs b m bd pt tb tw) (hm : m < 1000) (hp : p < n * n) (hok : gx_ok n fs b m bd pt p) (hT : gq_T n b p (gx_turn fs m) t k ls) :
    xa_M l D H0 M_Ref_play 5 119 0 0 [.ref r, .int (nI p)] h sz (fun v h' sz' => v = some (.int (nI k)) ∧ xR_S D h' r n fs t (m + 1) (xh_up bd (m + 1) t) (xh_up pt (m + 1) (nI p)) (xh_up tb (m + 1) (tb m + if ls = 1 then k else 0)) (xh_up tw (m + 1) (tw m + if ls = 2 then k else 0)) 0 ∧ xR_F h h' r ∧ sz' = sz) := by
  have hn := hZ.1.1
  have hN : n * n ≤ 169 := Nat.mul_le_mul hn.2 hn.2
  have hsd := gx_turn_or (m := m) hZ.1.2.1
  obtain ⟨htle, hls⟩ := gq_T_le hZ.b2 hsd hT
  obtain ⟨v0, h0, -⟩ := hS.code
  refine xa_enter (by decide) rfl rfl ?_
  refine xa_aload_n d_Ref_play_0 rfl ?_
  refine xa_iload_n d_Ref_play_1 rfl ?_
  refine xa_callV (As := [.int (nI p)]) (st := []) d_Ref_play_2 k_Ref_118 h0 (c_Ref_noPoint hS hn hp) rfl rfl (Nat.le_of_ble_eq_true rfl) ⟨by decide, by decide⟩ (by decide) (by decide) (fun v' h1 sz' hq => ?_)
  obtain ⟨e1, hS1, hF1, e2⟩ := hq
  rw [e1, e2]
  obtain ⟨v1, g0, -, f3, -⟩ := hS1.code
  refine xa_if_eqN (tgt := 10) d_Ref_play_5 (by decide) (by omega) (fun hz => ?_) (fun hz => ?_)
  ·
    refine xa_aload_n d_Ref_play_10 rfl ?_
    refine xa_aload_n d_Ref_play_11 rfl ?_
    refine xa_getf f_Ref_96 d_Ref_play_12 (by assumption) (by rfl) ?_
    refine xa_int (y := nI m) (by rw [f3]) ?_
    refine xa_sipush (v := nI 1000) d_Ref_play_15 (by decide) ?_
    refine xa_icmp_eqN (tgt := 29) d_Ref_play_18 (by decide) (by omega) (by omega) (fun hz1 => ?_) (fun hz1 => ?_)
    · omega
    ·
      refine xa_aload_n d_Ref_play_21 rfl ?_
      refine xa_iload_n d_Ref_play_22 rfl ?_
      refine xa_callV (As := [.int (nI p)]) (st := [.ref r]) d_Ref_play_23 k_Ref_129 g0 (c_Ref_whyNot hS1 hZ hp) rfl rfl (Nat.le_of_ble_eq_true rfl) ⟨by decide, by decide⟩ (by decide) (by decide) (fun v' h2 sz' hq => ?_)
      obtain ⟨⟨j, e1, hw⟩, hS2, hF2, e2⟩ := hq
      rw [e1, e2]
      obtain ⟨hj, t', k', ls', hT', v', TR, hr', hTR, ht', hk1', hk2'⟩ := gr_why_yes hok hw
      obtain ⟨htt, hkk, hll⟩ := gq_T_un hT' hT
      subst hj hkk hll
      have ht : ∀ q, q < n * n → TR q = nI (t q) := fun q hq => by rw [ht' q hq, htt q hq]
      show xa_X l D H0 M_Ref_play _ _ _ _ h2 sz 26 _ [.int (nI 0), .ref r]
      refine xa_if_leN (tgt := 33) d_Ref_play_26 (by decide) (by omega) (fun hz2 => ?_) (fun hz2 => ?_)
      ·
        refine xa_iconst (v := nI 0) d_Ref_play_33 rfl ?_
        obtain ⟨v, B, SD, MV, TB, TW, hA, ⟨f0, f3, f4⟩, hI⟩ := id hS2
        have hvv := xR_o_12 (hA.1.symm.trans hr')
        have hk1 : nI (v 1) = nI (if ls' = gx_turn fs m then 0 else k') := by rw [hvv.1, hk1']
        have hk2 : nI (v 2) = nI (if ls' = gx_turn fs m then k' else 0) := by rw [hvv.2, hk2']
        have hA1 := hA.o (xh_up v 0 0)
        refine xa_putf f_Ref_65 d_Ref_play_34 hA.1 (Nat.le_of_ble_eq_true rfl) rfl rfl ?_
        refine xa_heap (h' := xa_u h2 r (xR_o r n (xh_up v 0 0))) rfl ?_
        have q0 := hA1.1
        have q2 : xa_u h2 r (xR_o r n (xh_up v 0 0)) (r + 2) = some (.inl (D.1 100, 169, .inl TR)) := xa_u_ne hTR (by omega)
        have hFa : ∀ q, q < r ∨ r + 15 ≤ q → xa_u h2 r (xR_o r n (xh_up v 0 0)) q = h q := fun q hq => xa_u_ne (gr_F_tr hF1 hF2 q hq) (by omega)
        have hS3 : xR_S D (xa_u h2 r (xR_o r n (xh_up v 0 0))) r n fs b m bd pt tb tw 0 := ⟨xh_up v 0 0, B, SD, MV, TB, TW, hA1, ⟨rfl, f3, f4⟩, hI⟩
        refine xa_aload_n d_Ref_play_37 rfl ?_
        refine xa_getf f_Ref_65 d_Ref_play_38 (by assumption) (by rfl) ?_
        refine xa_int (y := nI 0) rfl ?_
        have w3 : (xh_up v 0 0) 3 = m := f3
        have w1 : nI ((xh_up v 0 0) 1) = nI (if ls' = gx_turn fs m then 0 else k') := hk1
        have w2 : nI ((xh_up v 0 0) 2) = nI (if ls' = gx_turn fs m then k' else 0) := hk2
        have w0 : (xh_up v 0 0) 0 = 0 := rfl
        have w4 : (xh_up v 0 0) 4 = fs := f4
        generalize xh_up v 0 0 = w at *
        generalize hHe : xa_u h2 r (xR_o r n w) = h3 at *
        clear hHe
        refine xa_if_leN (tgt := 46) d_Ref_play_41 (by decide) (by omega) (fun hz3 => ?_) (fun hz3 => ?_)
        ·
          refine xa_aload_n d_Ref_play_46 rfl ?_
          refine xa_callVr (As := []) (st := []) d_Ref_play_47 k_Ref_107 q0 (c_Ref_turnNow hS3 hZ.1.2.1 hZ.1.2.2) rfl rfl (Nat.le_of_ble_eq_true rfl) ⟨by decide, by decide⟩ (by decide) (by decide) ?_
          refine xa_istore_n d_Ref_play_50 rfl rfl ?_
          refine xa_iconst (v := nI 0) d_Ref_play_51 rfl ?_
          refine xa_istore_n d_Ref_play_52 rfl rfl ?_
          refine xa_heap (xa_us _ hA1.2.1).symm ?_
          refine xa_ls ?_ (w_play_cp (p := p) (sd := gx_turn fs m) (t := t) q0 q2 hn ht (fun B' hB' => ?_) 0 (by omega) B (fun q hq => absurd hq (Nat.not_lt_zero _)))
          · exact ⟨rfl, rfl, rfl, rfl, trivial⟩
          · have hA2 := hA1.uB B'
            have hFb : ∀ q, q < r ∨ r + 15 ≤ q → xa_u h3 (r + 1) (.inl (D.1 100, 169, .inl B')) q = h q := fun q hq => xa_u_ne (hFa q hq) (by omega)
            generalize xa_u h3 (r + 1) (.inl (D.1 100, 169, .inl B')) = h4 at *
            have tail : xa_X l D H0 M_Ref_play (xa_rm 5 0 0 119) (xa_Zr D H0 0 0 (fun v h' sz' => v = some (.int (nI k')) ∧ xR_S D h' r n fs t (m + 1) (xh_up bd (m + 1) t) (xh_up pt (m + 1) (nI p)) (xh_up tb (m + 1) (tb m + if ls' = 1 then k' else 0)) (xh_up tw (m + 1) (tw m + if ls' = 2 then k' else 0)) 0 ∧ xR_F h h' r ∧ sz' = sz)) 0 0 (xa_u (xa_u h4 (r + 5) (.inl (D.1 100, 1000, .inl (upd TB m (nI (if ls' = 1 then k' else 0)))))) (r + 6) (.inl (D.1 100, 1000, .inl (upd TW m (nI (if ls' = 2 then k' else 0)))))) sz 129 [(0, .ref r), (1, .int (nI p))] [] := by
              have hA4 := (hA2.uK (upd TB m (nI (if ls' = 1 then k' else 0)))).uW (upd TW m (nI (if ls' = 2 then k' else 0)))
              have hFd : ∀ q, q < r ∨ r + 15 ≤ q → xa_u (xa_u h4 (r + 5) (.inl (D.1 100, 1000, .inl (upd TB m (nI (if ls' = 1 then k' else 0)))))) (r + 6) (.inl (D.1 100, 1000, .inl (upd TW m (nI (if ls' = 2 then k' else 0))))) q = h q := fun q hq => xa_u_ne (xa_u_ne (hFb q hq) (by omega)) (by omega)
              generalize xa_u (xa_u h4 (r + 5) (.inl (D.1 100, 1000, .inl (upd TB m (nI (if ls' = 1 then k' else 0)))))) (r + 6) (.inl (D.1 100, 1000, .inl (upd TW m (nI (if ls' = 2 then k' else 0))))) = h5 at *
              have q5 := hA4.1
              refine xa_aload_n d_Ref_play_129 rfl ?_
              refine xa_getf f_Ref_21 d_Ref_play_130 (by assumption) (by rfl) ?_
              refine xa_aload_n d_Ref_play_133 rfl ?_
              refine xa_getf f_Ref_96 d_Ref_play_134 (by assumption) (by rfl) ?_
              refine xa_int (y := nI m) (by rw [w3]) ?_
              refine xa_iload_n d_Ref_play_137 rfl ?_
              refine xa_iastE d_Ref_play_138 hA4.2.2.2.1 rfl (show m < 1000 by omega) (by omega) ?_
              have hA5 := hA4.uM (upd MV m (nI p))
              have q6 := hA5.1
              refine xa_aload_n d_Ref_play_139 rfl ?_
              refine xa_dup d_Ref_play_140 rfl ?_
              refine xa_getf f_Ref_96 d_Ref_play_141 (by assumption) (by rfl) ?_
              refine xa_int (y := nI m) (by rw [w3]) ?_
              refine xa_iconst (v := nI 1) d_Ref_play_144 rfl ?_
              refine xa_iaddN d_Ref_play_145 ?_
              refine xa_putf f_Ref_96 d_Ref_play_146 q6 (Nat.le_of_ble_eq_true rfl) rfl rfl ?_
              refine xa_heap (h' := xa_u (xa_u h5 (r + 4) (.inl (D.1 100, 1000, .inl (upd MV m (nI p))))) r (xR_o r n (xh_up w 3 (m + 1)))) rfl ?_
              have hA6 := hA5.o (xh_up w 3 (m + 1))
              have q7 := hA6.1
              refine xa_aload_n d_Ref_play_149 rfl ?_
              refine xa_aload_n d_Ref_play_150 rfl ?_
              refine xa_getf f_Ref_96 d_Ref_play_151 (by assumption) (by rfl) ?_
              refine xa_int (y := nI (m + 1)) rfl ?_
              refine xa_callV (As := [.int (nI (m + 1))]) (st := []) d_Ref_play_154 k_Ref_125 q7 (c_Ref_keep (k := m + 1) q7 hA6.2.1 hA6.2.2.1 hn (by omega) hB' htle) rfl rfl (Nat.le_of_ble_eq_true rfl) ⟨by decide, by decide⟩ (by decide) (by decide) (fun v' h' sz' hq => ?_)
              obtain ⟨SD', s1, s2, e1, e2, e3⟩ := hq
              rw [e1, e2, e3]
              have hA7 := hA6.uS SD'
              have q8 := hA7.1
              refine xa_aload_n d_Ref_play_157 rfl ?_
              refine xa_getf f_Ref_93 d_Ref_play_158 (by assumption) (by rfl) ?_
              refine xa_int (y := nI (if ls' = gx_turn fs m then k' else 0)) w2 ?_
              refine xa_aload_n d_Ref_play_161 rfl ?_
              refine xa_getf f_Ref_79 d_Ref_play_162 (by assumption) (by rfl) ?_
              refine xa_int (y := nI (if ls' = gx_turn fs m then 0 else k')) w1 ?_
              refine xa_iaddN d_Ref_play_165 ?_
              refine xa_int (y := nI k') (by split <;> simp) ?_
              exact xa_ireturn d_Ref_play_166 rfl (by decide) (by decide) ⟨rfl, ⟨xh_up w 3 (m + 1), B', SD', _, _, _, hA7, ⟨w0, rfl, w4⟩, hI.add hN hB' s1 s2⟩, fun q hq => xa_u_ne (xa_u_ne (xa_u_ne (hFd q hq) (by omega)) (by omega)) (by omega), rfl⟩
            have q3 := hA2.1
            refine xa_aload_n d_Ref_play_79 rfl ?_
            refine xa_getf f_Ref_24 d_Ref_play_80 (by assumption) (by rfl) ?_
            refine xa_aload_n d_Ref_play_83 rfl ?_
            refine xa_getf f_Ref_96 d_Ref_play_84 (by assumption) (by rfl) ?_
            refine xa_int (y := nI m) (by rw [w3]) ?_
            have hA3 := hA2.uK (upd TB m (nI (if ls' = 1 then k' else 0)))
            have q4 := hA3.1
            refine xa_iload_n d_Ref_play_87 rfl ?_
            refine xa_iconst (v := nI 1) d_Ref_play_88 rfl ?_
            rcases hsd with e | e
            · rw [e] at w1 w2 ⊢
              refine xa_icmp_neN (tgt := 99) d_Ref_play_89 (by decide) (by omega) (by omega) (fun hs => ?_) (fun hs => ?_)
              · omega
              ·
                refine xa_aload_n d_Ref_play_92 rfl ?_
                refine xa_getf f_Ref_93 d_Ref_play_93 (by assumption) (by rfl) ?_
                refine xa_int (y := nI (if ls' = 1 then k' else 0)) w2 ?_
                refine xa_goto (tgt := 103) d_Ref_play_96 (by decide) ?_
                refine xa_iastE d_Ref_play_103 hA2.2.2.2.2.1 rfl (show m < 1000 by omega) (by omega) ?_
                refine xa_aload_n d_Ref_play_104 rfl ?_
                refine xa_getf f_Ref_27 d_Ref_play_105 (by assumption) (by rfl) ?_
                refine xa_aload_n d_Ref_play_108 rfl ?_
                refine xa_getf f_Ref_96 d_Ref_play_109 (by assumption) (by rfl) ?_
                refine xa_int (y := nI m) (by rw [w3]) ?_
                refine xa_iload_n d_Ref_play_112 rfl ?_
                refine xa_iconst (v := nI 2) d_Ref_play_113 rfl ?_
                refine xa_icmp_neN (tgt := 124) d_Ref_play_114 (by decide) (by omega) (by omega) (fun hs2 => ?_) (fun hs2 => ?_)
                ·
                  refine xa_aload_n d_Ref_play_124 rfl ?_
                  refine xa_getf f_Ref_79 d_Ref_play_125 (by assumption) (by rfl) ?_
                  refine xa_int (y := nI (if ls' = 2 then k' else 0)) (w1.trans (by rcases hls with e | e <;> rw [e] <;> rfl)) ?_
                  refine xa_iastE d_Ref_play_128 hA3.2.2.2.2.2.1 rfl (show m < 1000 by omega) (by omega) ?_
                  exact xa_sl tail ⟨rfl, rfl, trivial⟩
                · omega
            · rw [e] at w1 w2 ⊢
              refine xa_icmp_neN (tgt := 99) d_Ref_play_89 (by decide) (by omega) (by omega) (fun hs => ?_) (fun hs => ?_)
              ·
                refine xa_aload_n d_Ref_play_99 rfl ?_
                refine xa_getf f_Ref_79 d_Ref_play_100 (by assumption) (by rfl) ?_
                refine xa_int (y := nI (if ls' = 1 then k' else 0)) (w1.trans (by rcases hls with e | e <;> rw [e] <;> rfl)) ?_
                refine xa_iastE d_Ref_play_103 hA2.2.2.2.2.1 rfl (show m < 1000 by omega) (by omega) ?_
                refine xa_aload_n d_Ref_play_104 rfl ?_
                refine xa_getf f_Ref_27 d_Ref_play_105 (by assumption) (by rfl) ?_
                refine xa_aload_n d_Ref_play_108 rfl ?_
                refine xa_getf f_Ref_96 d_Ref_play_109 (by assumption) (by rfl) ?_
                refine xa_int (y := nI m) (by rw [w3]) ?_
                refine xa_iload_n d_Ref_play_112 rfl ?_
                refine xa_iconst (v := nI 2) d_Ref_play_113 rfl ?_
                refine xa_icmp_neN (tgt := 124) d_Ref_play_114 (by decide) (by omega) (by omega) (fun hs2 => ?_) (fun hs2 => ?_)
                · omega
                ·
                  refine xa_aload_n d_Ref_play_117 rfl ?_
                  refine xa_getf f_Ref_93 d_Ref_play_118 (by assumption) (by rfl) ?_
                  refine xa_int (y := nI (if ls' = 2 then k' else 0)) w2 ?_
                  refine xa_goto (tgt := 128) d_Ref_play_121 (by decide) ?_
                  refine xa_iastE d_Ref_play_128 hA3.2.2.2.2.2.1 rfl (show m < 1000 by omega) (by omega) ?_
                  exact xa_sl tail ⟨rfl, rfl, trivial⟩
              · omega
        · omega
      · omega
  · omega
theorem c_Ref_playX {x : Int32} (hS : xR_S D h r n fs b m bd pt tb tw cd) (hx : x < 0 ∨ nI (n * n) ≤ x) :
    xa_M l D H0 M_Ref_play 5 119 0 0 [.ref r, .int x] h sz (fun v h' sz' => v = some (.int (nI 0)) ∧ xR_S D h' r n fs b m bd pt tb tw 1 ∧ xR_F h h' r ∧ sz' = sz) := by
  obtain ⟨v, h0, e0, e3, e4, hc⟩ := hS.code
  refine xa_enter (by decide) rfl rfl ?_
  refine xa_aload_n d_Ref_play_0 rfl ?_
  refine xa_iload_n d_Ref_play_1 rfl ?_
  refine xa_callV (As := [.int x]) (st := []) d_Ref_play_2 k_Ref_118 h0 (c_Ref_noPointX hS hx) rfl rfl (Nat.le_of_ble_eq_true rfl) ⟨by decide, by decide⟩ (by decide) (by decide) (fun v' h' sz' hq => ?_)
  obtain ⟨e1, hS', hF, e2⟩ := hq
  rw [e1, e2]
  refine xa_if_eqN (tgt := 10) d_Ref_play_5 (by decide) (by omega) (fun hz => ?_) (fun hz => ?_)
  · omega
  ·
    refine xa_iconst (v := nI 0) d_Ref_play_8 rfl ?_
    exact xa_ireturn d_Ref_play_9 rfl (by decide) (by decide) ⟨rfl, hS', hF, rfl⟩
theorem c_Ref_playY {p : Nat} (hS : xR_S D h r n fs b m bd pt tb tw cd) (hZ : xZ_I n fs b m bd pt tb tw) (hm : m < 1000) (hp : p < n * n) (hok : ¬ gx_ok n fs b m bd pt p) :
    xa_M l D H0 M_Ref_play 5 119 0 0 [.ref r, .int (nI p)] h sz (fun v h' sz' => v = some (.int (nI 0)) ∧ xR_S D h' r n fs b m bd pt tb tw 2 ∧ xR_F h h' r ∧ sz' = sz) := by
  have hn := hZ.1.1
  obtain ⟨v0, h0, -⟩ := hS.code
  refine xa_enter (by decide) rfl rfl ?_
  refine xa_aload_n d_Ref_play_0 rfl ?_
  refine xa_iload_n d_Ref_play_1 rfl ?_
  refine xa_callV (As := [.int (nI p)]) (st := []) d_Ref_play_2 k_Ref_118 h0 (c_Ref_noPoint hS hn hp) rfl rfl (Nat.le_of_ble_eq_true rfl) ⟨by decide, by decide⟩ (by decide) (by decide) (fun v' h1 sz' hq => ?_)
  obtain ⟨e1, hS1, hF1, e2⟩ := hq
  rw [e1, e2]
  obtain ⟨v1, g0, -, f3, -⟩ := hS1.code
  refine xa_if_eqN (tgt := 10) d_Ref_play_5 (by decide) (by omega) (fun hz => ?_) (fun hz => ?_)
  ·
    refine xa_aload_n d_Ref_play_10 rfl ?_
    refine xa_aload_n d_Ref_play_11 rfl ?_
    refine xa_getf f_Ref_96 d_Ref_play_12 (by assumption) (by rfl) ?_
    refine xa_int (y := nI m) (by rw [f3]) ?_
    refine xa_sipush (v := nI 1000) d_Ref_play_15 (by decide) ?_
    refine xa_icmp_eqN (tgt := 29) d_Ref_play_18 (by decide) (by omega) (by omega) (fun hz1 => ?_) (fun hz1 => ?_)
    · omega
    ·
      refine xa_aload_n d_Ref_play_21 rfl ?_
      refine xa_iload_n d_Ref_play_22 rfl ?_
      refine xa_callV (As := [.int (nI p)]) (st := [.ref r]) d_Ref_play_23 k_Ref_129 g0 (c_Ref_whyNot hS1 hZ hp) rfl rfl (Nat.le_of_ble_eq_true rfl) ⟨by decide, by decide⟩ (by decide) (by decide) (fun v' h2 sz' hq => ?_)
      obtain ⟨⟨j, e1, hw⟩, hS2, hF2, e2⟩ := hq
      rw [e1, e2]
      obtain ⟨hj, hj3⟩ := gr_why_no hok hw
      show xa_X l D H0 M_Ref_play _ _ _ _ h2 sz 26 _ [.int (nI j), .ref r]
      refine xa_if_leN (tgt := 33) d_Ref_play_26 (by decide) (by omega) (fun hz2 => ?_) (fun hz2 => ?_)
      · omega
      ·
        refine xa_iconst (v := nI 2) d_Ref_play_29 rfl ?_
        refine xa_goto (tgt := 34) d_Ref_play_30 (by decide) ?_
        obtain ⟨v, g2, -, -, -, hc⟩ := hS2.code
        refine xa_putf f_Ref_65 d_Ref_play_34 g2 (Nat.le_of_ble_eq_true rfl) rfl rfl ?_
        refine xa_heap (h' := xa_u h2 r (xR_o r n (xh_up v 0 2))) rfl ?_
        have q0 : xa_u h2 r (xR_o r n (xh_up v 0 2)) r = some (xR_o r n (xh_up v 0 2)) := xa_u_eq _ _ _
        refine xa_aload_n d_Ref_play_37 rfl ?_
        refine xa_getf f_Ref_65 d_Ref_play_38 (by assumption) (by rfl) ?_
        refine xa_int (y := nI 2) rfl ?_
        refine xa_if_leN (tgt := 46) d_Ref_play_41 (by decide) (by omega) (fun hz3 => ?_) (fun hz3 => ?_)
        · omega
        ·
          refine xa_iconst (v := nI 0) d_Ref_play_44 rfl ?_
          exact xa_ireturn d_Ref_play_45 rfl (by decide) (by decide) ⟨rfl, hc 2, fun q hq => xa_u_ne (gr_F_tr hF1 hF2 q hq) (by omega), rfl⟩
  · omega
theorem c_Ref_pass (hS : xR_S D h r n fs b m bd pt tb tw cd) (hZ : xZ_I n fs b m bd pt tb tw) (hm : m < 1000) (hend : ¬ gx_end pt m) :
    xa_M l D H0 M_Ref_pass 1 22 0 0 [.ref r] h sz (fun v h' sz' => ((v = some (.int 1) ∧ gx_end (xh_up pt (m + 1) (-1)) (m + 1)) ∨ (v = some (.int 0) ∧ ¬ gx_end (xh_up pt (m + 1) (-1)) (m + 1))) ∧ xR_S D h' r n fs b (m + 1) (xh_up bd (m + 1) (bd m)) (xh_up pt (m + 1) (-1)) (xh_up tb (m + 1) (tb m)) (xh_up tw (m + 1) (tw m)) 0 ∧ xR_F h h' r ∧ sz' = sz) := by
  have hn := hZ.1.1
  have hN : n * n ≤ 169 := Nat.mul_le_mul hn.2 hn.2
  obtain ⟨v, B, SD, MV, TB, TW, hA, ⟨f0, f3, f4⟩, hI⟩ := id hS
  have g0 := hA.1
  refine xa_enter (by decide) rfl rfl ?_
  refine xa_aload_n d_Ref_pass_0 rfl ?_
  refine xa_aload_n d_Ref_pass_1 rfl ?_
  refine xa_callV (As := []) (st := [.ref r]) d_Ref_pass_2 k_Ref_103 g0 (c_Ref_isEnded hS hn hZ.1.2.2 hZ.2.2.2.2.1) rfl rfl (Nat.le_of_ble_eq_true rfl) ⟨by decide, by decide⟩ (by decide) (by decide) (fun v' h' sz' hq => ?_)
  obtain ⟨hv, e2, e3⟩ := hq
  rw [e2, e3]
  obtain ⟨hv, -⟩ := hv.resolve_left (fun z => hend z.2)
  rw [hv]
  show xa_X l D H0 M_Ref_pass _ _ _ _ h sz 5 _ [.int (nI 0), .ref r]
  refine xa_if_neN (tgt := 18) d_Ref_pass_5 (by decide) (by omega) (fun hz => ?_) (fun hz => ?_)
  · omega
  ·
    refine xa_aload_n d_Ref_pass_8 rfl ?_
    refine xa_getf f_Ref_96 d_Ref_pass_9 (by assumption) (by rfl) ?_
    refine xa_int (y := nI m) (by rw [f3]) ?_
    refine xa_sipush (v := nI 1000) d_Ref_pass_12 (by decide) ?_
    refine xa_icmp_neN (tgt := 22) d_Ref_pass_15 (by decide) (by omega) (by omega) (fun hz1 => ?_) (fun hz1 => ?_)
    ·
      refine xa_iconst (v := nI 0) d_Ref_pass_22 rfl ?_
      have hA1 := hA.o (xh_up v 0 0)
      refine xa_putf f_Ref_65 d_Ref_pass_23 hA.1 (Nat.le_of_ble_eq_true rfl) rfl rfl ?_
      refine xa_heap (h' := xa_u h r (xR_o r n (xh_up v 0 0))) rfl ?_
      have q0 := hA1.1
      have hFa : ∀ q, q < r ∨ r + 15 ≤ q → xa_u h r (xR_o r n (xh_up v 0 0)) q = h q := fun q hq => xa_u_ne rfl (by omega)
      have w3 : (xh_up v 0 0) 3 = m := f3
      have w0 : (xh_up v 0 0) 0 = 0 := rfl
      have w4 : (xh_up v 0 0) 4 = fs := f4
      refine xa_aload_n d_Ref_pass_26 rfl ?_
      refine xa_getf f_Ref_65 d_Ref_pass_27 (by assumption) (by rfl) ?_
      refine xa_int (y := nI 0) rfl ?_
      generalize xh_up v 0 0 = w at *
      generalize hHe : xa_u h r (xR_o r n w) = h1 at *
      clear hHe
      refine xa_if_leN (tgt := 35) d_Ref_pass_30 (by decide) (by omega) (fun hz3 => ?_) (fun hz3 => ?_)
      ·
        refine xa_aload_n d_Ref_pass_35 rfl ?_
        refine xa_getf f_Ref_21 d_Ref_pass_36 (by assumption) (by rfl) ?_
        refine xa_aload_n d_Ref_pass_39 rfl ?_
        refine xa_getf f_Ref_96 d_Ref_pass_40 (by assumption) (by rfl) ?_
        refine xa_int (y := nI m) (by rw [w3]) ?_
        refine xa_iconst (v := -1) d_Ref_pass_43 rfl ?_
        refine xa_iastE d_Ref_pass_44 hA1.2.2.2.1 rfl (show m < 1000 by omega) (by omega) ?_
        have hA2 := hA1.uM (upd MV m (-1))
        have q2 := hA2.1
        refine xa_aload_n d_Ref_pass_45 rfl ?_
        refine xa_getf f_Ref_24 d_Ref_pass_46 (by assumption) (by rfl) ?_
        refine xa_aload_n d_Ref_pass_49 rfl ?_
        refine xa_getf f_Ref_96 d_Ref_pass_50 (by assumption) (by rfl) ?_
        refine xa_int (y := nI m) (by rw [w3]) ?_
        refine xa_iconst (v := nI 0) d_Ref_pass_53 rfl ?_
        refine xa_iastE d_Ref_pass_54 hA2.2.2.2.2.1 rfl (show m < 1000 by omega) (by omega) ?_
        have hA3 := hA2.uK (upd TB m (nI 0))
        have q3 := hA3.1
        refine xa_aload_n d_Ref_pass_55 rfl ?_
        refine xa_getf f_Ref_27 d_Ref_pass_56 (by assumption) (by rfl) ?_
        refine xa_aload_n d_Ref_pass_59 rfl ?_
        refine xa_getf f_Ref_96 d_Ref_pass_60 (by assumption) (by rfl) ?_
        refine xa_int (y := nI m) (by rw [w3]) ?_
        refine xa_iconst (v := nI 0) d_Ref_pass_63 rfl ?_
        refine xa_iastE d_Ref_pass_64 hA3.2.2.2.2.2.1 rfl (show m < 1000 by omega) (by omega) ?_
        have hA4 := hA3.uW (upd TW m (nI 0))
        have hFb : ∀ q, q < r ∨ r + 15 ≤ q → xa_u (xa_u (xa_u h1 (r + 4) (.inl (D.1 100, 1000, .inl (upd MV m (-1))))) (r + 5) (.inl (D.1 100, 1000, .inl (upd TB m (nI 0))))) (r + 6) (.inl (D.1 100, 1000, .inl (upd TW m (nI 0)))) q = h q := fun q hq => xa_u_ne (xa_u_ne (xa_u_ne (hFa q hq) (by omega)) (by omega)) (by omega)
        generalize xa_u (xa_u (xa_u h1 (r + 4) (.inl (D.1 100, 1000, .inl (upd MV m (-1))))) (r + 5) (.inl (D.1 100, 1000, .inl (upd TB m (nI 0))))) (r + 6) (.inl (D.1 100, 1000, .inl (upd TW m (nI 0)))) = h5 at *
        have q4 := hA4.1
        refine xa_aload_n d_Ref_pass_65 rfl ?_
        refine xa_dup d_Ref_pass_66 rfl ?_
        refine xa_getf f_Ref_96 d_Ref_pass_67 (by assumption) (by rfl) ?_
        refine xa_int (y := nI m) (by rw [w3]) ?_
        refine xa_iconst (v := nI 1) d_Ref_pass_70 rfl ?_
        refine xa_iaddN d_Ref_pass_71 ?_
        refine xa_putf f_Ref_96 d_Ref_pass_72 q4 (Nat.le_of_ble_eq_true rfl) rfl rfl ?_
        refine xa_heap (h' := xa_u h5 r (xR_o r n (xh_up w 3 (m + 1)))) rfl ?_
        have hA6 := hA4.o (xh_up w 3 (m + 1))
        have q7 := hA6.1
        refine xa_aload_n d_Ref_pass_75 rfl ?_
        refine xa_aload_n d_Ref_pass_76 rfl ?_
        refine xa_getf f_Ref_96 d_Ref_pass_77 (by assumption) (by rfl) ?_
        refine xa_int (y := nI (m + 1)) rfl ?_
        refine xa_callV (As := [.int (nI (m + 1))]) (st := []) d_Ref_pass_80 k_Ref_125 q7 (c_Ref_keep (k := m + 1) q7 hA6.2.1 hA6.2.2.1 hn (by omega) hI.1 hZ.b2) rfl rfl (Nat.le_of_ble_eq_true rfl) ⟨by decide, by decide⟩ (by decide) (by decide) (fun v' h' sz' hq => ?_)
        obtain ⟨SD', s1, s2, e1, e2, e3⟩ := hq
        rw [e1, e2, e3]
        have hA7 := hA6.uS SD'
        have q8 := hA7.1
        have hS8 : xR_S D (xa_u (xa_u h5 r (xR_o r n (xh_up w 3 (m + 1)))) (r + 3) (.inl (D.1 104, 169169, .inl SD'))) r n fs b (m + 1) (xh_up bd (m + 1) (bd m)) (xh_up pt (m + 1) (-1)) (xh_up tb (m + 1) (tb m)) (xh_up tw (m + 1) (tw m)) 0 := ⟨xh_up w 3 (m + 1), B, SD', _, _, _, hA7, ⟨w0, rfl, w4⟩, hI.add (k1 := 0) (k2 := 0) hN hI.1 (fun q hq => by rw [s1 q hq, hZ.2.1 q hq]) s2⟩
        have hP' : xh_up pt (m + 1) (-1) 0 = -2 ∧ ∀ i, 1 ≤ i → i ≤ m + 1 → xh_up pt (m + 1) (-1) i = -1 ∨ ∃ p, p < n * n ∧ xh_up pt (m + 1) (-1) i = nI p := by
          refine ⟨by rw [xh_up_ne _ _ (by omega)]; exact hZ.2.2.2.2.1.1, fun i h1 h2 => ?_⟩
          by_cases he : i = m + 1
          · rw [he, xh_up_eq]; exact Or.inl rfl
          · rw [xh_up_ne _ _ he]; exact hZ.2.2.2.2.1.2 i h1 (by omega)
        refine xa_aload_n d_Ref_pass_83 rfl ?_
        refine xa_callV (As := []) (st := []) d_Ref_pass_84 k_Ref_103 q8 (c_Ref_isEnded hS8 hn (by omega) hP') rfl rfl (Nat.le_of_ble_eq_true rfl) ⟨by decide, by decide⟩ (by decide) (by decide) (fun v' h' sz' hq => ?_)
        obtain ⟨hv, e2, e3⟩ := hq
        rw [e2, e3]
        have hFc : ∀ q, q < r ∨ r + 15 ≤ q → xa_u (xa_u h5 r (xR_o r n (xh_up w 3 (m + 1)))) (r + 3) (.inl (D.1 104, 169169, .inl SD')) q = h q := fun q hq => xa_u_ne (xa_u_ne (hFb q hq) (by omega)) (by omega)
        rcases hv with ⟨hv, he⟩ | ⟨hv, he⟩
        · rw [hv]
          exact xa_zreturn (v := 1) d_Ref_pass_87 rfl (by decide) (by decide) (by decide) ⟨Or.inl ⟨rfl, he⟩, hS8, hFc, rfl⟩
        · rw [hv]
          exact xa_zreturn (v := 0) d_Ref_pass_87 rfl (by decide) (by decide) (by decide) ⟨Or.inr ⟨rfl, he⟩, hS8, hFc, rfl⟩
      · omega
    · omega
theorem c_Ref_passX (hS : xR_S D h r n fs b m bd pt tb tw cd) (hZ : xZ_I n fs b m bd pt tb tw) (hend : gx_end pt m) :
    xa_M l D H0 M_Ref_pass 1 22 0 0 [.ref r] h sz (fun v h' sz' => v = some (.int (nI 0)) ∧ xR_S D h' r n fs b m bd pt tb tw 1 ∧ xR_F h h' r ∧ sz' = sz) := by
  obtain ⟨v, g0, -, -, -, hc⟩ := hS.code
  refine xa_enter (by decide) rfl rfl ?_
  refine xa_aload_n d_Ref_pass_0 rfl ?_
  refine xa_aload_n d_Ref_pass_1 rfl ?_
  refine xa_callV (As := []) (st := [.ref r]) d_Ref_pass_2 k_Ref_103 g0 (c_Ref_isEnded hS hZ.1.1 hZ.1.2.2 hZ.2.2.2.2.1) rfl rfl (Nat.le_of_ble_eq_true rfl) ⟨by decide, by decide⟩ (by decide) (by decide) (fun v' h' sz' hq => ?_)
  obtain ⟨hv, e2, e3⟩ := hq
  rw [e2, e3]
  obtain ⟨hv, -⟩ := hv.resolve_right (fun z => z.2 hend)
  rw [hv]
  show xa_X l D H0 M_Ref_pass _ _ _ _ h sz 5 _ [.int (nI 1), .ref r]
  refine xa_if_neN (tgt := 18) d_Ref_pass_5 (by decide) (by omega) (fun hz => ?_) (fun hz => ?_)
  ·
    refine xa_iconst (v := nI 1) d_Ref_pass_18 rfl ?_
    refine xa_goto (tgt := 23) d_Ref_pass_19 (by decide) ?_
    refine xa_putf f_Ref_65 d_Ref_pass_23 g0 (Nat.le_of_ble_eq_true rfl) rfl rfl ?_
    refine xa_heap (h' := xa_u h r (xR_o r n (xh_up v 0 1))) rfl ?_
    have q0 : xa_u h r (xR_o r n (xh_up v 0 1)) r = some (xR_o r n (xh_up v 0 1)) := xa_u_eq _ _ _
    refine xa_aload_n d_Ref_pass_26 rfl ?_
    refine xa_getf f_Ref_65 d_Ref_pass_27 (by assumption) (by rfl) ?_
    refine xa_int (y := nI 1) rfl ?_
    refine xa_if_leN (tgt := 35) d_Ref_pass_30 (by decide) (by omega) (fun hz3 => ?_) (fun hz3 => ?_)
    · omega
    ·
      refine xa_iconst (v := nI 0) d_Ref_pass_33 rfl ?_
      exact xa_zreturn (v := nI 0) d_Ref_pass_34 rfl (by decide) (by decide) (by decide) ⟨rfl, hc 1, fun q hq => xa_u_ne rfl (by omega), rfl⟩
  · omega
theorem w_Ref_back {Z : xa_Z} {v u : Nat → Nat} {SD : Nat → Int32} (h0 : h r = some (xR_o r n v)) (h3 : h (r + 3) = some (.inl (D.1 104, 169169, .inl SD))) (hn : 2 ≤ n ∧ n ≤ 13) (hv : v 3 = m) (hm : m < 1000) (hu : ∀ q, q < n * n → SD (169 * m + q) = nI (u q))
    (kont : ∀ B', (∀ q, q < n * n → B' q = nI (u q)) → xa_X l D H0 M_Ref_back R Z 0 0 (xa_u h (r + 1) (.inl (D.1 100, 169, .inl B'))) sz 72 [(0, .ref r)] []) (k : Nat) (hk : k ≤ n * n) (B' : Nat → Int32) (hB' : ∀ q, q < k → B' q = nI (u q)) :
    xa_X l D H0 M_Ref_back R Z 0 0 (xa_u h (r + 1) (.inl (D.1 100, 169, .inl B'))) sz 37 [(0, .ref r), (1, .int (nI k))] [] := by
  have hN : n * n ≤ 169 := Nat.mul_le_mul hn.2 hn.2
  have q0 : xa_u h (r + 1) (.inl (D.1 100, 169, .inl B')) r = some (xR_o r n v) := xa_u_ne h0 (by omega)
  have q3 : xa_u h (r + 1) (.inl (D.1 100, 169, .inl B')) (r + 3) = some (.inl (D.1 104, 169169, .inl SD)) := xa_u_ne h3 (by omega)
  refine xa_iload_n d_Ref_back_37 rfl ?_
  refine xa_aload_n d_Ref_back_38 rfl ?_
  refine xa_getf f_Ref_62 d_Ref_back_39 (by assumption) (by rfl) ?_
  refine xa_icmp_geN (tgt := 72) d_Ref_back_42 (by decide) (by omega) (by omega) (fun hb => ?_) (fun hb => ?_)
  · have hke : k = n * n := by omega
    subst hke
    exact xa_sl (kont B' hB') ⟨rfl, trivial⟩
  ·
    refine xa_aload_n d_Ref_back_45 rfl ?_
    refine xa_getf f_Ref_7 d_Ref_back_46 (by assumption) (by rfl) ?_
    refine xa_iload_n d_Ref_back_49 rfl ?_
    refine xa_aload_n d_Ref_back_50 rfl ?_
    refine xa_getf f_Ref_17 d_Ref_back_51 (by assumption) (by rfl) ?_
    refine xa_sipush (v := nI 169) d_Ref_back_54 (by decide) ?_
    refine xa_aload_n d_Ref_back_57 rfl ?_
    refine xa_getf f_Ref_96 d_Ref_back_58 (by assumption) (by rfl) ?_
    refine xa_int (y := nI m) (by rw [hv]) ?_
    refine xa_imulN d_Ref_back_61 ?_
    refine xa_iload_n d_Ref_back_62 rfl ?_
    refine xa_iaddN d_Ref_back_63 ?_
    refine xa_baldE d_Ref_back_64 q3 rfl (show 169 * m + k < 169169 by omega) (by omega) (hu k hb) ?_
    refine xa_iastE d_Ref_back_65 (xa_u_eq _ _ _) rfl (show k < 169 by omega) (by omega) ?_
    rw [xa_uu]
    refine xa_iincN d_Ref_back_66 rfl rfl rfl ?_
    refine xa_goto (tgt := 37) d_Ref_back_69 (by decide) ?_
    refine xa_ls ?_ (w_Ref_back h0 h3 hn hv hm hu kont (k + 1) (by omega) _ (fun q hq => ?_))
    · exact ⟨rfl, rfl, trivial⟩
    · by_cases he : q = k
      · rw [he]; exact if_pos rfl
      · have hu : upd B' k (nI (u k)) q = B' q := if_neg he
        rw [hu]
        exact hB' q (by omega)
termination_by n * n - k
decreasing_by omega
theorem c_Ref_back (hS : xR_S D h r n fs b (m + 1) bd pt tb tw cd) (hn : 2 ≤ n ∧ n ≤ 13) (hm : m < 1000) :
    xa_M l D H0 M_Ref_back 0 0 0 0 [.ref r] h sz (fun v h' sz' => v = some (.int (nI m)) ∧ xR_S D h' r n fs (bd m) m bd pt tb tw 0 ∧ xR_F h h' r ∧ sz' = sz) := by
  obtain ⟨v, B, SD, MV, TB, TW, hA, ⟨f0, f3, f4⟩, hI⟩ := hS
  have g0 := hA.1
  refine xa_enter (by decide) rfl rfl ?_
  refine xa_aload_n d_Ref_back_0 rfl ?_
  refine xa_aload_n d_Ref_back_1 rfl ?_
  refine xa_getf f_Ref_96 d_Ref_back_2 (by assumption) (by rfl) ?_
  refine xa_int (y := nI (m + 1)) (by rw [f3]) ?_
  refine xa_if_neN (tgt := 12) d_Ref_back_5 (by decide) (by omega) (fun hz => ?_) (fun hz => ?_)
  ·
    refine xa_iconst (v := nI 0) d_Ref_back_12 rfl ?_
    have hA1 := hA.o (xh_up v 0 0)
    refine xa_putf f_Ref_65 d_Ref_back_13 g0 (Nat.le_of_ble_eq_true rfl) rfl rfl ?_
    refine xa_heap (h' := xa_u h r (xR_o r n (xh_up v 0 0))) rfl ?_
    have q0 : xa_u h r (xR_o r n (xh_up v 0 0)) r = some (xR_o r n (xh_up v 0 0)) := xa_u_eq _ _ _
    refine xa_aload_n d_Ref_back_16 rfl ?_
    refine xa_getf f_Ref_65 d_Ref_back_17 (by assumption) (by rfl) ?_
    refine xa_int (y := nI 0) rfl ?_
    refine xa_if_leN (tgt := 25) d_Ref_back_20 (by decide) (by omega) (fun hz1 => ?_) (fun hz1 => ?_)
    ·
      refine xa_aload_n d_Ref_back_25 rfl ?_
      refine xa_dup d_Ref_back_26 rfl ?_
      refine xa_getf f_Ref_96 d_Ref_back_27 (by assumption) (by rfl) ?_
      refine xa_int (y := nI (m + 1)) (by rw [← f3]; rfl) ?_
      refine xa_iconst (v := nI 1) d_Ref_back_30 rfl ?_
      refine xa_isubN d_Ref_back_31 (by omega) ?_
      refine xa_int (y := nI m) (by rw [show m + 1 - 1 = m by omega]) ?_
      refine xa_putf f_Ref_96 d_Ref_back_32 q0 (Nat.le_of_ble_eq_true rfl) rfl rfl ?_
      refine xa_heap (h' := xa_u h r (xR_o r n (xh_up (xh_up v 0 0) 3 m))) (xa_uu _ _ _ _) ?_
      have hA2 := hA.o (xh_up (xh_up v 0 0) 3 m)
      refine xa_iconst (v := nI 0) d_Ref_back_35 rfl ?_
      refine xa_istore_n d_Ref_back_36 rfl rfl ?_
      refine xa_heap (xa_us _ hA2.2.1).symm ?_
      refine xa_ls ?_ (w_Ref_back (m := m) (u := bd m) hA2.1 hA2.2.2.1 hn rfl hm (fun q hq => hI.2.1 m (by omega) q hq) (fun B' hB' => ?_) 0 (by omega) B (fun q hq => absurd hq (Nat.not_lt_zero _)))
      · exact ⟨rfl, rfl, trivial⟩
      · have hA3 := hA2.uB B'
        have q3 := hA3.1
        refine xa_aload_n d_Ref_back_72 rfl ?_
        refine xa_getf f_Ref_96 d_Ref_back_73 (by assumption) (by rfl) ?_
        refine xa_int (y := nI m) rfl ?_
        obtain ⟨i1, i2, i3, i4, i5⟩ := hI
        exact xa_ireturn d_Ref_back_76 rfl (by decide) (by decide) ⟨rfl, ⟨_, B', SD, MV, TB, TW, hA3, ⟨rfl, rfl, f4⟩, ⟨hB', fun i hi => i2 i (by omega), fun i hi => i3 i (by omega), fun i hi => i4 i (by omega), fun i hi => i5 i (by omega)⟩⟩, fun q hq => xa_u_ne (xa_u_ne rfl (by omega)) (by omega), rfl⟩
    · omega
  · omega
theorem c_Ref_backX (hS : xR_S D h r n fs b 0 bd pt tb tw cd) :
    xa_M l D H0 M_Ref_back 0 0 0 0 [.ref r] h sz (fun v h' sz' => v = some (.int (nI 0)) ∧ xR_S D h' r n fs b 0 bd pt tb tw 1 ∧ xR_F h h' r ∧ sz' = sz) := by
  obtain ⟨v, g0, -, f3, -, hc⟩ := hS.code
  refine xa_enter (by decide) rfl rfl ?_
  refine xa_aload_n d_Ref_back_0 rfl ?_
  refine xa_aload_n d_Ref_back_1 rfl ?_
  refine xa_getf f_Ref_96 d_Ref_back_2 (by assumption) (by rfl) ?_
  refine xa_int (y := nI 0) (by rw [f3]) ?_
  refine xa_if_neN (tgt := 12) d_Ref_back_5 (by decide) (by omega) (fun hz => ?_) (fun hz => ?_)
  · omega
  ·
    refine xa_iconst (v := nI 1) d_Ref_back_8 rfl ?_
    refine xa_goto (tgt := 13) d_Ref_back_9 (by decide) ?_
    refine xa_putf f_Ref_65 d_Ref_back_13 g0 (Nat.le_of_ble_eq_true rfl) rfl rfl ?_
    refine xa_heap (h' := xa_u h r (xR_o r n (xh_up v 0 1))) rfl ?_
    have q0 : xa_u h r (xR_o r n (xh_up v 0 1)) r = some (xR_o r n (xh_up v 0 1)) := xa_u_eq _ _ _
    refine xa_aload_n d_Ref_back_16 rfl ?_
    refine xa_getf f_Ref_65 d_Ref_back_17 (by assumption) (by rfl) ?_
    refine xa_int (y := nI 1) rfl ?_
    refine xa_if_leN (tgt := 25) d_Ref_back_20 (by decide) (by omega) (fun hz1 => ?_) (fun hz1 => ?_)
    · omega
    ·
      refine xa_iconst (v := nI 0) d_Ref_back_23 rfl ?_
      exact xa_ireturn d_Ref_back_24 rfl (by decide) (by decide) ⟨rfl, hc 1, fun q hq => xa_u_ne rfl (by omega), rfl⟩
end RP
