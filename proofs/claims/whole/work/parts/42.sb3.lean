/-! StoneBoard: put, first, play, pass, back. -/
/-- the class's state, the chart not yet drawn -/
def xS_P (D : va_G) (h : xa_H) (o T n fs : Nat) (b : Nat → Nat) (m : Nat) (bd : Nat → Nat → Nat) (pt : Nat → Int32) (tb tw : Nat → Nat) : Prop :=
  h o = some (.inr (0, [.int (nI n), .ref (o + 1), .ref (o + 3), .ref (o + 4), .ref (o + 13), .ref (o + 15), .ref (o + 19), .int (nI fs)])) ∧ xC_sh D h n (o + 4) (o + 1) (o + 3) b ∧ xT_S D h (o + 13) (o + 1) (o + 3) (o + 4) (n * n) ∧ xh_S D h (o + 15) T (n * n) m bd pt tb tw ∧ xL_S D h (o + 19) (o + 1) (o + 3) (n * n)
theorem xS_S.P {D : va_G} {h : xa_H} {o T n fs : Nat} {b : Nat → Nat} {m : Nat} {bd : Nat → Nat → Nat} {pt : Nat → Int32} {tb tw : Nat → Nat} (hS : xS_S D h o T n fs b m bd pt tb tw) : xS_P D h o T n fs b m bd pt tb tw := ⟨hS.1, hS.2.1.sh, hS.2.2⟩
theorem xT_S.frame {D : va_G} {h h' : xa_H} {tr g aK ch N : Nat} (hS : xT_S D h tr g aK ch N) (h0 : h' tr = h tr) (h1 : h' (tr + 1) = h (tr + 1)) : xT_S D h' tr g aK ch N := by
  obtain ⟨V, k, ls, t1, t2⟩ := hS
  exact ⟨V, k, ls, by rw [h0]; exact t1, by rw [h1]; exact t2⟩
theorem xT_V.S {D : va_G} {h : xa_H} {tr g aK ch N : Nat} {t : Nat → Nat} {k ls : Nat} (hS : xT_V D h tr g aK ch N t k ls) : xT_S D h tr g aK ch N := by
  obtain ⟨V, t0, t1, t2⟩ := hS
  exact ⟨V, k, ls, t1, t2⟩
theorem xS_P.put {D : va_G} {h : xa_H} {o T n fs : Nat} {b b' : Nat → Nat} {m : Nat} {bd : Nat → Nat → Nat} {pt : Nat → Int32} {tb tw : Nat → Nat} (hS : xS_P D h o T n fs b m bd pt tb tw) (hT : o + 28 ≤ T) (hb' : ∀ q, q < n * n → b' q ≤ 2) : xS_P D (xa_u h (o + 3) (.inl (D.1 100, n * n, .inl (fun q => nI (b' q))))) o T n fs b' m bd pt tb tw := by
  obtain ⟨s1, s2, s3, s4, s5⟩ := hS
  refine ⟨xa_u_ne s1 (by omega), s2.put (by omega) hb', s3.frame (xa_u_ne rfl (by omega)) (xa_u_ne rfl (by omega)), xh_S_frame s4 (fun a e ha hk => xa_u_ne ha (by unfold xh_K at hk; omega)), s5.frame (fun q h1 h2 => xa_u_ne rfl (by omega))⟩
theorem xS_P.draw {D : va_G} {h h' : xa_H} {o T n fs : Nat} {b : Nat → Nat} {m : Nat} {bd : Nat → Nat → Nat} {pt : Nat → Int32} {tb tw : Nat → Nat} (hS : xS_P D h o T n fs b m bd pt tb tw) (hT : o + 28 ≤ T) (hC : xC_S D h' n (o + 4) (o + 1) (o + 3) b) (hf : ∀ q, q ≤ o + 4 ∨ o + 4 + 9 ≤ q → h' q = h q) : xS_S D h' o T n fs b m bd pt tb tw := by
  obtain ⟨s1, s2, s3, s4, s5⟩ := hS
  refine ⟨by rw [hf _ (by omega)]; exact s1, hC, s3.frame (hf _ (by omega)) (hf _ (by omega)), xh_S_frame s4 (fun a e ha hk => ?_), s5.frame (fun q h1 h2 => hf _ (by omega))⟩
  rw [hf a (by unfold xh_K at hk; omega)]
  exact ha
theorem xS_S.hist {D : va_G} {h h' : xa_H} {o T n fs sz : Nat} {b : Nat → Nat} {m m' : Nat} {bd bd' : Nat → Nat → Nat} {pt pt' : Nat → Int32} {tb tw tb' tw' : Nat → Nat} (hS : xS_S D h o T n fs b m bd pt tb tw) (hT : o + 28 ≤ sz) (hf : ∀ a, a < sz → a ≠ o + 15 → a ≠ o + 15 + 1 → h' a = h a) (hH : xh_S D h' (o + 15) T (n * n) m' bd' pt' tb' tw') : xS_S D h' o T n fs b m' bd' pt' tb' tw' := by
  obtain ⟨s1, s2, s3, s4, s5⟩ := hS
  exact ⟨by rw [hf _ (by omega) (by omega) (by omega)]; exact s1, s2.frame (fun q hq => hf q (by omega) (by omega) (by omega)), s3.frame (hf _ (by omega) (by omega) (by omega)) (hf _ (by omega) (by omega) (by omega)), hH, s5.frame (fun q h1 h2 => hf q (by omega) (by omega) (by omega))⟩
section SB3
variable {l : Launch} {D : va_G} {H0 : Heap} {h : xa_H} {sz : Nat} {R : Room} {o T n fs : Nat} {b : Nat → Nat} {m : Nat} {bd : Nat → Nat → Nat} {pt : Nat → Int32} {tb tw : Nat → Nat}
theorem c_SB_showLatestBoard (hS : xS_P D h o T n fs b m bd pt tb tw) (hn : n ≤ 13) (hT : o + 28 ≤ T) (hb' : ∀ q, q < n * n → bd m q ≤ 2) :
    xa_M l D H0 M_SB_showLatestBoard 4 93 0 0 [.ref o] h sz (fun v h' sz' => v = none ∧ xS_S D h' o T n fs (bd m) m bd pt tb tw ∧ (∀ q, q < o ∨ o + 13 ≤ q → h' q = h q) ∧ sz' = sz) := by
  have hN : n * n ≤ 169 := Nat.mul_le_mul hn hn
  obtain ⟨s1, ⟨c, f, A, O, S, BR, LB, HO, CB, hr, h5, h6, h7, h8⟩, s3, ⟨q, B, ob, F, V, e1, e2, hP, hB, hV, hK⟩, s5⟩ := id hS
  obtain ⟨p1, p2⟩ := hP m (Nat.le_refl m)
  obtain ⟨r1, r2, r3, r4, r5, r6, r7, r8, hN', hf, hb⟩ := id hr
  have hKm := (hK m (Nat.le_refl m)).2
  refine xa_enter (by decide) rfl rfl ?_
  refine xa_aload_n d_SB_showLatestBoard_0 rfl ?_
  refine xa_getf f_SB_59 d_SB_showLatestBoard_1 (by assumption) (by rfl) ?_
  refine xa_getf f_SB_96 d_SB_showLatestBoard_4 (by assumption) (by rfl) ?_
  refine xa_getf f_SB_204 d_SB_showLatestBoard_7 (by assumption) (by rfl) ?_
  refine xa_aload_n d_SB_showLatestBoard_10 rfl ?_
  refine xa_getf f_SB_34 d_SB_showLatestBoard_11 (by assumption) (by rfl) ?_
  refine xa_callSr (As := [.ref (B m), .ref (o + 3)]) (st := []) d_SB_showLatestBoard_14 k_SB_216 (c_Packed_unpack p2 r8 (by unfold xh_K at hKm; omega) (hV m (Nat.le_refl m)) hN') rfl rfl (Nat.le_of_ble_eq_true rfl) ⟨by decide, by decide⟩ (by decide) (by decide) ?_
  have hS2 := hS.put hT hb'
  have s1' := hS2.1
  have hc : xa_u h (o + 3) (.inl (D.1 100, n * n, .inl (fun q => nI (bd m q)))) (o + 4) = _ := xa_u_ne r1 (by omega)
  refine xa_aload_n d_SB_showLatestBoard_17 rfl ?_
  refine xa_getf f_SB_43 d_SB_showLatestBoard_18 (by assumption) (by rfl) ?_
  refine xa_callV (As := []) (st := []) d_SB_showLatestBoard_21 k_SB_82 hc (c_Chart_draw' hS2.2.1 (by omega)) rfl rfl (Nat.le_of_ble_eq_true rfl) ⟨by decide, by decide⟩ (by decide) (by decide) (fun v h' sz' hq => ?_)
  obtain ⟨e1', e2', e3', e4'⟩ := hq
  rw [e1', e4']
  exact xa_return d_SB_showLatestBoard_24 rfl (by decide) (by decide) ⟨rfl, hS2.draw hT e2' e3', fun q hq => by rw [e3' q (by omega)]; exact xa_u_ne rfl (by omega), rfl⟩
theorem c_SB_first {sd : Nat} (hS : xS_S D h o T n fs b m bd pt tb tw) (hT : o + 28 ≤ T) (hm : m = 0) (hsd : sd = 1 ∨ sd = 2) :
    xa_M l D H0 M_SB_first 7 109 0 0 [.ref o, .int (nI sd)] h sz (fun v h' sz' => v = none ∧ xS_S D h' o T n sd b m bd pt tb tw ∧ (∀ q, q ≠ o → h' q = h q) ∧ sz' = sz) := by
  have s1 := hS.1
  refine xa_enter (by decide) rfl rfl ?_
  refine xa_iload_n d_SB_first_0 rfl ?_
  refine xa_callSr (As := [.int (nI sd)]) (st := []) d_SB_first_1 k_SB_93 (c_SB_checkSide hsd) rfl rfl (Nat.le_of_ble_eq_true rfl) ⟨by decide, by decide⟩ (by decide) (by decide) ?_
  refine xa_aload_n d_SB_first_4 rfl ?_
  refine xa_callVr (As := []) (st := []) d_SB_first_5 k_SB_79 s1 (c_SB_checkNoMoveYet hS hm) rfl rfl (Nat.le_of_ble_eq_true rfl) ⟨by decide, by decide⟩ (by decide) (by decide) ?_
  refine xa_aload_n d_SB_first_8 rfl ?_
  refine xa_iload_n d_SB_first_9 rfl ?_
  refine xa_putf f_SB_70 d_SB_first_10 s1 (Nat.le_of_ble_eq_true rfl) rfl rfl ?_
  have hf : ∀ (E : va_E) (q : Nat), q ≠ o → xa_u h o E q = h q := fun E q hq => xa_u_ne rfl hq
  obtain ⟨s1, s2, s3, s4, s5⟩ := hS
  refine xa_return d_SB_first_13 rfl (by decide) (by decide) ⟨rfl, ⟨xa_u_eq _ _ _, s2.frame (fun q hq => hf _ q (by omega)), s3.frame (hf _ _ (by omega)) (hf _ _ (by omega)), xh_S_frame s4 (fun a e ha hk => ?_), s5.frame (fun q h1 h2 => hf _ q (by omega))⟩, fun q hq => hf _ q hq, rfl⟩
  rw [hf _ a (by unfold xh_K at hk; omega)]
  exact ha
theorem t_SB_first1 {x : Int32} (htr : l.stackTraces = false) (hx : x ≠ nI 1 ∧ x ≠ nI 2) :
    xa_T l D H0 M_SB_first 7 109 1 6 [.ref o, .int x] h sz "java/lang/IllegalArgumentException" (fun h' sz' => h' = h ∧ sz ≤ sz') := by
  refine xa_enterT (by decide) rfl rfl ?_
  refine xa_iload_n d_SB_first_0 rfl ?_
  exact xa_callST (As := [.int x]) (st := []) d_SB_first_1 rfl k_SB_93 (t_SB_checkSide htr hx) rfl rfl (Nat.le_of_ble_eq_true rfl) ⟨by decide, by decide⟩ (by decide) (by decide) (by decide) (by decide) (fun h' sz' hq => hq)
theorem t_SB_first2 {sd : Nat} (htr : l.stackTraces = false) (hS : xS_S D h o T n fs b m bd pt tb tw) (hm : m ≠ 0 ∧ m < 1000) (hsd : sd = 1 ∨ sd = 2) :
    xa_T l D H0 M_SB_first 7 109 1 6 [.ref o, .int (nI sd)] h sz "java/lang/IllegalStateException" (fun h' sz' => h' = h ∧ sz ≤ sz') := by
  have s1 := hS.1
  refine xa_enterT (by decide) rfl rfl ?_
  refine xa_iload_n d_SB_first_0 rfl ?_
  refine xa_callSr (As := [.int (nI sd)]) (st := []) d_SB_first_1 k_SB_93 (c_SB_checkSide hsd) rfl rfl (Nat.le_of_ble_eq_true rfl) ⟨by decide, by decide⟩ (by decide) (by decide) ?_
  refine xa_aload_n d_SB_first_4 rfl ?_
  exact xa_callVT (As := []) (st := []) d_SB_first_5 rfl k_SB_79 s1 (t_SB_checkNoMoveYet htr hS hm) rfl rfl (Nat.le_of_ble_eq_true rfl) ⟨by decide, by decide⟩ (by decide) (by decide) (by decide) (by decide) (fun h' sz' hq => hq)
theorem c_SB_put {p k : Nat} (hS : xS_S D h o T n fs b 0 bd pt tb tw) (hI : xS_I n fs b 0 bd) (hT : o + 28 ≤ T ∧ T ≤ sz) (hp : p < n * n) (hk : k ≤ 2) :
    xa_M l D H0 M_SB_put 7 110 2 13 [.ref o, .int (nI p), .int (nI k)] h sz (fun v h' sz' => ((v = some (.int 1) ∧ gx_br n (fun q => if q = p then k else b q) ∧ xS_S D h' o T n fs (fun q => if q = p then k else b q) 0 (xh_up bd 0 (fun x => if x = p then k else bd 0 x)) (xh_up pt 0 (-2)) (xh_up tb 0 0) (xh_up tw 0 0)) ∨ (v = some (.int 0) ∧ ¬ gx_br n (fun q => if q = p then k else b q) ∧ xS_S D h' o T n fs b 0 bd pt tb tw)) ∧ (∀ q, q < sz → (q < o ∨ o + 28 ≤ q) → h' q = h q) ∧ sz ≤ sz') := by
  have hN : n * n ≤ 169 := Nat.mul_le_mul hI.1.2 hI.1.2
  have s1 := hS.1
  have r8 := xS_stones hS
  have hb := xS_b hS
  have hb' : ∀ q, q < n * n → (fun q => if q = p then k else b q) q ≤ 2 := fun q hq => by
    show (if q = p then k else b q) ≤ 2
    split
    · omega
    · exact hb q hq
  refine xa_enter (by decide) rfl rfl ?_
  refine xa_aload_n d_SB_put_0 rfl ?_
  refine xa_iload_n d_SB_put_1 rfl ?_
  refine xa_callVr (As := [.int (nI p)]) (st := []) d_SB_put_2 k_SB_73 s1 (c_SB_checkPoint hS hI hp) rfl rfl (Nat.le_of_ble_eq_true rfl) ⟨by decide, by decide⟩ (by decide) (by decide) ?_
  refine xa_iload_n d_SB_put_5 rfl ?_
  refine xa_callSr (As := [.int (nI k)]) (st := []) d_SB_put_6 k_SB_76 (c_SB_checkKind hk) rfl rfl (Nat.le_of_ble_eq_true rfl) ⟨by decide, by decide⟩ (by decide) (by decide) ?_
  refine xa_aload_n d_SB_put_9 rfl ?_
  refine xa_callVr (As := []) (st := []) d_SB_put_10 k_SB_79 s1 (c_SB_checkNoMoveYet hS rfl) rfl rfl (Nat.le_of_ble_eq_true rfl) ⟨by decide, by decide⟩ (by decide) (by decide) ?_
  refine xa_aload_n d_SB_put_13 rfl ?_
  refine xa_getf f_SB_34 d_SB_put_14 (by assumption) (by rfl) ?_
  refine xa_iload_n d_SB_put_17 rfl ?_
  refine xa_ialdE d_SB_put_18 r8 rfl hp (by omega) rfl ?_
  refine xa_istore_n d_SB_put_19 rfl rfl ?_
  refine xa_aload_n d_SB_put_20 rfl ?_
  refine xa_getf f_SB_34 d_SB_put_21 (by assumption) (by rfl) ?_
  refine xa_iload_n d_SB_put_24 rfl ?_
  refine xa_iload_n d_SB_put_25 rfl ?_
  refine xa_iastE d_SB_put_26 r8 rfl hp (by omega) ?_
  have hu : upd (fun q => nI (b q)) p (nI k) = fun q => nI ((fun q => if q = p then k else b q) q) := by
    funext q
    show (if q = p then _ else _) = nI (if q = p then k else b q)
    split <;> rfl
  rw [hu]
  have hS2 := hS.P.put hT.1 hb'
  have s12 := hS2.1
  have hc2 : xa_u h (o + 3) (.inl (D.1 100, n * n, .inl (fun q => nI ((fun q => if q = p then k else b q) q)))) (o + 4) = some (.inr (2, [.ref (o + 4 + 1), .ref (o + 1), .ref (o + 3), .ref (o + 4 + 5), .ref (o + 4 + 6), .ref (o + 4 + 7), .ref (o + 4 + 8)])) := by
    obtain ⟨c, f, A, O, S, BR, LB, HO, CB, hr, -⟩ := hS2.2.1
    exact hr.1
  refine xa_aload_n d_SB_put_27 rfl ?_
  refine xa_getf f_SB_43 d_SB_put_28 (by assumption) (by rfl) ?_
  refine xa_callV (As := []) (st := []) d_SB_put_31 k_SB_82 hc2 (c_Chart_draw' hS2.2.1 (by omega)) rfl rfl (Nat.le_of_ble_eq_true rfl) ⟨by decide, by decide⟩ (by decide) (by decide) (fun v h' sz' hq => ?_)
  obtain ⟨e1', e2', e3', e4'⟩ := hq
  rw [e1', e4']
  have hS3 := hS2.draw hT.1 e2' e3'
  have s13 := hS3.1
  have fr3 : ∀ q, q < sz → (q < o ∨ o + 28 ≤ q) → h' q = h q := fun q h1 h2 => by rw [e3' q (by omega)]; exact xa_u_ne rfl (by omega)
  obtain ⟨c, f, A, O, S, BR, LB, HO, CB, ar, o', s, hr, h5, h6, h7, h8, hW, hA⟩ := e2'
  have hq : xq_R D h' n (o + 4) (o + 1) (o + 3) c f A O S BR (fun q => if q = p then k else b q) ar o' s := ⟨hr, h5, hW, fun a ha h0 => ((hA a ha).2 h0).2.1⟩
  have r13 := hr.1
  refine xa_aload_n d_SB_put_34 rfl ?_
  refine xa_getf f_SB_43 d_SB_put_35 (by assumption) (by rfl) ?_
  refine xa_callV (As := []) (st := []) d_SB_put_38 k_SB_85 hr.1 (c_Chart_hasString hq) rfl rfl (Nat.le_of_ble_eq_true rfl) ⟨by decide, by decide⟩ (by decide) (by decide) (fun v4 h4 sz4 hq4 => ?_)
  obtain ⟨hv4, f2, f3⟩ := hq4
  rw [f2, f3]
  rcases hv4 with ⟨hv4, hbr⟩ | ⟨hv4, hbr⟩
  · rw [hv4]
    refine xa_int (y := nI 1) rfl ?_
    refine xa_if_eqN (tgt := 60) d_SB_put_41 (by decide) (by omega) (fun hz => ?_) (fun hz => ?_)
    · omega
    · have r83 := xS_stones hS3
      refine xa_aload_n d_SB_put_44 rfl ?_
      refine xa_getf f_SB_34 d_SB_put_45 (by assumption) (by rfl) ?_
      refine xa_iload_n d_SB_put_48 rfl ?_
      refine xa_iload_n d_SB_put_49 rfl ?_
      refine xa_iastE d_SB_put_50 r83 rfl hp (by omega) ?_
      have hu2 : upd (fun q => nI ((fun q => if q = p then k else b q) q)) p (nI (b p)) = fun q => nI (b q) := by
        funext q
        show (if q = p then _ else nI (if q = p then k else b q)) = nI (b q)
        by_cases hqp : q = p
        · rw [if_pos hqp, hqp]
        · rw [if_neg hqp, if_neg hqp]
      rw [hu2]
      have hS5 := hS3.P.put hT.1 hb
      have s15 := hS5.1
      have hc5 : xa_u h' (o + 3) (.inl (D.1 100, n * n, .inl (fun q => nI (b q)))) (o + 4) = some (.inr (2, [.ref (o + 4 + 1), .ref (o + 1), .ref (o + 3), .ref (o + 4 + 5), .ref (o + 4 + 6), .ref (o + 4 + 7), .ref (o + 4 + 8)])) := by
        obtain ⟨c, f, A, O, S, BR, LB, HO, CB, hr, -⟩ := hS5.2.1
        exact hr.1
      refine xa_aload_n d_SB_put_51 rfl ?_
      refine xa_getf f_SB_43 d_SB_put_52 (by assumption) (by rfl) ?_
      refine xa_callV (As := []) (st := []) d_SB_put_55 k_SB_82 hc5 (c_Chart_draw' hS5.2.1 (by omega)) rfl rfl (Nat.le_of_ble_eq_true rfl) ⟨by decide, by decide⟩ (by decide) (by decide) (fun v6 h6 sz6 hq6 => ?_)
      obtain ⟨x1, x2, x3, x4⟩ := hq6
      rw [x1, x4]
      refine xa_iconst (v := nI 0) d_SB_put_58 rfl ?_
      exact xa_zreturn (v := nI 0) d_SB_put_59 rfl (by decide) (by decide) (by decide) ⟨Or.inr ⟨rfl, hbr, hS5.draw hT.1 x2 x3⟩, fun q h1 h2 => by rw [x3 q (by omega), ← fr3 q h1 h2]; exact xa_u_ne rfl (by omega), Nat.le_refl _⟩
  · rw [hv4]
    refine xa_int (y := nI 0) rfl ?_
    refine xa_if_eqN (tgt := 60) d_SB_put_41 (by decide) (by omega) (fun hz => ?_) (fun hz => ?_)
    · have hi1 : ∃ q F, h' (o + 15) = some (.inr (4, [.ref q, F])) := by
        obtain ⟨q, B, ob, F, V, e1, -⟩ := hS3.2.2.2.1
        exact ⟨_, _, e1⟩
      obtain ⟨qq, FF, hi1⟩ := hi1
      refine xa_aload_n d_SB_put_60 rfl ?_
      refine xa_getf f_SB_59 d_SB_put_61 (by assumption) (by rfl) ?_
      refine xa_iload_n d_SB_put_64 rfl ?_
      refine xa_iload_n d_SB_put_65 rfl ?_
      refine xa_callV (As := [.int (nI p), .int (nI k)]) (st := []) d_SB_put_66 k_SB_89 hi1 (c_History_beginWith hS3.2.2.2.1 hN hT.2 hp hk) rfl rfl (Nat.le_of_ble_eq_true rfl) ⟨by decide, by decide⟩ (by decide) (by decide) (fun v6 h6 sz6 hq6 => ?_)
      obtain ⟨x1, x2, x3, x4⟩ := hq6
      rw [x1, x4]
      refine xa_iconst (v := nI 1) d_SB_put_69 rfl ?_
      exact xa_zreturn (v := nI 1) d_SB_put_70 rfl (by decide) (by decide) (by decide) ⟨Or.inl ⟨rfl, hbr, hS3.hist (by omega) x3 x2⟩, fun q h1 h2 => by rw [x3 q h1 (by omega) (by omega), fr3 q h1 h2], by omega⟩
    · omega
theorem t_SB_put1 {x y : Int32} (htr : l.stackTraces = false) (hS : xS_S D h o T n fs b m bd pt tb tw) (hx : x < 0 ∨ nI (n * n) ≤ x) :
    xa_T l D H0 M_SB_put 7 110 1 6 [.ref o, .int x, .int y] h sz "java/lang/IndexOutOfBoundsException" (fun h' sz' => h' = h ∧ sz ≤ sz') := by
  have s1 := hS.1
  refine xa_enterT (by decide) rfl rfl ?_
  refine xa_aload_n d_SB_put_0 rfl ?_
  refine xa_iload_n d_SB_put_1 rfl ?_
  exact xa_callVT (As := [.int x]) (st := []) d_SB_put_2 rfl k_SB_73 s1 (t_SB_checkPoint htr hS hx) rfl rfl (Nat.le_of_ble_eq_true rfl) ⟨by decide, by decide⟩ (by decide) (by decide) (by decide) (by decide) (fun h' sz' hq => hq)
theorem t_SB_put2 {p : Nat} {y : Int32} (htr : l.stackTraces = false) (hS : xS_S D h o T n fs b m bd pt tb tw) (hI : xS_I n fs b m bd) (hp : p < n * n) (hy : y < 0 ∨ nI 2 < y) :
    xa_T l D H0 M_SB_put 7 110 1 6 [.ref o, .int (nI p), .int y] h sz "java/lang/IllegalArgumentException" (fun h' sz' => h' = h ∧ sz ≤ sz') := by
  have s1 := hS.1
  refine xa_enterT (by decide) rfl rfl ?_
  refine xa_aload_n d_SB_put_0 rfl ?_
  refine xa_iload_n d_SB_put_1 rfl ?_
  refine xa_callVr (As := [.int (nI p)]) (st := []) d_SB_put_2 k_SB_73 s1 (c_SB_checkPoint hS hI hp) rfl rfl (Nat.le_of_ble_eq_true rfl) ⟨by decide, by decide⟩ (by decide) (by decide) ?_
  refine xa_iload_n d_SB_put_5 rfl ?_
  exact xa_callST (As := [.int y]) (st := []) d_SB_put_6 rfl k_SB_76 (t_SB_checkKind htr hy) rfl rfl (Nat.le_of_ble_eq_true rfl) ⟨by decide, by decide⟩ (by decide) (by decide) (by decide) (by decide) (fun h' sz' hq => hq)
theorem t_SB_put3 {p k : Nat} (htr : l.stackTraces = false) (hS : xS_S D h o T n fs b m bd pt tb tw) (hI : xS_I n fs b m bd) (hp : p < n * n) (hk : k ≤ 2) (hm : m ≠ 0) :
    xa_T l D H0 M_SB_put 7 110 1 6 [.ref o, .int (nI p), .int (nI k)] h sz "java/lang/IllegalStateException" (fun h' sz' => h' = h ∧ sz ≤ sz') := by
  have s1 := hS.1
  refine xa_enterT (by decide) rfl rfl ?_
  refine xa_aload_n d_SB_put_0 rfl ?_
  refine xa_iload_n d_SB_put_1 rfl ?_
  refine xa_callVr (As := [.int (nI p)]) (st := []) d_SB_put_2 k_SB_73 s1 (c_SB_checkPoint hS hI hp) rfl rfl (Nat.le_of_ble_eq_true rfl) ⟨by decide, by decide⟩ (by decide) (by decide) ?_
  refine xa_iload_n d_SB_put_5 rfl ?_
  refine xa_callSr (As := [.int (nI k)]) (st := []) d_SB_put_6 k_SB_76 (c_SB_checkKind hk) rfl rfl (Nat.le_of_ble_eq_true rfl) ⟨by decide, by decide⟩ (by decide) (by decide) ?_
  refine xa_aload_n d_SB_put_9 rfl ?_
  exact xa_callVT (As := []) (st := []) d_SB_put_10 rfl k_SB_79 s1 (t_SB_checkNoMoveYet htr hS ⟨hm, hI.2.2.1⟩) rfl rfl (Nat.le_of_ble_eq_true rfl) ⟨by decide, by decide⟩ (by decide) (by decide) (by decide) (by decide) (fun h' sz' hq => hq)
theorem c_SB_play {p : Nat} (hS : xS_S D h o T n fs b m bd pt tb tw) (hI : xS_I n fs b m bd) (hT : o + 28 ≤ T ∧ T ≤ sz) (hp : p < n * n) (hok : gx_ok n fs b m bd pt p) :
    xa_M l D H0 M_SB_play 7 135 2 13 [.ref o, .int (nI p)] h sz (fun v h' sz' => (∃ (t : Nat → Nat) (k ls : Nat), gq_T n b p (gx_turn fs m) t k ls ∧ v = some (.int (nI k)) ∧ xS_S D h' o T n fs t (m + 1) (xh_up bd (m + 1) t) (xh_up pt (m + 1) (nI p)) (xh_up tb (m + 1) (tb m + if ls = 1 then k else 0)) (xh_up tw (m + 1) (tw m + if ls = 2 then k else 0))) ∧ (∀ q, q < sz → (q < o ∨ o + 28 ≤ q) → h' q = h q) ∧ sz ≤ sz') := by
  have hN : n * n ≤ 169 := Nat.mul_le_mul hI.1.2 hI.1.2
  have s1 := hS.1
  have hb := xS_b hS
  refine xa_enter (by decide) rfl rfl ?_
  refine xa_aload_n d_SB_play_0 rfl ?_
  refine xa_iload_n d_SB_play_1 rfl ?_
  refine xa_callVr (As := [.int (nI p)]) (st := []) d_SB_play_2 k_SB_73 s1 (c_SB_checkPoint hS hI hp) rfl rfl (Nat.le_of_ble_eq_true rfl) ⟨by decide, by decide⟩ (by decide) (by decide) ?_
  refine xa_aload_n d_SB_play_5 rfl ?_
  refine xa_callVr (As := []) (st := []) d_SB_play_6 k_SB_109 s1 (c_SB_checkRoomForMove hS hI.2.2.1) rfl rfl (Nat.le_of_ble_eq_true rfl) ⟨by decide, by decide⟩ (by decide) (by decide) ?_
  refine xa_aload_n d_SB_play_9 rfl ?_
  refine xa_iload_n d_SB_play_10 rfl ?_
  refine xa_callV (As := [.int (nI p)]) (st := []) d_SB_play_11 k_SB_112 s1 (c_SB_judgeMove hS hI hT.1 hp) rfl rfl (Nat.le_of_ble_eq_true rfl) ⟨by decide, by decide⟩ (by decide) (by decide) (fun v h' sz' hq => ?_)
  obtain ⟨⟨j, hv, hw⟩, hS', hfr', hz⟩ := hq
  rw [hv, hz]
  obtain ⟨hj0, t, k, ls, hTq, V', hV', g2, g3⟩ := gx_why_yes hok hw
  subst hj0
  show xa_X l D H0 M_SB_play _ _ _ _ h' sz 14 _ [.int (nI 0)]
  obtain ⟨htle, hls⟩ := gq_T_le hb (gx_turn_or hI.2.1) hTq
  have s1' := hS'.1
  refine xa_if_eqN (tgt := 25) d_SB_play_14 (by decide) (by omega) (fun hz2 => ?_) (fun hz2 => ?_)
  · have hi1 : ∃ q F, h' (o + 15) = some (.inr (4, [.ref q, F])) := by
      obtain ⟨q, B, ob, F, V, e1, -⟩ := hS'.2.2.2.1
      exact ⟨_, _, e1⟩
    obtain ⟨qq, FF, hi1⟩ := hi1
    refine xa_aload_n d_SB_play_25 rfl ?_
    refine xa_getf f_SB_59 d_SB_play_26 (by assumption) (by rfl) ?_
    refine xa_iload_n d_SB_play_29 rfl ?_
    refine xa_aload_n d_SB_play_30 rfl ?_
    refine xa_getf f_SB_52 d_SB_play_31 (by assumption) (by rfl) ?_
    refine xa_getf f_SB_118 d_SB_play_34 (by assumption) (by rfl) ?_
    refine xa_aload_n d_SB_play_37 rfl ?_
    refine xa_getf f_SB_52 d_SB_play_38 (by assumption) (by rfl) ?_
    refine xa_getf f_SB_122 d_SB_play_41 (by assumption) (by rfl) ?_
    refine xa_aload_n d_SB_play_44 rfl ?_
    refine xa_getf f_SB_52 d_SB_play_45 (by assumption) (by rfl) ?_
    refine xa_getf f_SB_125 d_SB_play_48 (by assumption) (by rfl) ?_
    refine xa_callV (As := [.int (nI p), .ref (o + 13 + 1), .int (nI ls), .int (nI k)]) (st := []) d_SB_play_51 k_SB_128 hi1 (c_History_addMove (t := t) hS'.2.2.2.1 g3 hV' hN hT.2 hls) rfl rfl (Nat.le_of_ble_eq_true rfl) ⟨by decide, by decide⟩ (by decide) (by decide) (fun v6 h6 sz6 hq6 => ?_)
    obtain ⟨x1, x2, x3, x4⟩ := hq6
    rw [x1, x4]
    have hS6 := hS'.hist (by omega) x3 x2
    have s16 := hS6.1
    have g26 : h6 (o + 13) = _ := (x3 (o + 13) (by omega) (by omega) (by omega)).trans g2
    refine xa_aload_n d_SB_play_54 rfl ?_
    refine xa_callV (As := []) (st := []) d_SB_play_55 k_SB_132 s16 (c_SB_showLatestBoard hS6.P hI.1.2 hT.1 (fun q hq => by rw [xh_up_eq]; exact htle q hq)) rfl rfl (Nat.le_of_ble_eq_true rfl) ⟨by decide, by decide⟩ (by decide) (by decide) (fun v7 h7 sz7 hq7 => ?_)
    obtain ⟨y1, y2, y3, y4⟩ := hq7
    rw [y1, y4]
    rw [xh_up_eq] at y2
    have s17 := y2.1
    have g27 := (y3 (o + 13) (by omega)).trans g26
    refine xa_aload_n d_SB_play_58 rfl ?_
    refine xa_getf f_SB_52 d_SB_play_59 (by assumption) (by rfl) ?_
    refine xa_getf f_SB_125 d_SB_play_62 (by assumption) (by rfl) ?_
    exact xa_ireturn d_SB_play_65 rfl (by decide) (by decide) ⟨⟨t, k, ls, hTq, rfl, y2⟩, fun q h1 h2 => by rw [y3 q (by omega), x3 q h1 (by omega) (by omega), hfr' q (by omega) (by omega)], by omega⟩
  · omega
theorem t_SB_play1 {x : Int32} (htr : l.stackTraces = false) (hS : xS_S D h o T n fs b m bd pt tb tw) (hx : x < 0 ∨ nI (n * n) ≤ x) :
    xa_T l D H0 M_SB_play 7 135 1 6 [.ref o, .int x] h sz "java/lang/IndexOutOfBoundsException" (fun h' sz' => h' = h ∧ sz ≤ sz') := by
  have s1 := hS.1
  refine xa_enterT (by decide) rfl rfl ?_
  refine xa_aload_n d_SB_play_0 rfl ?_
  refine xa_iload_n d_SB_play_1 rfl ?_
  exact xa_callVT (As := [.int x]) (st := []) d_SB_play_2 rfl k_SB_73 s1 (t_SB_checkPoint htr hS hx) rfl rfl (Nat.le_of_ble_eq_true rfl) ⟨by decide, by decide⟩ (by decide) (by decide) (by decide) (by decide) (fun h' sz' hq => hq)
theorem t_SB_play2 {p : Nat} (htr : l.stackTraces = false) (hS : xS_S D h o T n fs b m bd pt tb tw) (hI : xS_I n fs b m bd) (hT : o + 28 ≤ T) (hp : p < n * n) (hok : ¬ gx_ok n fs b m bd pt p) :
    xa_T l D H0 M_SB_play 7 135 1 6 [.ref o, .int (nI p)] h sz "java/lang/IllegalStateException" (fun h' sz' => xS_S D h' o T n fs b m bd pt tb tw ∧ (∀ q, q ≠ o + 13 → q ≠ o + 14 → h' q = h q) ∧ sz ≤ sz') := by
  have s1 := hS.1
  refine xa_enterT (by decide) rfl rfl ?_
  refine xa_aload_n d_SB_play_0 rfl ?_
  refine xa_iload_n d_SB_play_1 rfl ?_
  refine xa_callVr (As := [.int (nI p)]) (st := []) d_SB_play_2 k_SB_73 s1 (c_SB_checkPoint hS hI hp) rfl rfl (Nat.le_of_ble_eq_true rfl) ⟨by decide, by decide⟩ (by decide) (by decide) ?_
  refine xa_aload_n d_SB_play_5 rfl ?_
  refine xa_callVr (As := []) (st := []) d_SB_play_6 k_SB_109 s1 (c_SB_checkRoomForMove hS hI.2.2.1) rfl rfl (Nat.le_of_ble_eq_true rfl) ⟨by decide, by decide⟩ (by decide) (by decide) ?_
  refine xa_aload_n d_SB_play_9 rfl ?_
  refine xa_iload_n d_SB_play_10 rfl ?_
  refine xa_callV (As := [.int (nI p)]) (st := []) d_SB_play_11 k_SB_112 s1 (c_SB_judgeMove hS hI hT hp) rfl rfl (Nat.le_of_ble_eq_true rfl) ⟨by decide, by decide⟩ (by decide) (by decide) (fun v h' sz' hq => ?_)
  obtain ⟨⟨j, hv, hw⟩, hS', hfr', hz⟩ := hq
  rw [hv, hz]
  obtain ⟨hj1, hj2⟩ := gx_why_no hok hw
  show xa_X l D H0 M_SB_play _ _ _ _ h' sz 14 _ [.int (nI j)]
  refine xa_if_eqN (tgt := 25) d_SB_play_14 (by decide) (by omega) (fun hz2 => ?_) (fun hz2 => ?_)
  · omega
  · exact xa_throw htr rfl t_ISE d_SB_play_17 d_SB_play_20 d_SB_play_21 d_SB_play_24 (by decide) (by decide) (by decide) (by decide) (by decide) (by decide) (fun sz' hz => ⟨hS', hfr', hz⟩)
theorem c_SB_pass (hS : xS_S D h o T n fs b m bd pt tb tw) (hI : xS_I n fs b m bd) (hT : o + 28 ≤ T ∧ T ≤ sz) (hend : ¬ gx_end pt m) :
    xa_M l D H0 M_SB_pass 7 109 1 7 [.ref o] h sz (fun v h' sz' => ((v = some (.int 1) ∧ gx_end (xh_up pt (m + 1) (-1)) (m + 1)) ∨ (v = some (.int 0) ∧ ¬ gx_end (xh_up pt (m + 1) (-1)) (m + 1))) ∧ xS_S D h' o T n fs b (m + 1) (xh_up bd (m + 1) (bd m)) (xh_up pt (m + 1) (-1)) (xh_up tb (m + 1) (tb m)) (xh_up tw (m + 1) (tw m)) ∧ (∀ q, q < sz → (q < o ∨ o + 28 ≤ q) → h' q = h q) ∧ sz ≤ sz') := by
  have hN : n * n ≤ 169 := Nat.mul_le_mul hI.1.2 hI.1.2
  have s1 := hS.1
  obtain ⟨q, B, ob, F, V, e1, e2, hP, hB, hV, hK⟩ := hS.2.2.2.1
  refine xa_enter (by decide) rfl rfl ?_
  refine xa_aload_n d_SB_pass_0 rfl ?_
  refine xa_callVr (As := []) (st := []) d_SB_pass_1 k_SB_109 s1 (c_SB_checkRoomForMove hS hI.2.2.1) rfl rfl (Nat.le_of_ble_eq_true rfl) ⟨by decide, by decide⟩ (by decide) (by decide) ?_
  refine xa_aload_n d_SB_pass_4 rfl ?_
  refine xa_getf f_SB_59 d_SB_pass_5 (by assumption) (by rfl) ?_
  refine xa_callVr (As := []) (st := []) d_SB_pass_8 k_SB_135 e1 (c_History_hasEnded e1 hP) rfl rfl (Nat.le_of_ble_eq_true rfl) ⟨by decide, by decide⟩ (by decide) (by decide) ?_
  refine xa_int (y := nI 0) (if_neg (c := pt m = -1 ∧ m ≠ 0 ∧ pt (m - 1) = -1) hend) ?_
  refine xa_if_eqN (tgt := 22) d_SB_pass_11 (by decide) (by omega) (fun hz => ?_) (fun hz => ?_)
  ·
    refine xa_aload_n d_SB_pass_22 rfl ?_
    refine xa_getf f_SB_59 d_SB_pass_23 (by assumption) (by rfl) ?_
    refine xa_callV (As := []) (st := []) d_SB_pass_26 k_SB_138 e1 (c_History_addPass hS.2.2.2.1 hN hT.2) rfl rfl (Nat.le_of_ble_eq_true rfl) ⟨by decide, by decide⟩ (by decide) (by decide) (fun v6 h6 sz6 hq6 => ?_)
    obtain ⟨x1, x2, x3, x4⟩ := hq6
    rw [x1, x4]
    have hS6 := hS.hist (by omega) x3 x2
    have s16 := hS6.1
    have fr : ∀ q, q < sz → (q < o ∨ o + 28 ≤ q) → h6 q = h q := fun q h1 h2 => x3 q h1 (by omega) (by omega)
    obtain ⟨q', B', ob', F', V', e1', e2', hP', hB', hV', hK'⟩ := x2
    refine xa_aload_n d_SB_pass_29 rfl ?_
    refine xa_getf f_SB_59 d_SB_pass_30 (by assumption) (by rfl) ?_
    refine xa_callVr (As := []) (st := []) d_SB_pass_33 k_SB_135 e1' (c_History_hasEnded e1' hP') rfl rfl (Nat.le_of_ble_eq_true rfl) ⟨by decide, by decide⟩ (by decide) (by decide) ?_
    by_cases he : gx_end (xh_up pt (m + 1) (-1)) (m + 1)
    · refine xa_int (y := nI 1) (if_pos (c := xh_up pt (m + 1) (-1) (m + 1) = -1 ∧ m + 1 ≠ 0 ∧ xh_up pt (m + 1) (-1) (m + 1 - 1) = -1) he) ?_
      exact xa_zreturn (v := nI 1) d_SB_pass_36 rfl (by decide) (by decide) (by decide) ⟨Or.inl ⟨rfl, he⟩, hS6, fr, by omega⟩
    · refine xa_int (y := nI 0) (if_neg (c := xh_up pt (m + 1) (-1) (m + 1) = -1 ∧ m + 1 ≠ 0 ∧ xh_up pt (m + 1) (-1) (m + 1 - 1) = -1) he) ?_
      exact xa_zreturn (v := nI 0) d_SB_pass_36 rfl (by decide) (by decide) (by decide) ⟨Or.inr ⟨rfl, he⟩, hS6, fr, by omega⟩
  · omega
theorem t_SB_pass (htr : l.stackTraces = false) (hS : xS_S D h o T n fs b m bd pt tb tw) (hI : xS_I n fs b m bd) (hend : gx_end pt m) :
    xa_T l D H0 M_SB_pass 7 109 1 6 [.ref o] h sz "java/lang/IllegalStateException" (fun h' sz' => h' = h ∧ sz ≤ sz') := by
  have s1 := hS.1
  obtain ⟨q, B, ob, F, V, e1, e2, hP, hB, hV, hK⟩ := hS.2.2.2.1
  refine xa_enterT (by decide) rfl rfl ?_
  refine xa_aload_n d_SB_pass_0 rfl ?_
  refine xa_callVr (As := []) (st := []) d_SB_pass_1 k_SB_109 s1 (c_SB_checkRoomForMove hS hI.2.2.1) rfl rfl (Nat.le_of_ble_eq_true rfl) ⟨by decide, by decide⟩ (by decide) (by decide) ?_
  refine xa_aload_n d_SB_pass_4 rfl ?_
  refine xa_getf f_SB_59 d_SB_pass_5 (by assumption) (by rfl) ?_
  refine xa_callVr (As := []) (st := []) d_SB_pass_8 k_SB_135 e1 (c_History_hasEnded e1 hP) rfl rfl (Nat.le_of_ble_eq_true rfl) ⟨by decide, by decide⟩ (by decide) (by decide) ?_
  refine xa_int (y := nI 1) (if_pos (c := pt m = -1 ∧ m ≠ 0 ∧ pt (m - 1) = -1) hend) ?_
  refine xa_if_eqN (tgt := 22) d_SB_pass_11 (by decide) (by omega) (fun hz => ?_) (fun hz => ?_)
  · omega
  · exact xa_throw htr rfl t_ISE d_SB_pass_14 d_SB_pass_17 d_SB_pass_18 d_SB_pass_21 (by decide) (by decide) (by decide) (by decide) (by decide) (by decide) (fun sz' hz => ⟨rfl, hz⟩)
theorem c_SB_back (hS : xS_S D h o T n fs b (m + 1) bd pt tb tw) (hI : xS_I n fs b (m + 1) bd) (hT : o + 28 ≤ T ∧ T ≤ sz) :
    xa_M l D H0 M_SB_back 6 113 0 0 [.ref o] h sz (fun v h' sz' => v = some (.int (nI m)) ∧ xS_S D h' o T n fs (bd m) m bd pt tb tw ∧ (∀ q, q < sz → (q < o ∨ o + 28 ≤ q) → h' q = h q) ∧ sz ≤ sz') := by
  have hN : n * n ≤ 169 := Nat.mul_le_mul hI.1.2 hI.1.2
  have hm := hI.2.2.1
  have s1 := hS.1
  obtain ⟨q, B, ob, F, V, e1, e2, hP, hB, hV, hK⟩ := hS.2.2.2.1
  obtain ⟨p1, p2⟩ := hP (m + 1) (Nat.le_refl _)
  refine xa_enter (by decide) rfl rfl ?_
  refine xa_aload_n d_SB_back_0 rfl ?_
  refine xa_getf f_SB_59 d_SB_back_1 (by assumption) (by rfl) ?_
  refine xa_getf f_SB_96 d_SB_back_4 (by assumption) (by rfl) ?_
  refine xa_getf f_SB_100 d_SB_back_7 (by assumption) (by rfl) ?_
  refine xa_if_neN (tgt := 21) d_SB_back_10 (by decide) (by omega) (fun hz => ?_) (fun hz => ?_)
  ·
    refine xa_aload_n d_SB_back_21 rfl ?_
    refine xa_getf f_SB_59 d_SB_back_22 (by assumption) (by rfl) ?_
    refine xa_callV (As := []) (st := []) d_SB_back_25 k_SB_141 e1 (c_History_dropLatest hS.2.2.2.1 hN) rfl rfl (Nat.le_of_ble_eq_true rfl) ⟨by decide, by decide⟩ (by decide) (by decide) (fun v6 h6 sz6 hq6 => ?_)
    obtain ⟨x1, x2, x3, x4⟩ := hq6
    rw [x1, x4]
    have hS6 := hS.hist (sz := sz) (by omega) (fun a _ => x3 a) x2
    have s16 := hS6.1
    refine xa_aload_n d_SB_back_28 rfl ?_
    refine xa_callV (As := []) (st := []) d_SB_back_29 k_SB_132 s16 (c_SB_showLatestBoard hS6.P hI.1.2 hT.1 (hI.2.2.2.2 m (by omega))) rfl rfl (Nat.le_of_ble_eq_true rfl) ⟨by decide, by decide⟩ (by decide) (by decide) (fun v7 h7 sz7 hq7 => ?_)
    obtain ⟨y1, y2, y3, y4⟩ := hq7
    rw [y1, y4]
    have s17 := y2.1
    obtain ⟨q', B', ob', F', V', e1', e2', hP', hB', hV', hK'⟩ := id y2.2.2.2.1
    obtain ⟨p1', p2'⟩ := hP' m (Nat.le_refl _)
    refine xa_aload_n d_SB_back_32 rfl ?_
    refine xa_getf f_SB_59 d_SB_back_33 (by assumption) (by rfl) ?_
    refine xa_getf f_SB_96 d_SB_back_36 (by assumption) (by rfl) ?_
    refine xa_getf f_SB_100 d_SB_back_39 (by assumption) (by rfl) ?_
    exact xa_ireturn d_SB_back_42 rfl (by decide) (by decide) ⟨rfl, y2, fun q h1 h2 => by rw [y3 q (by omega), x3 q (by omega) (by omega)], by omega⟩
  · omega
theorem t_SB_back (htr : l.stackTraces = false) (hS : xS_S D h o T n fs b 0 bd pt tb tw) :
    xa_T l D H0 M_SB_back 6 113 1 6 [.ref o] h sz "java/lang/IllegalStateException" (fun h' sz' => h' = h ∧ sz ≤ sz') := by
  have s1 := hS.1
  obtain ⟨q, B, ob, F, V, e1, e2, hP, hB, hV, hK⟩ := hS.2.2.2.1
  obtain ⟨p1, p2⟩ := hP 0 (Nat.le_refl _)
  refine xa_enterT (by decide) rfl rfl ?_
  refine xa_aload_n d_SB_back_0 rfl ?_
  refine xa_getf f_SB_59 d_SB_back_1 (by assumption) (by rfl) ?_
  refine xa_getf f_SB_96 d_SB_back_4 (by assumption) (by rfl) ?_
  refine xa_getf f_SB_100 d_SB_back_7 (by assumption) (by rfl) ?_
  refine xa_if_neN (tgt := 21) d_SB_back_10 (by decide) (by omega) (fun hz => ?_) (fun hz => ?_)
  · omega
  · exact xa_throw htr rfl t_ISE d_SB_back_13 d_SB_back_16 d_SB_back_17 d_SB_back_20 (by decide) (by decide) (by decide) (by decide) (by decide) (by decide) (fun sz' hz => ⟨rfl, hz⟩)
end SB3
