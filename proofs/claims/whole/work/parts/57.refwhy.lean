/-! The reference: whyNot, why, allowed, ago, play, pass, back. -/
/-- the trial as it stands -/
def xR_V (D : va_G) (h : xa_H) (r n : Nat) (t : Nat → Nat) (k ls sd : Nat) : Prop := ∃ (v : Nat → Nat) (TR : Nat → Int32), h r = some (xR_o r n v) ∧ h (r + 2) = some (.inl (D.1 100, 169, .inl TR)) ∧ (∀ q, q < n * n → TR q = nI (t q)) ∧ v 1 = (if ls = sd then 0 else k) ∧ v 2 = (if ls = sd then k else 0)
def gr_why (D : va_G) (h' : xa_H) (r n fs : Nat) (b : Nat → Nat) (m : Nat) (bd : Nat → Nat → Nat) (pt : Nat → Int32) (p j : Nat) : Prop :=
  (gx_end pt m ∧ j = 1) ∨ (¬ gx_end pt m ∧ b p ≠ 0 ∧ j = 2) ∨ (¬ gx_end pt m ∧ b p = 0 ∧ ∃ (t : Nat → Nat) (k ls : Nat), gq_T n b p (gx_turn fs m) t k ls ∧ (((∃ i, i ≤ m ∧ gx_same (n * n) (bd i) t) ∧ j = 3) ∨ ((∀ i, i ≤ m → ¬ gx_same (n * n) (bd i) t) ∧ j = 0 ∧ xR_V D h' r n t k ls (gx_turn fs m))))
theorem gr_why_yes {D : va_G} {h' : xa_H} {r n fs : Nat} {b : Nat → Nat} {m : Nat} {bd : Nat → Nat → Nat} {pt : Nat → Int32} {p j : Nat} (h : gx_ok n fs b m bd pt p) (hw : gr_why D h' r n fs b m bd pt p j) : j = 0 ∧ ∃ (t : Nat → Nat) (k ls : Nat), gq_T n b p (gx_turn fs m) t k ls ∧ xR_V D h' r n t k ls (gx_turn fs m) := by
  obtain ⟨o1, o2, t, k, ls, hT, hno⟩ := h
  rcases hw with ⟨w1, -⟩ | ⟨-, w2, -⟩ | ⟨-, -, t', k', ls', hT', ⟨⟨i, hi, hs⟩, -⟩ | ⟨-, hj, hV⟩⟩
  · exact absurd w1 o1
  · exact absurd o2 w2
  · exact absurd (gx_same_tr hs (gq_T_un hT' hT).1) (hno i hi)
  · exact ⟨hj, t', k', ls', hT', hV⟩
theorem gr_why_no {D : va_G} {h' : xa_H} {r n fs : Nat} {b : Nat → Nat} {m : Nat} {bd : Nat → Nat → Nat} {pt : Nat → Int32} {p j : Nat} (h : ¬ gx_ok n fs b m bd pt p) (hw : gr_why D h' r n fs b m bd pt p j) : 0 < j ∧ j ≤ 3 := by
  rcases hw with ⟨-, w⟩ | ⟨-, -, w⟩ | ⟨w1, w2, t', k', ls', hT', ⟨-, w⟩ | ⟨hno, hj, hV⟩⟩
  · omega
  · omega
  · omega
  · exact absurd ⟨w1, w2, t', k', ls', hT', hno⟩ h
section RA
variable {D : va_G} {h : xa_H} {r n : Nat} {v : Nat → Nat} {B SD MV TB TW : Nat → Int32}
theorem xR_A.uB (hA : xR_A D h r n v B SD MV TB TW) (X : Nat → Int32) : xR_A D (xa_u h (r + 1) (.inl (D.1 100, 169, .inl X))) r n v X SD MV TB TW := by
  obtain ⟨a0, a1, a3, a4, a5, a6, aX⟩ := hA
  exact ⟨xa_u_ne a0 (by omega), xa_u_eq _ _ _, xa_u_ne a3 (by omega), xa_u_ne a4 (by omega), xa_u_ne a5 (by omega), xa_u_ne a6 (by omega), aX.frame (fun q h1 h2 => xa_u_ne rfl (by omega))⟩
theorem xR_A.uS (hA : xR_A D h r n v B SD MV TB TW) (X : Nat → Int32) : xR_A D (xa_u h (r + 3) (.inl (D.1 104, 169169, .inl X))) r n v B X MV TB TW := by
  obtain ⟨a0, a1, a3, a4, a5, a6, TR, IN, RW, GR, RG, SG, SR, GO, FA, a2, a7, a8, a9, a10, a11, a12, a13, a14⟩ := hA
  refine ⟨xa_u_ne a0 (by omega), xa_u_ne a1 (by omega), xa_u_eq _ _ _, xa_u_ne a4 (by omega), xa_u_ne a5 (by omega), xa_u_ne a6 (by omega), TR, IN, RW, GR, RG, SG, SR, GO, FA, ?_, ?_, ?_, ?_, ?_, ?_, ?_, ?_, ?_⟩
  all_goals exact xa_u_ne (by assumption) (by omega)
theorem xR_A.uM (hA : xR_A D h r n v B SD MV TB TW) (X : Nat → Int32) : xR_A D (xa_u h (r + 4) (.inl (D.1 100, 1000, .inl X))) r n v B SD X TB TW := by
  obtain ⟨a0, a1, a3, a4, a5, a6, TR, IN, RW, GR, RG, SG, SR, GO, FA, a2, a7, a8, a9, a10, a11, a12, a13, a14⟩ := hA
  refine ⟨xa_u_ne a0 (by omega), xa_u_ne a1 (by omega), xa_u_ne a3 (by omega), xa_u_eq _ _ _, xa_u_ne a5 (by omega), xa_u_ne a6 (by omega), TR, IN, RW, GR, RG, SG, SR, GO, FA, ?_, ?_, ?_, ?_, ?_, ?_, ?_, ?_, ?_⟩
  all_goals exact xa_u_ne (by assumption) (by omega)
theorem xR_A.uK (hA : xR_A D h r n v B SD MV TB TW) (X : Nat → Int32) : xR_A D (xa_u h (r + 5) (.inl (D.1 100, 1000, .inl X))) r n v B SD MV X TW := by
  obtain ⟨a0, a1, a3, a4, a5, a6, TR, IN, RW, GR, RG, SG, SR, GO, FA, a2, a7, a8, a9, a10, a11, a12, a13, a14⟩ := hA
  refine ⟨xa_u_ne a0 (by omega), xa_u_ne a1 (by omega), xa_u_ne a3 (by omega), xa_u_ne a4 (by omega), xa_u_eq _ _ _, xa_u_ne a6 (by omega), TR, IN, RW, GR, RG, SG, SR, GO, FA, ?_, ?_, ?_, ?_, ?_, ?_, ?_, ?_, ?_⟩
  all_goals exact xa_u_ne (by assumption) (by omega)
theorem xR_A.uW (hA : xR_A D h r n v B SD MV TB TW) (X : Nat → Int32) : xR_A D (xa_u h (r + 6) (.inl (D.1 100, 1000, .inl X))) r n v B SD MV TB X := by
  obtain ⟨a0, a1, a3, a4, a5, a6, TR, IN, RW, GR, RG, SG, SR, GO, FA, a2, a7, a8, a9, a10, a11, a12, a13, a14⟩ := hA
  refine ⟨xa_u_ne a0 (by omega), xa_u_ne a1 (by omega), xa_u_ne a3 (by omega), xa_u_ne a4 (by omega), xa_u_ne a5 (by omega), xa_u_eq _ _ _, TR, IN, RW, GR, RG, SG, SR, GO, FA, ?_, ?_, ?_, ?_, ?_, ?_, ?_, ?_, ?_⟩
  all_goals exact xa_u_ne (by assumption) (by omega)
end RA
section RW
variable {l : Launch} {D : va_G} {H0 : Heap} {h : xa_H} {sz : Nat} {R : Room} {r n fs : Nat} {b : Nat → Nat} {m : Nat} {bd : Nat → Nat → Nat} {pt : Nat → Int32} {tb tw : Nat → Nat} {cd : Nat}

theorem c_Ref_whyNot {p : Nat} (hS : xR_S D h r n fs b m bd pt tb tw cd) (hZ : xZ_I n fs b m bd pt tb tw) (hp : p < n * n) :
    xa_M l D H0 M_Ref_whyNot 4 98 0 0 [.ref r, .int (nI p)] h sz (fun v h' sz' => (∃ j, v = some (.int (nI j)) ∧ gr_why D h' r n fs b m bd pt p j) ∧ xR_S D h' r n fs b m bd pt tb tw cd ∧ xR_F h h' r ∧ sz' = sz) := by
  have hn := hZ.1.1
  have hN : n * n ≤ 169 := Nat.mul_le_mul hn.2 hn.2
  have hsd := gx_turn_or (m := m) hZ.1.2.1
  have hS0 := hS
  obtain ⟨v, B, SD, MV, TB, TW, hA, ⟨f0, f3, f4⟩, ⟨i1, i2, i3, i4, i5⟩⟩ := hS0
  have hA0 := hA
  obtain ⟨g0, g1, g3, g4, g5, g6, TR, IN, RW, GR, RG, SG, SR, GO, FA, a2, a7, a8, a9, a10, a11, a12, a13, a14⟩ := hA0
  refine xa_enter (by decide) rfl rfl ?_
  refine xa_aload_n d_Ref_whyNot_0 rfl ?_
  refine xa_callV (As := []) (st := []) d_Ref_whyNot_1 k_Ref_103 g0 (c_Ref_isEnded hS hn hZ.1.2.2 hZ.2.2.2.2.1) rfl rfl (Nat.le_of_ble_eq_true rfl) ⟨by decide, by decide⟩ (by decide) (by decide) (fun v' h' sz' hq => ?_)
  obtain ⟨hv, e2, e3⟩ := hq
  rw [e2, e3]
  rcases hv with ⟨hv, hend⟩ | ⟨hv, hend⟩
  · rw [hv]
    refine xa_int (y := nI 1) rfl ?_
    refine xa_if_eqN (tgt := 9) d_Ref_whyNot_4 (by decide) (by omega) (fun hz => ?_) (fun hz => ?_)
    · omega
    ·
      refine xa_iconst (v := nI 1) d_Ref_whyNot_7 rfl ?_
      exact xa_ireturn d_Ref_whyNot_8 rfl (by decide) (by decide) ⟨⟨1, rfl, Or.inl ⟨hend, rfl⟩⟩, hS, fun q hq => rfl, rfl⟩
  · rw [hv]
    refine xa_int (y := nI 0) rfl ?_
    refine xa_if_eqN (tgt := 9) d_Ref_whyNot_4 (by decide) (by omega) (fun hz => ?_) (fun hz => ?_)
    ·
      refine xa_aload_n d_Ref_whyNot_9 rfl ?_
      refine xa_getf f_Ref_7 d_Ref_whyNot_10 (by assumption) (by rfl) ?_
      refine xa_iload_n d_Ref_whyNot_13 rfl ?_
      refine xa_ialdE d_Ref_whyNot_14 g1 rfl (show p < 169 by omega) (by omega) (i1 p hp) ?_
      have hbp := hZ.b2 p hp
      refine xa_if_eqN (tgt := 20) d_Ref_whyNot_15 (by decide) (by omega) (fun hb0 => ?_) (fun hb0 => ?_)
      ·
        refine xa_aload_n d_Ref_whyNot_20 rfl ?_
        refine xa_iload_n d_Ref_whyNot_21 rfl ?_
        refine xa_aload_n d_Ref_whyNot_22 rfl ?_
        refine xa_callVr (As := []) (st := [.int (nI p), .ref r]) d_Ref_whyNot_23 k_Ref_107 g0 (c_Ref_turnNow hS hZ.1.2.1 hZ.1.2.2) rfl rfl (Nat.le_of_ble_eq_true rfl) ⟨by decide, by decide⟩ (by decide) (by decide) ?_
        refine xa_callV (As := [.int (nI p), .int (nI (gx_turn fs m))]) (st := []) d_Ref_whyNot_26 k_Ref_111 g0 (c_Ref_attempt g0 g1 a2 a13 a7 a8 hn hp hb0 hsd hZ.b2 i1) rfl rfl (Nat.le_of_ble_eq_true rfl) ⟨by decide, by decide⟩ (by decide) (by decide) (fun v' h' sz' hq => ?_)
        obtain ⟨e1, hAt, e2⟩ := hq
        rw [e1, e2]
        obtain ⟨v', t, k, ls, TR', hA', hT, ht, hv', hk1, hk2, gTR, hF⟩ := hA.At hAt
        have q0 := hA'.1
        have f3' : v' 3 = m := (hv' 3 (by omega) (by omega) (by omega)).trans f3
        have hS' : xR_S D h' r n fs b m bd pt tb tw cd := ⟨v', B, SD, MV, TB, TW, hA', ⟨(hv' 0 (by omega) (by omega) (by omega)).trans f0, f3', (hv' 4 (by omega) (by omega) (by omega)).trans f4⟩, ⟨i1, i2, i3, i4, i5⟩⟩
        refine xa_aload_n d_Ref_whyNot_29 rfl ?_
        refine xa_callV (As := []) (st := []) d_Ref_whyNot_30 k_Ref_115 q0 (c_Ref_latest q0 f3' gTR hA'.2.2.1 hn hZ.1.2.2 (fun i hi q hq => ⟨i2 i hi q hq, hZ.2.2.1 i hi q hq⟩) (fun q hq => ⟨ht q hq, (gq_T_le hZ.b2 hsd hT).1 q hq⟩)) rfl rfl (Nat.le_of_ble_eq_true rfl) ⟨by decide, by decide⟩ (by decide) (by decide) (fun v'' h'' sz'' hq => ?_)
        obtain ⟨hv, e1, e2⟩ := hq
        rw [e1, e2]
        rcases hv with ⟨hv, hno⟩ | ⟨j, hj, hv, hs, -⟩
        · rw [hv]
          refine xa_int (y := -1) rfl ?_
          refine xa_if_lt (tgt := 40) d_Ref_whyNot_33 (by decide) (fun hz2 => ?_) (fun hz2 => ?_)
          ·
            refine xa_iconst (v := nI 0) d_Ref_whyNot_40 rfl ?_
            exact xa_ireturn d_Ref_whyNot_41 rfl (by decide) (by decide) ⟨⟨0, rfl, Or.inr (Or.inr ⟨hend, hb0, t, k, ls, hT, Or.inr ⟨hno, rfl, v', TR', q0, gTR, ht, hk1, hk2⟩⟩)⟩, hS', hF, rfl⟩
          · exact absurd (by decide) hz2
        · rw [hv]
          refine xa_int (y := nI j) rfl ?_
          have := hZ.1.2.2
          refine xa_if_lt (tgt := 40) d_Ref_whyNot_33 (by decide) (fun hz2 => ?_) (fun hz2 => ?_)
          · exact absurd hz2 (nI_pos (by omega))
          ·
            refine xa_iconst (v := nI 3) d_Ref_whyNot_36 rfl ?_
            refine xa_goto (tgt := 41) d_Ref_whyNot_37 (by decide) ?_
            exact xa_ireturn d_Ref_whyNot_41 rfl (by decide) (by decide) ⟨⟨3, rfl, Or.inr (Or.inr ⟨hend, hb0, t, k, ls, hT, Or.inl ⟨⟨j, hj, hs⟩, rfl⟩⟩)⟩, hS', hF, rfl⟩
      ·
        refine xa_iconst (v := nI 2) d_Ref_whyNot_18 rfl ?_
        exact xa_ireturn d_Ref_whyNot_19 rfl (by decide) (by decide) ⟨⟨2, rfl, Or.inr (Or.inl ⟨hend, by omega, rfl⟩)⟩, hS, fun q hq => rfl, rfl⟩
    · omega
theorem gr_F_tr {h h' h'' : xa_H} {r : Nat} (h1 : xR_F h h' r) (h2 : xR_F h' h'' r) : xR_F h h'' r := fun q hq => (h2 q hq).trans (h1 q hq)
theorem c_Ref_why {p : Nat} (hS : xR_S D h r n fs b m bd pt tb tw cd) (hZ : xZ_I n fs b m bd pt tb tw) (hp : p < n * n) :
    xa_M l D H0 M_Ref_why 5 119 0 0 [.ref r, .int (nI p)] h sz (fun v h' sz' => (∃ j, v = some (.int (nI j)) ∧ gr_why D h' r n fs b m bd pt p j) ∧ xR_S D h' r n fs b m bd pt tb tw 0 ∧ xR_F h h' r ∧ sz' = sz) := by
  obtain ⟨v, h0, e0, e3, e4, hc⟩ := hS.code
  refine xa_enter (by decide) rfl rfl ?_
  refine xa_aload_n d_Ref_why_0 rfl ?_
  refine xa_iload_n d_Ref_why_1 rfl ?_
  refine xa_callV (As := [.int (nI p)]) (st := []) d_Ref_why_2 k_Ref_118 h0 (c_Ref_noPoint hS hZ.1.1 hp) rfl rfl (Nat.le_of_ble_eq_true rfl) ⟨by decide, by decide⟩ (by decide) (by decide) (fun v' h' sz' hq => ?_)
  obtain ⟨e1, hS', hF, e2⟩ := hq
  rw [e1, e2]
  obtain ⟨v2, g0, -⟩ := hS'.code
  refine xa_if_eqN (tgt := 12) d_Ref_why_5 (by decide) (by omega) (fun hz => ?_) (fun hz => ?_)
  ·
    refine xa_aload_n d_Ref_why_12 rfl ?_
    refine xa_iload_n d_Ref_why_13 rfl ?_
    refine xa_callV (As := [.int (nI p)]) (st := []) d_Ref_why_14 k_Ref_129 g0 (c_Ref_whyNot hS' hZ hp) rfl rfl (Nat.le_of_ble_eq_true rfl) ⟨by decide, by decide⟩ (by decide) (by decide) (fun v' h'' sz'' hq => ?_)
    obtain ⟨⟨j, e1, hw⟩, hS2, hF2, e2⟩ := hq
    rw [e1, e2]
    exact xa_ireturn d_Ref_why_17 rfl (by decide) (by decide) ⟨⟨j, rfl, hw⟩, hS2, gr_F_tr hF hF2, rfl⟩
  · omega
theorem c_Ref_whyX {x : Int32} (hS : xR_S D h r n fs b m bd pt tb tw cd) (hx : x < 0 ∨ nI (n * n) ≤ x) :
    xa_M l D H0 M_Ref_why 5 119 0 0 [.ref r, .int x] h sz (fun v h' sz' => v = some (.int (nI 0)) ∧ xR_S D h' r n fs b m bd pt tb tw 1 ∧ xR_F h h' r ∧ sz' = sz) := by
  obtain ⟨v, h0, e0, e3, e4, hc⟩ := hS.code
  refine xa_enter (by decide) rfl rfl ?_
  refine xa_aload_n d_Ref_why_0 rfl ?_
  refine xa_iload_n d_Ref_why_1 rfl ?_
  refine xa_callV (As := [.int x]) (st := []) d_Ref_why_2 k_Ref_118 h0 (c_Ref_noPointX hS hx) rfl rfl (Nat.le_of_ble_eq_true rfl) ⟨by decide, by decide⟩ (by decide) (by decide) (fun v' h' sz' hq => ?_)
  obtain ⟨e1, hS', hF, e2⟩ := hq
  rw [e1, e2]
  refine xa_if_eqN (tgt := 12) d_Ref_why_5 (by decide) (by omega) (fun hz => ?_) (fun hz => ?_)
  · omega
  ·
    refine xa_iconst (v := nI 0) d_Ref_why_8 rfl ?_
    refine xa_goto (tgt := 17) d_Ref_why_9 (by decide) ?_
    exact xa_ireturn d_Ref_why_17 rfl (by decide) (by decide) ⟨rfl, hS', hF, rfl⟩
theorem w_Ref_allowed (hR : 5 ≤ R.frames ∧ 119 ≤ R.locals) (hZ : xZ_I n fs b m bd pt tb tw) (h0 : xa_H) (p : Nat) (hp : p ≤ n * n) (h : xa_H) (hS : xR_S D h r n fs b m bd pt tb tw cd) (hfr : xR_F h0 h r) :
    xa_X l D H0 M_Ref_allowed R (xa_Zr D H0 0 0 (fun v h' sz' => v = some (.int (nI (gb_cnt (gx_ok n fs b m bd pt) (n * n)))) ∧ xR_S D h' r n fs b m bd pt tb tw cd ∧ xR_F h0 h' r ∧ sz' = sz)) 0 0 h sz 9 [(0, .ref r), (1, .int (nI (gb_cnt (gx_ok n fs b m bd pt) p))), (2, .int (nI p))] [] := by
  obtain ⟨v, g0, -⟩ := hS.code
  have hN : n * n ≤ 169 := Nat.mul_le_mul hZ.1.1.2 hZ.1.1.2
  refine xa_iload_n d_Ref_allowed_9 rfl ?_
  refine xa_aload_n d_Ref_allowed_10 rfl ?_
  refine xa_getf f_Ref_62 d_Ref_allowed_11 (by assumption) (by rfl) ?_
  refine xa_icmp_geN (tgt := 39) d_Ref_allowed_14 (by decide) (by omega) (by omega) (fun hb => ?_) (fun hb => ?_)
  · have hpe : p = n * n := by omega
    subst hpe
    refine xa_iload_n d_Ref_allowed_39 rfl ?_
    exact xa_ireturn d_Ref_allowed_40 rfl (by omega) (by omega) ⟨rfl, hS, hfr, rfl⟩
  ·
    refine xa_aload_n d_Ref_allowed_17 rfl ?_
    refine xa_iload_n d_Ref_allowed_18 rfl ?_
    refine xa_callV (As := [.int (nI p)]) (st := []) d_Ref_allowed_19 k_Ref_129 g0 (c_Ref_whyNot hS hZ hb) rfl rfl (Nat.le_of_ble_eq_true rfl) ⟨hR.1, hR.2⟩ (by omega) (by omega) (fun v h' sz' hq => ?_)
    obtain ⟨⟨j, hv, hw⟩, hS', hfr', hz⟩ := hq
    rw [hv, hz]
    have hfr2 := gr_F_tr hfr hfr'
    by_cases hok : gx_ok n fs b m bd pt p
    · obtain ⟨rfl, -⟩ := gr_why_yes hok hw
      show xa_X l D H0 M_Ref_allowed R _ _ _ h' sz 22 _ [.int (nI 0)]
      refine xa_if_neN (tgt := 31) d_Ref_allowed_22 (by decide) (by omega) (fun hz2 => ?_) (fun hz2 => ?_)
      · omega
      ·
        refine xa_iload_n d_Ref_allowed_25 rfl ?_
        refine xa_iconst (v := nI 1) d_Ref_allowed_26 rfl ?_
        refine xa_iaddN d_Ref_allowed_27 ?_
        refine xa_goto (tgt := 32) d_Ref_allowed_28 (by decide) ?_
        refine xa_istore_n d_Ref_allowed_32 rfl rfl ?_
        refine xa_iincN d_Ref_allowed_33 rfl rfl rfl ?_
        refine xa_goto (tgt := 9) d_Ref_allowed_36 (by decide) ?_
        refine xa_ls ?_ (w_Ref_allowed hR hZ h0 (p + 1) (by omega) h' hS' hfr2)
        exact ⟨rfl, by rw [gb_cnt_y hok]; rfl, rfl, trivial⟩
    · obtain ⟨hj1, hj2⟩ := gr_why_no hok hw
      show xa_X l D H0 M_Ref_allowed R _ _ _ h' sz 22 _ [.int (nI j)]
      refine xa_if_neN (tgt := 31) d_Ref_allowed_22 (by decide) (by omega) (fun hz2 => ?_) (fun hz2 => ?_)
      ·
        refine xa_iload_n d_Ref_allowed_31 rfl ?_
        refine xa_istore_n d_Ref_allowed_32 rfl rfl ?_
        refine xa_iincN d_Ref_allowed_33 rfl rfl rfl ?_
        refine xa_goto (tgt := 9) d_Ref_allowed_36 (by decide) ?_
        refine xa_ls ?_ (w_Ref_allowed hR hZ h0 (p + 1) (by omega) h' hS' hfr2)
        exact ⟨rfl, by rw [gb_cnt_n hok]; rfl, rfl, trivial⟩
      · omega
termination_by n * n - p
decreasing_by all_goals omega
theorem c_Ref_allowed (hS : xR_S D h r n fs b m bd pt tb tw cd) (hZ : xZ_I n fs b m bd pt tb tw) :
    xa_M l D H0 M_Ref_allowed 5 119 0 0 [.ref r] h sz (fun v h' sz' => v = some (.int (nI (gb_cnt (gx_ok n fs b m bd pt) (n * n)))) ∧ xR_S D h' r n fs b m bd pt tb tw 0 ∧ xR_F h h' r ∧ sz' = sz) := by
  obtain ⟨v, h0, e0, e3, e4, hc⟩ := hS.code
  refine xa_enter (by decide) rfl rfl ?_
  refine xa_aload_n d_Ref_allowed_0 rfl ?_
  refine xa_iconst (v := nI 0) d_Ref_allowed_1 rfl ?_
  refine xa_putf f_Ref_65 d_Ref_allowed_2 h0 (Nat.le_of_ble_eq_true rfl) rfl rfl ?_
  refine xa_heap (h' := xa_u h r (xR_o r n (xh_up v 0 0))) rfl ?_
  have q0 : xa_u h r (xR_o r n (xh_up v 0 0)) r = some (xR_o r n (xh_up v 0 0)) := xa_u_eq _ _ _
  refine xa_iconst (v := nI 0) d_Ref_allowed_5 rfl ?_
  refine xa_istore_n d_Ref_allowed_6 rfl rfl ?_
  refine xa_iconst (v := nI 0) d_Ref_allowed_7 rfl ?_
  refine xa_istore_n d_Ref_allowed_8 rfl rfl ?_
  refine xa_ls ?_ (w_Ref_allowed ⟨by decide, by decide⟩ hZ h 0 (by omega) _ (hc 0) (fun q hq => xa_u_ne rfl (by omega)))
  exact ⟨rfl, rfl, rfl, trivial⟩
theorem c_Ref_ago {p : Nat} (hS : xR_S D h r n fs b m bd pt tb tw cd) (hZ : xZ_I n fs b m bd pt tb tw) (hp : p < n * n) :
    xa_M l D H0 M_Ref_ago 4 98 0 0 [.ref r, .int (nI p)] h sz (fun v h' sz' => ((b p ≠ 0 ∧ v = some (.int (-1))) ∨ (b p = 0 ∧ ∃ (t : Nat → Nat) (k ls : Nat), gq_T n b p (gx_turn fs m) t k ls ∧ ((v = some (.int (-1)) ∧ ∀ j, j ≤ m → ¬ gx_same (n * n) (bd j) t) ∨ ∃ j, j ≤ m ∧ v = some (.int (nI (m - j))) ∧ gx_same (n * n) (bd j) t ∧ ∀ j', j < j' → j' ≤ m → ¬ gx_same (n * n) (bd j') t))) ∧ xR_S D h' r n fs b m bd pt tb tw 0 ∧ xR_F h h' r ∧ sz' = sz) := by
  obtain ⟨v, h0, -⟩ := hS.code
  refine xa_enter (by decide) rfl rfl ?_
  refine xa_aload_n d_Ref_ago_0 rfl ?_
  refine xa_iload_n d_Ref_ago_1 rfl ?_
  refine xa_callV (As := [.int (nI p)]) (st := []) d_Ref_ago_2 k_Ref_118 h0 (c_Ref_noPoint hS hZ.1.1 hp) rfl rfl (Nat.le_of_ble_eq_true rfl) ⟨by decide, by decide⟩ (by decide) (by decide) (fun v' h1 sz' hq => ?_)
  obtain ⟨e1, hS1, hF1, e2⟩ := hq
  rw [e1, e2]
  clear h0 hS e1 e2 v
  have hS := hS1
  refine xa_if_eqN (tgt := 10) d_Ref_ago_5 (by decide) (by omega) (fun hz => ?_) (fun hz => ?_)
  · have hn := hZ.1.1
    have hN : n * n ≤ 169 := Nat.mul_le_mul hn.2 hn.2
    have hsd := gx_turn_or (m := m) hZ.1.2.1
    have hS0 := hS
    obtain ⟨v, B, SD, MV, TB, TW, hA, ⟨f0, f3, f4⟩, ⟨i1, i2, i3, i4, i5⟩⟩ := hS0
    have hA0 := hA
    obtain ⟨g0, g1, g3, g4, g5, g6, TR, IN, RW, GR, RG, SG, SR, GO, FA, a2, a7, a8, a9, a10, a11, a12, a13, a14⟩ := hA0
    refine xa_aload_n d_Ref_ago_10 rfl ?_
    refine xa_getf f_Ref_7 d_Ref_ago_11 (by assumption) (by rfl) ?_
    refine xa_iload_n d_Ref_ago_14 rfl ?_
    refine xa_ialdE d_Ref_ago_15 g1 rfl (show p < 169 by omega) (by omega) (i1 p hp) ?_
    have hbp := hZ.b2 p hp
    refine xa_if_eqN (tgt := 21) d_Ref_ago_16 (by decide) (by omega) (fun hb0 => ?_) (fun hb0 => ?_)
    ·
      refine xa_aload_n d_Ref_ago_21 rfl ?_
      refine xa_iload_n d_Ref_ago_22 rfl ?_
      refine xa_aload_n d_Ref_ago_23 rfl ?_
      refine xa_callVr (As := []) (st := [.int (nI p), .ref r]) d_Ref_ago_24 k_Ref_107 g0 (c_Ref_turnNow hS hZ.1.2.1 hZ.1.2.2) rfl rfl (Nat.le_of_ble_eq_true rfl) ⟨by decide, by decide⟩ (by decide) (by decide) ?_
      refine xa_callV (As := [.int (nI p), .int (nI (gx_turn fs m))]) (st := []) d_Ref_ago_27 k_Ref_111 g0 (c_Ref_attempt g0 g1 a2 a13 a7 a8 hn hp hb0 hsd hZ.b2 i1) rfl rfl (Nat.le_of_ble_eq_true rfl) ⟨by decide, by decide⟩ (by decide) (by decide) (fun v' h' sz' hq => ?_)
      obtain ⟨e1, hAt, e2⟩ := hq
      rw [e1, e2]
      obtain ⟨v', t, k, ls, TR', hA', hT, ht, hv', hk1, hk2, gTR, hF⟩ := hA.At hAt
      have q0 := hA'.1
      have f3' : v' 3 = m := (hv' 3 (by omega) (by omega) (by omega)).trans f3
      have hS' : xR_S D h' r n fs b m bd pt tb tw 0 := ⟨v', B, SD, MV, TB, TW, hA', ⟨(hv' 0 (by omega) (by omega) (by omega)).trans f0, f3', (hv' 4 (by omega) (by omega) (by omega)).trans f4⟩, ⟨i1, i2, i3, i4, i5⟩⟩
      refine xa_aload_n d_Ref_ago_30 rfl ?_
      refine xa_callV (As := []) (st := []) d_Ref_ago_31 k_Ref_115 q0 (c_Ref_latest q0 f3' gTR hA'.2.2.1 hn hZ.1.2.2 (fun i hi q hq => ⟨i2 i hi q hq, hZ.2.2.1 i hi q hq⟩) (fun q hq => ⟨ht q hq, (gq_T_le hZ.b2 hsd hT).1 q hq⟩)) rfl rfl (Nat.le_of_ble_eq_true rfl) ⟨by decide, by decide⟩ (by decide) (by decide) (fun v'' h'' sz'' hq => ?_)
      obtain ⟨hv, e1, e2⟩ := hq
      rw [e1, e2]
      rcases hv with ⟨hv, hno⟩ | ⟨j, hj, hv, hs, hlast⟩
      · rw [hv]
        refine xa_int (y := -1) rfl ?_
        refine xa_istore_n d_Ref_ago_34 rfl rfl ?_
        refine xa_iload_n d_Ref_ago_35 rfl ?_
        refine xa_if_ge (tgt := 43) d_Ref_ago_36 (by decide) (fun hz2 => ?_) (fun hz2 => ?_)
        · exact absurd hz2 (by decide)
        ·
          refine xa_iconst (v := -1) d_Ref_ago_39 rfl ?_
          refine xa_goto (tgt := 49) d_Ref_ago_40 (by decide) ?_
          exact xa_ireturn d_Ref_ago_49 rfl (by decide) (by decide) ⟨Or.inr ⟨hb0, t, k, ls, hT, Or.inl ⟨rfl, hno⟩⟩, hS', gr_F_tr hF1 hF, rfl⟩
      · rw [hv]
        refine xa_int (y := nI j) rfl ?_
        have hm := hZ.1.2.2
        refine xa_istore_n d_Ref_ago_34 rfl rfl ?_
        refine xa_iload_n d_Ref_ago_35 rfl ?_
        refine xa_if_ge (tgt := 43) d_Ref_ago_36 (by decide) (fun hz2 => ?_) (fun hz2 => ?_)
        ·
          refine xa_aload_n d_Ref_ago_43 rfl ?_
          refine xa_getf f_Ref_96 d_Ref_ago_44 (by assumption) (by rfl) ?_
          refine xa_int (y := nI m) (by rw [f3']) ?_
          refine xa_iload_n d_Ref_ago_47 rfl ?_
          refine xa_isubN d_Ref_ago_48 (by omega) ?_
          exact xa_ireturn d_Ref_ago_49 rfl (by decide) (by decide) ⟨Or.inr ⟨hb0, t, k, ls, hT, Or.inr ⟨j, hj, rfl, hs, hlast⟩⟩, hS', gr_F_tr hF1 hF, rfl⟩
        · refine absurd ?_ hz2
          rw [Int32.le_iff_toInt_le, nI_toInt (by omega)]
          have e0 : (0 : Int32).toInt = 0 := by decide
          omega
    ·
      refine xa_iconst (v := -1) d_Ref_ago_19 rfl ?_
      exact xa_ireturn d_Ref_ago_20 rfl (by decide) (by decide) ⟨Or.inl ⟨by omega, rfl⟩, hS, hF1, rfl⟩
  · omega
theorem c_Ref_agoX {x : Int32} (hS : xR_S D h r n fs b m bd pt tb tw cd) (hx : x < 0 ∨ nI (n * n) ≤ x) :
    xa_M l D H0 M_Ref_ago 4 98 0 0 [.ref r, .int x] h sz (fun v h' sz' => v = some (.int (nI 0)) ∧ xR_S D h' r n fs b m bd pt tb tw 1 ∧ xR_F h h' r ∧ sz' = sz) := by
  obtain ⟨v, h0, e0, e3, e4, hc⟩ := hS.code
  refine xa_enter (by decide) rfl rfl ?_
  refine xa_aload_n d_Ref_ago_0 rfl ?_
  refine xa_iload_n d_Ref_ago_1 rfl ?_
  refine xa_callV (As := [.int x]) (st := []) d_Ref_ago_2 k_Ref_118 h0 (c_Ref_noPointX hS hx) rfl rfl (Nat.le_of_ble_eq_true rfl) ⟨by decide, by decide⟩ (by decide) (by decide) (fun v' h' sz' hq => ?_)
  obtain ⟨e1, hS', hF, e2⟩ := hq
  rw [e1, e2]
  refine xa_if_eqN (tgt := 10) d_Ref_ago_5 (by decide) (by omega) (fun hz => ?_) (fun hz => ?_)
  · omega
  ·
    refine xa_iconst (v := nI 0) d_Ref_ago_8 rfl ?_
    exact xa_ireturn d_Ref_ago_9 rfl (by decide) (by decide) ⟨rfl, hS', hF, rfl⟩
end RW
