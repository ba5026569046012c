/-! Life: noteStringsOf, countRegionsOfStrings, letStringsFall, letRegionsFall. -/
def xj_h (D : va_G) (h : xa_H) (lf N : Nat) (ST BT RG : Nat → Int32) : xa_H := xa_u (xa_u (xa_u h (lf + 6) (.inl (D.1 102, N, .inl ST))) (lf + 7) (.inl (D.1 100, 4 * N, .inl BT))) (lf + 8) (.inl (D.1 100, N, .inl RG))
section JH
variable {D : va_G} {h : xa_H} {lf N : Nat} {ST BT RG : Nat → Int32}
theorem xj_hn {q : Nat} (h1 : q < lf + 6 ∨ lf + 9 ≤ q) : xj_h D h lf N ST BT RG q = h q := xa_u_ne (xa_u_ne (xa_u_ne rfl (by omega)) (by omega)) (by omega)
theorem xj_6 : xj_h D h lf N ST BT RG (lf + 6) = some (.inl (D.1 102, N, .inl ST)) := xa_u_ne (xa_u_ne (xa_u_eq _ _ _) (by omega)) (by omega)
theorem xj_7 : xj_h D h lf N ST BT RG (lf + 7) = some (.inl (D.1 100, 4 * N, .inl BT)) := xa_u_ne (xa_u_eq _ _ _) (by omega)
theorem xj_8 : xj_h D h lf N ST BT RG (lf + 8) = some (.inl (D.1 100, N, .inl RG)) := xa_u_eq _ _ _
theorem xj_u6 (X : Nat → Int32) : xa_u (xj_h D h lf N ST BT RG) (lf + 6) (.inl (D.1 102, N, .inl X)) = xj_h D h lf N X BT RG := by
  unfold xj_h
  rw [xa_sw _ (show lf + 8 ≠ lf + 6 by omega), xa_uc _ (show lf + 6 ≠ lf + 7 by omega)]
theorem xj_u7 (X : Nat → Int32) : xa_u (xj_h D h lf N ST BT RG) (lf + 7) (.inl (D.1 100, 4 * N, .inl X)) = xj_h D h lf N ST X RG := xa_uc _ (by omega) _ _ _
theorem xj_u8 (X : Nat → Int32) : xa_u (xj_h D h lf N ST BT RG) (lf + 8) (.inl (D.1 100, N, .inl X)) = xj_h D h lf N ST BT X := xa_uu _ _ _ _
theorem xj_R {n g aK c : Nat} {f A O S : Nat → Int32} {kb : Nat → Nat} (hr : xl_R D h n lf g aK c f A O S kb) (hlt : g + 1 < lf) : xl_R D (xj_h D h lf N ST BT RG) n lf g aK c f A O S kb := hr.frame (fun q hq => xj_hn (by omega))
theorem xj_0 (h6 : h (lf + 6) = some (.inl (D.1 102, N, .inl ST))) (h7 : h (lf + 7) = some (.inl (D.1 100, 4 * N, .inl BT))) (h8 : h (lf + 8) = some (.inl (D.1 100, N, .inl RG))) : xj_h D h lf N ST BT RG = h := by
  unfold xj_h
  rw [xa_us _ h6, xa_us _ h7, xa_us _ h8]
end JH
/-- the ways of a region up to w are noted -/
def gl_N (n c : Nat) (kb ar : Nat → Nat) (p r w : Nat) (BT : Nat → Int32) : Prop :=
  (∀ v, v < w → BT (4 * r + v) = -1 ∨ ∃ g y, g < c ∧ BT (4 * r + v) = nI g ∧ kb p = 0 ∧ gl_ba n ar r g ∧ y < n * n ∧ ar y = g ∧ kb y = 1) ∧ (∀ v v', v < w → v' < w → BT (4 * r + v) = BT (4 * r + v') → BT (4 * r + v) ≠ -1 → v = v') ∧ (kb p = 0 → ∀ v y, v < w → gb_nb n p v = some y → kb y = 1 → gl_ba n ar r (ar y) → ∃ v', v' < w ∧ BT (4 * r + v') = nI (ar y))
/-- a region's strings are noted -/
def gl_BT (n c : Nat) (kb ar o s : Nat → Nat) (BT : Nat → Int32) (r : Nat) : Prop :=
  (∀ v, v < 4 → BT (4 * r + v) = -1 ∨ ∃ g, g < c ∧ BT (4 * r + v) = nI g ∧ kb (o (s r)) = 0 ∧ kb (o (s g)) = 1 ∧ gl_ba n ar r g) ∧ (∀ v v', v < 4 → v' < 4 → BT (4 * r + v) = BT (4 * r + v') → BT (4 * r + v) ≠ -1 → v = v') ∧ (∀ g, g < c → kb (o (s r)) = 0 → kb (o (s g)) = 1 → gl_ba n ar r g → ∃ v, v < 4 ∧ BT (4 * r + v) = nI g)
theorem gl_kb {n c : Nat} {kb ar o s : Nat → Nat} (w1 : gs_W n (fun q => nI (kb q)) c ar o s) (hb : ∀ q, q < n * n → kb q ≤ 1) {x : Nat} (hx : x < n * n) : kb x = kb (o (s (ar x))) := by
  obtain ⟨a1, a2, a3, a4, a5⟩ := gs_W_area w1 (w1.1 x hx)
  exact gb_b_eq a3 (fun q hq => by have := hb q hq; omega) ((w1.2.1 _ _ a3 hx).mp a4)
theorem gl_N_4 {n c : Nat} {kb ar o s : Nat → Nat} {r : Nat} {BT : Nat → Int32} (w1 : gs_W n (fun q => nI (kb q)) c ar o s) (hb : ∀ q, q < n * n → kb q ≤ 1) (hr : r < c) (h : gl_N n c kb ar (o (s r)) r 4 BT) : gl_BT n c kb ar o s BT r := by
  obtain ⟨a1, a2, a3, a4, a5⟩ := gs_W_area w1 hr
  refine ⟨fun v hv => ?_, h.2.1, fun g hg h0 h1 hba => ?_⟩
  · rcases h.1 v hv with e | ⟨g, y, e1, e2, e3, e4, e5, e6, e7⟩
    · exact Or.inl e
    · exact Or.inr ⟨g, e1, e2, e3, by rw [← e6, ← gl_kb w1 hb e5]; exact e7, e4⟩
  · obtain ⟨v, y, hv, hy, hay⟩ := hba _ a3 a4
    have hyN := gb_nb_lt a3 hv hy
    have := h.2.2 h0 v y hv hy (by rw [gl_kb w1 hb hyN, hay]; exact h1) (by rw [hay]; exact hba)
    rw [hay] at this
    exact this
theorem gl_N_no {n c : Nat} {kb ar : Nat → Nat} {p r w : Nat} {BT : Nat → Int32} (hw : w < 4) (h : gl_N n c kb ar p r w BT) (hno : kb p = 0 → ∀ y, gb_nb n p w = some y → kb y = 1 → gl_ba n ar r (ar y) → ∃ v', v' < w ∧ BT (4 * r + v') = nI (ar y)) : gl_N n c kb ar p r (w + 1) (upd BT (4 * r + w) (-1)) := by
  have u1 : ∀ v, v < w → upd BT (4 * r + w) (-1) (4 * r + v) = BT (4 * r + v) := fun v hv => if_neg (by omega)
  have u2 : upd BT (4 * r + w) (-1) (4 * r + w) = -1 := if_pos rfl
  refine ⟨fun v hv => ?_, fun v v' hv hv' he hne => ?_, fun h0 v y hv hy hk hba => ?_⟩
  · by_cases hvw : v = w
    · rw [hvw, u2]; exact Or.inl rfl
    · rw [u1 v (by omega)]; exact h.1 v (by omega)
  · by_cases hvw : v = w
    · rw [hvw, u2] at hne; exact absurd rfl hne
    · by_cases hvw' : v' = w
      · rw [he, hvw', u2] at hne; exact absurd rfl hne
      · rw [u1 v (by omega)] at he hne
        rw [u1 v' (by omega)] at he
        exact h.2.1 v v' (by omega) (by omega) he hne
  · have : ∃ v', v' < w ∧ BT (4 * r + v') = nI (ar y) := by
      by_cases hvw : v = w
      · rw [hvw] at hy; exact hno h0 y hy hk hba
      · exact h.2.2 h0 v y (by omega) hy hk hba
    obtain ⟨v', hv', e⟩ := this
    exact ⟨v', by omega, by rw [u1 v' hv']; exact e⟩
theorem gl_N_yes {n c : Nat} {kb ar : Nat → Nat} {p r w y : Nat} {BT : Nat → Int32} (hw : w < 4) (h : gl_N n c kb ar p r w BT) (hg : ar y < c) (hy : gb_nb n p w = some y) (hyN : y < n * n) (hk : kb y = 1) (h0 : kb p = 0) (hba : gl_ba n ar r (ar y)) (hne : nI (ar y) ≠ -1) (hno : ∀ v, v < w → BT (4 * r + v) ≠ nI (ar y)) : gl_N n c kb ar p r (w + 1) (upd BT (4 * r + w) (nI (ar y))) := by
  have u1 : ∀ v, v < w → upd BT (4 * r + w) (nI (ar y)) (4 * r + v) = BT (4 * r + v) := fun v hv => if_neg (by omega)
  have u2 : upd BT (4 * r + w) (nI (ar y)) (4 * r + w) = nI (ar y) := if_pos rfl
  refine ⟨fun v hv => ?_, fun v v' hv hv' he hne => ?_, fun h0 v y' hv hy' hk' hba' => ?_⟩
  · by_cases hvw : v = w
    · rw [hvw, u2]; exact Or.inr ⟨ar y, y, hg, rfl, h0, hba, hyN, rfl, hk⟩
    · rw [u1 v (by omega)]; exact h.1 v (by omega)
  · by_cases hvw : v = w
    · by_cases hvw' : v' = w
      · omega
      · rw [hvw, u2, u1 v' (by omega)] at he
        exact absurd he.symm (hno v' (by omega))
    · by_cases hvw' : v' = w
      · rw [hvw', u2, u1 v (by omega)] at he
        exact absurd he (hno v (by omega))
      · rw [u1 v (by omega)] at he hne
        rw [u1 v' (by omega)] at he
        exact h.2.1 v v' (by omega) (by omega) he hne
  · by_cases hvw : v = w
    · rw [hvw, hy] at hy'
      cases hy'
      exact ⟨w, by omega, u2⟩
    · obtain ⟨v', hv', e⟩ := h.2.2 h0 v y' (by omega) hy' hk' hba'
      exact ⟨v', by omega, by rw [u1 v' hv']; exact e⟩
section LF2
variable {l : Launch} {D : va_G} {H0 : Heap} {h : xa_H} {sz : Nat} {R : Room} {n lf g aK c : Nat} {f A O S : Nat → Int32} {kb ar o s : Nat → Nat}
theorem w_noteStrings {r : Nat} {ST RG BT0 : Nat → Int32} (hR : 3 ≤ R.frames ∧ 69 ≤ R.locals) (hr : xl_R D h n lf g aK c f A O S kb) (hlt : g + 1 < lf) (hW : xt_W n (fun q => nI (kb q)) c ar o s A O S) (hrc : r < c) (w : Nat) (hw : w ≤ 4) (BT : Nat → Int32) (hB : gl_N n c kb ar (o (s r)) r w BT) (hB0 : ∀ i, i < 4 * r → BT i = BT0 i) :
    xa_X l D H0 M_Life_noteStringsOf R (xa_Zr D H0 0 0 (fun v h' sz' => ∃ BT, gl_BT n c kb ar o s BT r ∧ (∀ i, i < 4 * r → BT i = BT0 i) ∧ v = none ∧ h' = xj_h D h lf (n * n) ST BT RG ∧ sz' = sz)) 0 0 (xj_h D h lf (n * n) ST BT RG) sz 6 [(0, .ref lf), (1, .int (nI r)), (2, .int (nI (4 * r))), (3, .int (nI w))] [] := by
  have hr' := xj_R (N := n * n) (ST := ST) (BT := BT) (RG := RG) hr hlt
  obtain ⟨r1, r2, r3, r4, r5, r6, r7, r8, hN, hf, hb⟩ := id hr'
  obtain ⟨w1, w2, w3, w4⟩ := id hW
  have hcN : c ≤ n * n := w1.2.2.2.2.2.2.2.2.2.2
  obtain ⟨a1, a2, a3, a4, a5⟩ := gs_W_area w1 hrc
  refine xa_iload_n d_Life_noteStringsOf_6 rfl ?_
  refine xa_iconst (v := nI 4) d_Life_noteStringsOf_7 rfl ?_
  refine xa_icmp_geN (tgt := 111) d_Life_noteStringsOf_8 (by decide) (by omega) (by omega) (fun hb4 => ?_) (fun hb4 => ?_)
  · have hw4 : w = 4 := by omega
    subst hw4
    exact xa_return d_Life_noteStringsOf_111 rfl (by omega) (by omega) ⟨BT, gl_N_4 w1 hb hrc hB, hB0, rfl, rfl, rfl⟩
  ·
    refine xa_aload_n d_Life_noteStringsOf_11 rfl ?_
    refine xa_getf f_Life_9 d_Life_noteStringsOf_12 (by assumption) (by rfl) ?_
    refine xa_aload_n d_Life_noteStringsOf_15 rfl ?_
    refine xa_getf f_Life_33 d_Life_noteStringsOf_16 (by assumption) (by rfl) ?_
    refine xa_iload_n d_Life_noteStringsOf_19 rfl ?_
    refine xa_callVr (As := [.int (nI r)]) (st := [.ref g]) d_Life_noteStringsOf_20 k_Life_73 r3 (c_Areas_leastOf (o := o) (s := s) r3 r5 r6 hN (by omega) (w4 _ (by omega)) a1 (w3 _ a1)) rfl rfl (Nat.le_of_ble_eq_true rfl) ⟨by have := hR.1; show 0 + 1 ≤ _; omega, by have := hR.2; show 8 + (2 + 11) + 0 ≤ _; omega⟩ (by omega) (by omega) ?_
    refine xa_iload_n d_Life_noteStringsOf_23 rfl ?_
    refine xa_callVr (As := [.int (nI (o (s r))), .int (nI w)]) (st := []) d_Life_noteStringsOf_24 k_Life_76 r7 (c_Grid_neighbour r7 r8 hN a3 hb4) rfl rfl (Nat.le_of_ble_eq_true rfl) ⟨by have := hR.1; show 0 + 1 ≤ _; omega, by have := hR.2; show 8 + (3 + 11) + 0 ≤ _; omega⟩ (by omega) (by omega) ?_
    have hv := hf (o (s r)) w a3 hb4
    have again : ∀ (BT' : Nat → Int32), gl_N n c kb ar (o (s r)) r (w + 1) BT' → (∀ i, i < 4 * r → BT' i = BT0 i) → ∀ lsx, xa_lk lsx 0 = some (.ref lf) → xa_lk lsx 1 = some (.int (nI r)) → xa_lk lsx 2 = some (.int (nI (4 * r))) → xa_lk lsx 3 = some (.int (nI w)) → xa_X l D H0 M_Life_noteStringsOf R (xa_Zr D H0 0 0 (fun v h' sz' => ∃ BT, gl_BT n c kb ar o s BT r ∧ (∀ i, i < 4 * r → BT i = BT0 i) ∧ v = none ∧ h' = xj_h D h lf (n * n) ST BT RG ∧ sz' = sz)) 0 0 (xj_h D h lf (n * n) ST BT' RG) sz 105 lsx [] := by
      intro BT' hB' hB0' lsx l0 l1 l2 l3
      refine xa_ls (ls' := [(0, .ref lf), (1, .int (nI r)), (2, .int (nI (4 * r))), (3, .int (nI w))]) ⟨l0, l1, l2, l3, trivial⟩ ?_
      refine xa_iincN d_Life_noteStringsOf_105 rfl rfl rfl ?_
      refine xa_goto (tgt := 6) d_Life_noteStringsOf_108 (by decide) ?_
      exact w_noteStrings hR hr hlt hW hrc (w + 1) (by omega) BT' hB' hB0'
    have hB1 : ∀ i, i < 4 * r → upd BT (4 * r + w) (-1) i = BT0 i := fun i hi => by rw [← hB0 i hi]; exact if_neg (by omega)
    refine xa_istore d_Life_noteStringsOf_27 rfl rfl ?_
    refine xa_aload_n d_Life_noteStringsOf_29 rfl ?_
    refine xa_getf f_Life_41 d_Life_noteStringsOf_30 (by assumption) (by rfl) ?_
    refine xa_iload_n d_Life_noteStringsOf_33 rfl ?_
    refine xa_iload_n d_Life_noteStringsOf_34 rfl ?_
    refine xa_iaddN d_Life_noteStringsOf_35 ?_
    refine xa_iconst (v := -1) d_Life_noteStringsOf_36 rfl ?_
    refine xa_iastE d_Life_noteStringsOf_37 xj_7 rfl (by omega) (by omega) ?_
    refine xa_heap (xj_u7 _) ?_
    have hr2 := xj_R (N := n * n) (ST := ST) (BT := upd BT (4 * r + w) (-1)) (RG := RG) hr hlt
    obtain ⟨q1, q2, q3, q4, q5, q6, q7, q8, -⟩ := id hr2
    refine xa_aload_n d_Life_noteStringsOf_38 rfl ?_
    refine xa_iload_n d_Life_noteStringsOf_39 rfl ?_
    refine xa_callVr (As := [.int (nI r)]) (st := []) d_Life_noteStringsOf_40 k_Life_67 q1 (c_Life_kindOf hr2 hW hrc) rfl rfl (Nat.le_of_ble_eq_true rfl) ⟨by have := hR.1; show 1 + 1 ≤ _; omega, by have := hR.2; show 8 + (2 + 11) + 21 ≤ _; omega⟩ (by omega) (by omega) ?_
    have hkp := hb _ a3
    refine xa_if_neN (tgt := 105) d_Life_noteStringsOf_43 (by decide) (by omega) (fun hz => ?_) (fun hz => ?_)
    · exact again _ (gl_N_no hb4 hB (fun h0 => by omega)) hB1 _ rfl rfl rfl rfl
    · refine xa_iload d_Life_noteStringsOf_46 rfl ?_
      cases hnb : gb_nb n (o (s r)) w with
      | none =>
        rw [hnb] at hv
        refine xa_int (show f (4 * o (s r) + w) = -1 from hv) ?_
        refine xa_iconst (v := -1) d_Life_noteStringsOf_48 rfl ?_
        refine xa_icmp_eq (tgt := 105) d_Life_noteStringsOf_49 (by decide) (fun hz2 => ?_) (fun hz2 => ?_)
        · exact again _ (gl_N_no hb4 hB (fun _ y hy => by rw [hnb] at hy; cases hy)) hB1 _ rfl rfl rfl rfl
        · exact absurd rfl hz2
      | some y =>
        rw [hnb] at hv
        have hy := gb_nb_lt a3 hb4 hnb
        have hky := hb y hy
        have hay := w1.1 y hy
        refine xa_ls (ls' := [(0, .ref lf), (1, .int (nI r)), (2, .int (nI (4 * r))), (3, .int (nI w)), (4, .int (nI y))]) ⟨rfl, rfl, rfl, rfl, by rw [← (show f (4 * o (s r) + w) = nI y from hv)]; rfl, trivial⟩ ?_
        refine xa_int (show f (4 * o (s r) + w) = nI y from hv) ?_
        refine xa_iconst (v := -1) d_Life_noteStringsOf_48 rfl ?_
        refine xa_icmp_eq (tgt := 105) d_Life_noteStringsOf_49 (by decide) (fun hz2 => ?_) (fun hz2 => ?_)
        · exact absurd hz2 (gb_m1 (by omega))
        ·
          refine xa_aload_n d_Life_noteStringsOf_52 rfl ?_
          refine xa_getf f_Life_25 d_Life_noteStringsOf_53 (by assumption) (by rfl) ?_
          refine xa_iload d_Life_noteStringsOf_56 rfl ?_
          refine xa_ialdE d_Life_noteStringsOf_58 q2 rfl hy (by omega) rfl ?_
          refine xa_iconst (v := nI 1) d_Life_noteStringsOf_59 rfl ?_
          refine xa_icmp_neN (tgt := 105) d_Life_noteStringsOf_60 (by decide) (by omega) (by omega) (fun hz3 => ?_) (fun hz3 => ?_)
          · exact again _ (gl_N_no hb4 hB (fun _ y' hy' hk' => by rw [hnb] at hy'; cases hy'; exact absurd hk' hz3)) hB1 _ rfl rfl rfl rfl
          ·
            refine xa_aload_n d_Life_noteStringsOf_63 rfl ?_
            refine xa_getf f_Life_33 d_Life_noteStringsOf_64 (by assumption) (by rfl) ?_
            refine xa_iload d_Life_noteStringsOf_67 rfl ?_
            refine xa_callVr (As := [.int (nI y)]) (st := []) d_Life_noteStringsOf_69 k_Life_63 q3 (c_Areas_areaAt q3 q4 hN hy (w2 y hy)) rfl rfl (Nat.le_of_ble_eq_true rfl) ⟨by have := hR.1; show 0 + 1 ≤ _; omega, by have := hR.2; show 8 + (2 + 11) + 0 ≤ _; omega⟩ (by omega) (by omega) ?_
            refine xa_istore d_Life_noteStringsOf_72 rfl rfl ?_
            refine xa_aload_n d_Life_noteStringsOf_74 rfl ?_
            refine xa_iload d_Life_noteStringsOf_75 rfl ?_
            refine xa_iload_n d_Life_noteStringsOf_77 rfl ?_
            refine xa_iload_n d_Life_noteStringsOf_78 rfl ?_
            refine xa_callV (As := [.int (nI (ar y)), .int (nI (4 * r)), .int (nI w)]) (st := []) d_Life_noteStringsOf_79 k_Life_80 q1 (c_Life_isNoted (n := n) q1 xj_7 hN (by omega)) rfl rfl (Nat.le_of_ble_eq_true rfl) ⟨by have := hR.1; show 0 + 1 ≤ _; omega, by have := hR.2; show 8 + (5 + 11) + 0 ≤ _; omega⟩ (by omega) (by omega) (fun v h' sz' hq => ?_)
            obtain ⟨hv2, e2, e3⟩ := hq
            rw [e2, e3]
            have u1 : ∀ v, v < w → upd BT (4 * r + w) (-1) (4 * r + v) = BT (4 * r + v) := fun v hv => if_neg (by omega)
            rcases hv2 with ⟨hv2, v', hv', hnt⟩ | ⟨hv2, hnt⟩
            · rw [hv2]
              refine xa_int (y := nI 1) rfl ?_
              refine xa_if_neN (tgt := 105) d_Life_noteStringsOf_82 (by decide) (by omega) (fun hz4 => ?_) (fun hz4 => ?_)
              · exact again _ (gl_N_no hb4 hB (fun _ y' hy' hk' _ => by rw [hnb] at hy'; cases hy'; exact ⟨v', hv', by rw [← u1 v' hv']; exact hnt⟩)) hB1 _ rfl rfl rfl rfl
              · omega
            · rw [hv2]
              refine xa_int (y := nI 0) rfl ?_
              refine xa_if_neN (tgt := 105) d_Life_noteStringsOf_82 (by decide) (by omega) (fun hz4 => ?_) (fun hz4 => ?_)
              · omega
              ·
                refine xa_aload_n d_Life_noteStringsOf_85 rfl ?_
                refine xa_iload_n d_Life_noteStringsOf_86 rfl ?_
                refine xa_iload d_Life_noteStringsOf_87 rfl ?_
                refine xa_callV (As := [.int (nI r), .int (nI (ar y))]) (st := []) d_Life_noteStringsOf_89 k_Life_84 q1 (c_Life_belongs hr2 hW hrc hay) rfl rfl (Nat.le_of_ble_eq_true rfl) ⟨hR.1, hR.2⟩ (by omega) (by omega) (fun v h' sz' hq => ?_)
                obtain ⟨hv3, e2, e3⟩ := hq
                rw [e2, e3]
                rcases hv3 with ⟨hv3, hba⟩ | ⟨hv3, hba⟩
                · rw [hv3]
                  refine xa_int (y := nI 1) rfl ?_
                  refine xa_if_eqN (tgt := 105) d_Life_noteStringsOf_92 (by decide) (by omega) (fun hz5 => ?_) (fun hz5 => ?_)
                  · omega
                  ·
                    refine xa_aload_n d_Life_noteStringsOf_95 rfl ?_
                    refine xa_getf f_Life_41 d_Life_noteStringsOf_96 (by assumption) (by rfl) ?_
                    refine xa_iload_n d_Life_noteStringsOf_99 rfl ?_
                    refine xa_iload_n d_Life_noteStringsOf_100 rfl ?_
                    refine xa_iaddN d_Life_noteStringsOf_101 ?_
                    refine xa_iload d_Life_noteStringsOf_102 rfl ?_
                    refine xa_iastE d_Life_noteStringsOf_104 xj_7 rfl (by omega) (by omega) ?_
                    refine xa_heap (xj_u7 _) ?_
                    have huu : upd (upd BT (4 * r + w) (-1)) (4 * r + w) (nI (ar y)) = upd BT (4 * r + w) (nI (ar y)) := by
                      funext i
                      show (if i = 4 * r + w then _ else (if i = 4 * r + w then _ else _)) = (if i = 4 * r + w then _ else _)
                      split <;> rfl
                    rw [huu]
                    exact again _ (gl_N_yes hb4 hB hay hnb hy hz3 hz hba (gb_m1 (by omega)) (fun v hv => by rw [← u1 v hv]; exact hnt v hv)) (fun i hi => by rw [← hB0 i hi]; exact if_neg (by omega)) _ rfl rfl rfl rfl
                · rw [hv3]
                  refine xa_int (y := nI 0) rfl ?_
                  refine xa_if_eqN (tgt := 105) d_Life_noteStringsOf_92 (by decide) (by omega) (fun hz5 => ?_) (fun hz5 => ?_)
                  · exact again _ (gl_N_no hb4 hB (fun _ y' hy' hk' hb' => by rw [hnb] at hy'; cases hy'; exact absurd hb' hba)) hB1 _ rfl rfl rfl rfl
                  · omega
termination_by 4 - w
decreasing_by omega
theorem c_Life_noteStrings {r : Nat} {ST RG BT : Nat → Int32} (hr : xl_R D h n lf g aK c f A O S kb) (hlt : g + 1 < lf) (hW : xt_W n (fun q => nI (kb q)) c ar o s A O S) (hrc : r < c) :
    xa_M l D H0 M_Life_noteStringsOf 3 69 0 0 [.ref lf, .int (nI r)] (xj_h D h lf (n * n) ST BT RG) sz (fun v h' sz' => ∃ BT', gl_BT n c kb ar o s BT' r ∧ (∀ i, i < 4 * r → BT' i = BT i) ∧ v = none ∧ h' = xj_h D h lf (n * n) ST BT' RG ∧ sz' = sz) := by
  refine xa_enter (by decide) rfl rfl ?_
  refine xa_iconst (v := nI 4) d_Life_noteStringsOf_0 rfl ?_
  refine xa_iload_n d_Life_noteStringsOf_1 rfl ?_
  refine xa_imulN d_Life_noteStringsOf_2 ?_
  refine xa_istore_n d_Life_noteStringsOf_3 rfl rfl ?_
  refine xa_iconst (v := nI 0) d_Life_noteStringsOf_4 rfl ?_
  refine xa_istore_n d_Life_noteStringsOf_5 rfl rfl ?_
  refine xa_ls ?_ (w_noteStrings (BT0 := BT) ⟨by decide, by decide⟩ hr hlt hW hrc 0 (by omega) BT ⟨fun v hv => absurd hv (Nat.not_lt_zero _), fun v v' hv => absurd hv (Nat.not_lt_zero _), fun _ v y hv => absurd hv (Nat.not_lt_zero _)⟩ (fun _ _ => rfl))
  exact ⟨rfl, rfl, rfl, rfl, trivial⟩
end LF2
