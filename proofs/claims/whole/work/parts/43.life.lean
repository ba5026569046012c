/-! Life: kindOf, isNoted, isBeside, belongs, standsAt, isBesideFallenString. -/
/-- what life reads -/
def xl_R (D : va_G) (h : xa_H) (n lf g aK c : Nat) (f A O S : Nat → Int32) (kb : Nat → Nat) : Prop :=
  h lf = some (.inr (5, [.ref g, .ref aK, .ref (lf + 1), .ref (lf + 2), .ref (lf + 6), .ref (lf + 7), .ref (lf + 8)])) ∧ h (lf + 1) = some (.inl (D.1 100, n * n, .inl (fun q => nI (kb q)))) ∧ h (lf + 2) = some (.inr (1, [.int (nI c), .ref g, .ref (lf + 3), .ref (lf + 4), .ref (lf + 5)])) ∧ h (lf + 3) = some (.inl (D.1 100, n * n, .inl A)) ∧ h (lf + 4) = some (.inl (D.1 100, n * n, .inl O)) ∧ h (lf + 5) = some (.inl (D.1 100, n * n + 1, .inl S)) ∧
  h g = some (.inr (3, [.int (nI (n * n)), .ref (g + 1)])) ∧ h (g + 1) = some (.inl (D.1 100, 4 * (n * n), .inl f)) ∧ n * n < 1000 ∧ (∀ q w, q < n * n → w < 4 → f (4 * q + w) = gb_oi (gb_nb n q w)) ∧ ∀ q, q < n * n → kb q ≤ 1
theorem xl_R.frame {D : va_G} {h h' : xa_H} {n lf g aK c : Nat} {f A O S : Nat → Int32} {kb : Nat → Nat} (hr : xl_R D h n lf g aK c f A O S kb) (hf : ∀ q, (q = g ∨ q = g + 1 ∨ (lf ≤ q ∧ q ≤ lf + 5)) → h' q = h q) : xl_R D h' n lf g aK c f A O S kb := by
  obtain ⟨r1, r2, r3, r4, r5, r6, r7, r8, hx⟩ := hr
  refine ⟨?_, ?_, ?_, ?_, ?_, ?_, ?_, ?_, hx⟩
  all_goals (rw [hf _ (by omega)]; assumption)
def gl_bs (n : Nat) (ar : Nat → Nat) (p g : Nat) : Prop := ∃ w x, w < 4 ∧ gb_nb n p w = some x ∧ ar x = g
def gl_ba (n : Nat) (ar : Nat → Nat) (r g : Nat) : Prop := ∀ p, p < n * n → ar p = r → gl_bs n ar p g
section LF
variable {l : Launch} {D : va_G} {H0 : Heap} {h : xa_H} {sz : Nat} {R : Room} {n lf g aK c : Nat} {f A O S : Nat → Int32} {kb ar o s : Nat → Nat}
theorem c_Life_kindOf {q : Nat} (hr : xl_R D h n lf g aK c f A O S kb) (hW : xt_W n (fun q => nI (kb q)) c ar o s A O S) (hq : q < c) :
    xa_M l D H0 M_Life_kindOf 1 21 0 0 [.ref lf, .int (nI q)] h sz (fun v h' sz' => v = some (.int (nI (kb (o (s q))))) ∧ h' = h ∧ sz' = sz) := by
  obtain ⟨r1, r2, r3, r4, r5, r6, r7, r8, hN, hf, hb⟩ := hr
  obtain ⟨w1, w2, w3, w4⟩ := hW
  obtain ⟨a1, a2, a3, a4, a5⟩ := gs_W_area w1 hq
  have hcN : c ≤ n * n := w1.2.2.2.2.2.2.2.2.2.2
  refine xa_enter (by decide) rfl rfl ?_
  refine xa_aload_n d_Life_kindOf_0 rfl ?_
  refine xa_getf f_Life_25 d_Life_kindOf_1 (by assumption) (by rfl) ?_
  refine xa_aload_n d_Life_kindOf_4 rfl ?_
  refine xa_getf f_Life_33 d_Life_kindOf_5 (by assumption) (by rfl) ?_
  refine xa_iload_n d_Life_kindOf_8 rfl ?_
  refine xa_callVr (As := [.int (nI q)]) (st := [.ref (lf + 1)]) d_Life_kindOf_9 k_Life_73 r3 (c_Areas_leastOf (o := o) (s := s) r3 r5 r6 hN (by omega) (w4 _ (by omega)) a1 (w3 _ a1)) rfl rfl (Nat.le_of_ble_eq_true rfl) ⟨by decide, by decide⟩ (by decide) (by decide) ?_
  refine xa_ialdE d_Life_kindOf_12 r2 rfl a3 (by omega) rfl ?_
  exact xa_ireturn d_Life_kindOf_13 rfl (by decide) (by decide) ⟨rfl, rfl, rfl⟩
theorem w_isNoted {x y z u v : Value} {BT : Nat → Int32} {gg : Int32} {fr k : Nat} (hl : h lf = some (.inr (5, [x, y, z, u, v, .ref (lf + 7), .ref (lf + 8)]))) (hB : h (lf + 7) = some (.inl (D.1 100, 4 * (n * n), .inl BT))) (hN : n * n < 1000) (hk : fr + k ≤ 4 * (n * n)) (w : Nat) (hw : w ≤ k) (hno : ∀ w', w' < w → BT (fr + w') ≠ gg) :
    xa_X l D H0 M_Life_isNoted R (xa_Zr D H0 0 0 (fun v h' sz' => ((v = some (.int 1) ∧ ∃ w, w < k ∧ BT (fr + w) = gg) ∨ (v = some (.int 0) ∧ ∀ w, w < k → BT (fr + w) ≠ gg)) ∧ h' = h ∧ sz' = sz)) 0 0 h sz 3 [(0, .ref lf), (1, .int gg), (2, .int (nI fr)), (3, .int (nI k)), (4, .int (nI w))] [] := by
  refine xa_iload d_Life_isNoted_3 rfl ?_
  refine xa_iload_n d_Life_isNoted_5 rfl ?_
  refine xa_icmp_geN (tgt := 30) d_Life_isNoted_6 (by decide) (by omega) (by omega) (fun hb => ?_) (fun hb => ?_)
  ·
    refine xa_iconst (v := nI 0) d_Life_isNoted_30 rfl ?_
    exact xa_zreturn (v := nI 0) d_Life_isNoted_31 rfl (by decide) (by omega) (by omega) ⟨Or.inr ⟨rfl, fun w' hw' => hno w' (by omega)⟩, rfl, rfl⟩
  ·
    refine xa_aload_n d_Life_isNoted_9 rfl ?_
    refine xa_getf f_Life_41 d_Life_isNoted_10 (by assumption) (by rfl) ?_
    refine xa_iload_n d_Life_isNoted_13 rfl ?_
    refine xa_iload d_Life_isNoted_14 rfl ?_
    refine xa_iaddN d_Life_isNoted_16 ?_
    refine xa_ialdE d_Life_isNoted_17 hB rfl (by omega) (by omega) rfl ?_
    refine xa_iload_n d_Life_isNoted_18 rfl ?_
    refine xa_icmp_ne (tgt := 24) d_Life_isNoted_19 (by decide) (fun hz => ?_) (fun hz => ?_)
    ·
      refine xa_iincN d_Life_isNoted_24 rfl rfl rfl ?_
      refine xa_goto (tgt := 3) d_Life_isNoted_27 (by decide) ?_
      refine xa_ls ?_ (w_isNoted (gg := gg) hl hB hN hk (w + 1) (by omega) (fun w' hw' => ?_))
      · exact ⟨rfl, rfl, rfl, rfl, rfl, trivial⟩
      · by_cases he : w' = w
        · rw [he]; exact hz
        · exact hno w' (by omega)
    ·
      refine xa_iconst (v := nI 1) d_Life_isNoted_22 rfl ?_
      exact xa_zreturn (v := nI 1) d_Life_isNoted_23 rfl (by decide) (by omega) (by omega) ⟨Or.inl ⟨rfl, w, hb, hz⟩, rfl, rfl⟩
termination_by k - w
decreasing_by omega
theorem c_Life_isNoted {x y z u v : Value} {BT : Nat → Int32} {gg : Int32} {fr k : Nat} (hl : h lf = some (.inr (5, [x, y, z, u, v, .ref (lf + 7), .ref (lf + 8)]))) (hB : h (lf + 7) = some (.inl (D.1 100, 4 * (n * n), .inl BT))) (hN : n * n < 1000) (hk : fr + k ≤ 4 * (n * n)) :
    xa_M l D H0 M_Life_isNoted 0 0 0 0 [.ref lf, .int gg, .int (nI fr), .int (nI k)] h sz (fun v h' sz' => ((v = some (.int 1) ∧ ∃ w, w < k ∧ BT (fr + w) = gg) ∨ (v = some (.int 0) ∧ ∀ w, w < k → BT (fr + w) ≠ gg)) ∧ h' = h ∧ sz' = sz) := by
  refine xa_enter (by decide) rfl rfl ?_
  refine xa_iconst (v := nI 0) d_Life_isNoted_0 rfl ?_
  refine xa_istore d_Life_isNoted_1 rfl rfl ?_
  refine xa_ls ?_ (w_isNoted (gg := gg) hl hB hN hk 0 (by omega) (fun w' hw' => absurd hw' (Nat.not_lt_zero _)))
  exact ⟨rfl, rfl, rfl, rfl, rfl, trivial⟩
theorem w_isBeside {p gg : Nat} (hR : 1 ≤ R.frames ∧ 22 ≤ R.locals) (hr : xl_R D h n lf g aK c f A O S kb) (hW : xt_W n (fun q => nI (kb q)) c ar o s A O S) (hp : p < n * n) (hg : gg < c) (w : Nat) (hw : w ≤ 4) (hno : ∀ v x, v < w → gb_nb n p v = some x → ar x ≠ gg) :
    xa_X l D H0 M_Life_isBeside R (xa_Zr D H0 0 0 (fun v h' sz' => ((v = some (.int 1) ∧ gl_bs n ar p gg) ∨ (v = some (.int 0) ∧ ¬ gl_bs n ar p gg)) ∧ h' = h ∧ sz' = sz)) 0 0 h sz 2 [(0, .ref lf), (1, .int (nI p)), (2, .int (nI gg)), (3, .int (nI w))] [] := by
  obtain ⟨r1, r2, r3, r4, r5, r6, r7, r8, hN, hf, hb⟩ := id hr
  obtain ⟨w1, w2, w3, w4⟩ := id hW
  have hcN : c ≤ n * n := w1.2.2.2.2.2.2.2.2.2.2
  refine xa_iload_n d_Life_isBeside_2 rfl ?_
  refine xa_iconst (v := nI 4) d_Life_isBeside_3 rfl ?_
  refine xa_icmp_geN (tgt := 45) d_Life_isBeside_4 (by decide) (by omega) (by omega) (fun hb4 => ?_) (fun hb4 => ?_)
  ·
    refine xa_iconst (v := nI 0) d_Life_isBeside_45 rfl ?_
    exact xa_zreturn (v := nI 0) d_Life_isBeside_46 rfl (by decide) (by omega) (by omega) ⟨Or.inr ⟨rfl, fun ⟨v, x, h1, h2, h3⟩ => hno v x (by omega) h2 h3⟩, rfl, rfl⟩
  ·
    refine xa_aload_n d_Life_isBeside_7 rfl ?_
    refine xa_getf f_Life_9 d_Life_isBeside_8 (by assumption) (by rfl) ?_
    refine xa_iload_n d_Life_isBeside_11 rfl ?_
    refine xa_iload_n d_Life_isBeside_12 rfl ?_
    refine xa_callVr (As := [.int (nI p), .int (nI w)]) (st := []) d_Life_isBeside_13 k_Life_76 r7 (c_Grid_neighbour r7 r8 hN hp hb4) rfl rfl (Nat.le_of_ble_eq_true rfl) ⟨hR.1, hR.2⟩ (by omega) (by omega) ?_
    have again : (∀ x, gb_nb n p w = some x → ar x ≠ gg) → ∀ z : Int32, xa_X l D H0 M_Life_isBeside R (xa_Zr D H0 0 0 (fun v h' sz' => ((v = some (.int 1) ∧ gl_bs n ar p gg) ∨ (v = some (.int 0) ∧ ¬ gl_bs n ar p gg)) ∧ h' = h ∧ sz' = sz)) 0 0 h sz 39 [(0, .ref lf), (1, .int (nI p)), (2, .int (nI gg)), (3, .int (nI w)), (4, .int z)] [] := by
      intro hs z
      refine xa_iincN d_Life_isBeside_39 rfl rfl rfl ?_
      refine xa_goto (tgt := 2) d_Life_isBeside_42 (by decide) ?_
      refine xa_ls ?_ (w_isBeside hR hr hW hp hg (w + 1) (by omega) (fun v x h0 h1 => ?_))
      · exact ⟨rfl, rfl, rfl, rfl, trivial⟩
      · by_cases hv : v = w
        · subst hv; exact hs x h1
        · exact hno v x (by omega) h1
    have hv := hf p w hp hb4
    cases hnb : gb_nb n p w with
    | none =>
      rw [hnb] at hv
      refine xa_int (show f (4 * p + w) = -1 from hv) ?_
      refine xa_istore d_Life_isBeside_16 rfl rfl ?_
      refine xa_iload d_Life_isBeside_18 rfl ?_
      refine xa_iconst (v := -1) d_Life_isBeside_20 rfl ?_
      refine xa_icmp_eq (tgt := 39) d_Life_isBeside_21 (by decide) (fun hz => ?_) (fun hz => ?_)
      · refine xa_ls ?_ (again (fun x hx => by rw [hnb] at hx; cases hx) (-1))
        exact ⟨rfl, rfl, rfl, rfl, rfl, trivial⟩
      · exact absurd rfl hz
    | some y =>
      rw [hnb] at hv
      have hy := gb_nb_lt hp hb4 hnb
      have hay := w1.1 y hy
      refine xa_int (show f (4 * p + w) = nI y from hv) ?_
      refine xa_istore d_Life_isBeside_16 rfl rfl ?_
      refine xa_iload d_Life_isBeside_18 rfl ?_
      refine xa_iconst (v := -1) d_Life_isBeside_20 rfl ?_
      refine xa_icmp_eq (tgt := 39) d_Life_isBeside_21 (by decide) (fun hz => ?_) (fun hz => ?_)
      · exact absurd hz (gb_m1 (by omega))
      ·
        refine xa_aload_n d_Life_isBeside_24 rfl ?_
        refine xa_getf f_Life_33 d_Life_isBeside_25 (by assumption) (by rfl) ?_
        refine xa_iload d_Life_isBeside_28 rfl ?_
        refine xa_callVr (As := [.int (nI y)]) (st := []) d_Life_isBeside_30 k_Life_63 r3 (c_Areas_areaAt r3 r4 hN hy (w2 y hy)) rfl rfl (Nat.le_of_ble_eq_true rfl) ⟨hR.1, by have := hR.2; show 8 + (2 + 11) + 0 ≤ _; omega⟩ (by omega) (by omega) ?_
        refine xa_iload_n d_Life_isBeside_33 rfl ?_
        refine xa_icmp_neN (tgt := 39) d_Life_isBeside_34 (by decide) (by omega) (by omega) (fun hz2 => ?_) (fun hz2 => ?_)
        · refine xa_ls ?_ (again (fun x hx => by rw [hnb] at hx; cases hx; exact hz2) (nI y))
          exact ⟨rfl, rfl, rfl, rfl, rfl, trivial⟩
        ·
          refine xa_iconst (v := nI 1) d_Life_isBeside_37 rfl ?_
          exact xa_zreturn (v := nI 1) d_Life_isBeside_38 rfl (by decide) (by omega) (by omega) ⟨Or.inl ⟨rfl, w, y, by omega, hnb, hz2⟩, rfl, rfl⟩
termination_by 4 - w
decreasing_by omega
theorem c_Life_isBeside {p gg : Nat} (hr : xl_R D h n lf g aK c f A O S kb) (hW : xt_W n (fun q => nI (kb q)) c ar o s A O S) (hp : p < n * n) (hg : gg < c) :
    xa_M l D H0 M_Life_isBeside 1 22 0 0 [.ref lf, .int (nI p), .int (nI gg)] h sz (fun v h' sz' => ((v = some (.int 1) ∧ gl_bs n ar p gg) ∨ (v = some (.int 0) ∧ ¬ gl_bs n ar p gg)) ∧ h' = h ∧ sz' = sz) := by
  refine xa_enter (by decide) rfl rfl ?_
  refine xa_iconst (v := nI 0) d_Life_isBeside_0 rfl ?_
  refine xa_istore_n d_Life_isBeside_1 rfl rfl ?_
  refine xa_ls ?_ (w_isBeside ⟨by decide, by decide⟩ hr hW hp hg 0 (by omega) (fun v x hv => absurd hv (Nat.not_lt_zero _)))
  exact ⟨rfl, rfl, rfl, rfl, trivial⟩
theorem w_belongs {r gg : Nat} (hR : 2 ≤ R.frames ∧ 46 ≤ R.locals) (hr : xl_R D h n lf g aK c f A O S kb) (hW : xt_W n (fun q => nI (kb q)) c ar o s A O S) (hrc : r < c) (hg : gg < c) (i : Nat) (hi : i ≤ s (r + 1) - s r) (hall : ∀ j, j < i → gl_bs n ar (o (s r + j)) gg) :
    xa_X l D H0 M_Life_belongs R (xa_Zr D H0 0 0 (fun v h' sz' => ((v = some (.int 1) ∧ gl_ba n ar r gg) ∨ (v = some (.int 0) ∧ ¬ gl_ba n ar r gg)) ∧ h' = h ∧ sz' = sz)) 0 0 h sz 2 [(0, .ref lf), (1, .int (nI r)), (2, .int (nI gg)), (3, .int (nI i))] [] := by
  obtain ⟨r1, r2, r3, r4, r5, r6, r7, r8, hN, hf, hb⟩ := id hr
  obtain ⟨w1, w2, w3, w4⟩ := id hW
  have hcN : c ≤ n * n := w1.2.2.2.2.2.2.2.2.2.2
  obtain ⟨a1, a2, a3, a4, a5⟩ := gs_W_area w1 hrc
  have hlt := w1.2.2.2.2.2.2.2.1 _ hrc
  refine xa_iload_n d_Life_belongs_2 rfl ?_
  refine xa_aload_n d_Life_belongs_3 rfl ?_
  refine xa_getf f_Life_33 d_Life_belongs_4 (by assumption) (by rfl) ?_
  refine xa_iload_n d_Life_belongs_7 rfl ?_
  refine xa_callVr (As := [.int (nI r)]) (st := [.int (nI i)]) d_Life_belongs_8 k_Life_70 r3 (c_Areas_sizeOf (s := s) r3 r6 hN (by omega) (w4 _ (by omega)) (w4 (r + 1) (by omega)) (by omega)) rfl rfl (Nat.le_of_ble_eq_true rfl) ⟨by have := hR.1; show 0 + 1 ≤ _; omega, by have := hR.2; show 8 + (2 + 11) + 0 ≤ _; omega⟩ (by omega) (by omega) ?_
  refine xa_icmp_geN (tgt := 39) d_Life_belongs_11 (by decide) (by omega) (by omega) (fun hbi => ?_) (fun hbi => ?_)
  ·
    refine xa_iconst (v := nI 1) d_Life_belongs_39 rfl ?_
    refine xa_zreturn (v := nI 1) d_Life_belongs_40 rfl (by decide) (by omega) (by omega) ⟨Or.inl ⟨rfl, fun p hp hpa => ?_⟩, rfl, rfl⟩
    obtain ⟨j, hj, e⟩ := (a5 p).mp ((w1.2.1 _ _ a3 hp).mp (by rw [a4, hpa]))
    rw [← e]
    exact hall j (by omega)
  · have hpi : o (s r + i) < n * n := w1.2.2.1 _ (by omega)
    have hai : ar (o (s r + i)) = r := w1.2.2.2.2.2.2.2.2.1 r _ hrc (by omega) (by omega)
    refine xa_aload_n d_Life_belongs_14 rfl ?_
    refine xa_aload_n d_Life_belongs_15 rfl ?_
    refine xa_getf f_Life_33 d_Life_belongs_16 (by assumption) (by rfl) ?_
    refine xa_iload_n d_Life_belongs_19 rfl ?_
    refine xa_iload_n d_Life_belongs_20 rfl ?_
    refine xa_callVr (As := [.int (nI r), .int (nI i)]) (st := [.ref lf]) d_Life_belongs_21 k_Life_88 r3 (c_Areas_pointOf (o := o) (s := s) r3 r5 r6 hN (by omega) (w4 _ (by omega)) (by omega) (w3 _ (by omega))) rfl rfl (Nat.le_of_ble_eq_true rfl) ⟨by have := hR.1; show 0 + 1 ≤ _; omega, by have := hR.2; show 8 + (3 + 11) + 0 ≤ _; omega⟩ (by omega) (by omega) ?_
    refine xa_iload_n d_Life_belongs_24 rfl ?_
    refine xa_callV (As := [.int (nI (o (s r + i))), .int (nI gg)]) (st := []) d_Life_belongs_25 k_Life_91 r1 (c_Life_isBeside hr hW hpi hg) rfl rfl (Nat.le_of_ble_eq_true rfl) ⟨by have := hR.1; show 1 + 1 ≤ _; omega, by have := hR.2; show 8 + (5 + 11) + 22 ≤ _; omega⟩ (by omega) (by omega) (fun v h' sz' hq => ?_)
    obtain ⟨hv, e2, e3⟩ := hq
    rw [e2, e3]
    rcases hv with ⟨hv, hbs⟩ | ⟨hv, hbs⟩
    · rw [hv]
      refine xa_int (y := nI 1) rfl ?_
      refine xa_if_neN (tgt := 33) d_Life_belongs_28 (by decide) (by omega) (fun hz => ?_) (fun hz => ?_)
      ·
        refine xa_iincN d_Life_belongs_33 rfl rfl rfl ?_
        refine xa_goto (tgt := 2) d_Life_belongs_36 (by decide) ?_
        refine xa_ls ?_ (w_belongs hR hr hW hrc hg (i + 1) (by omega) (fun j hj => ?_))
        · exact ⟨rfl, rfl, rfl, rfl, trivial⟩
        · by_cases he : j = i
          · rw [he]; exact hbs
          · exact hall j (by omega)
      · omega
    · rw [hv]
      refine xa_int (y := nI 0) rfl ?_
      refine xa_if_neN (tgt := 33) d_Life_belongs_28 (by decide) (by omega) (fun hz => ?_) (fun hz => ?_)
      · omega
      ·
        refine xa_iconst (v := nI 0) d_Life_belongs_31 rfl ?_
        exact xa_zreturn (v := nI 0) d_Life_belongs_32 rfl (by decide) (by omega) (by omega) ⟨Or.inr ⟨rfl, fun z => hbs (z _ hpi hai)⟩, rfl, rfl⟩
termination_by s (r + 1) - s r - i
decreasing_by omega
theorem c_Life_belongs {r gg : Nat} (hr : xl_R D h n lf g aK c f A O S kb) (hW : xt_W n (fun q => nI (kb q)) c ar o s A O S) (hrc : r < c) (hg : gg < c) :
    xa_M l D H0 M_Life_belongs 2 46 0 0 [.ref lf, .int (nI r), .int (nI gg)] h sz (fun v h' sz' => ((v = some (.int 1) ∧ gl_ba n ar r gg) ∨ (v = some (.int 0) ∧ ¬ gl_ba n ar r gg)) ∧ h' = h ∧ sz' = sz) := by
  refine xa_enter (by decide) rfl rfl ?_
  refine xa_iconst (v := nI 0) d_Life_belongs_0 rfl ?_
  refine xa_istore_n d_Life_belongs_1 rfl rfl ?_
  refine xa_ls ?_ (w_belongs ⟨by decide, by decide⟩ hr hW hrc hg 0 (by omega) (fun j hj => absurd hj (Nat.not_lt_zero _)))
  exact ⟨rfl, rfl, rfl, rfl, trivial⟩
theorem c_Life_standsAt {p : Nat} {ST : Nat → Int32} {x : Int32} (hr : xl_R D h n lf g aK c f A O S kb) (hW : xt_W n (fun q => nI (kb q)) c ar o s A O S) (hST : h (lf + 6) = some (.inl (D.1 102, n * n, .inl ST))) (hp : p < n * n) (hx : ST (ar p) = x) (hx2 : x = 0 ∨ x = 1) :
    xa_M l D H0 M_Life_standsAt 1 21 0 0 [.ref lf, .int (nI p)] h sz (fun v h' sz' => v = some (.int x) ∧ h' = h ∧ sz' = sz) := by
  obtain ⟨r1, r2, r3, r4, r5, r6, r7, r8, hN, hf, hb⟩ := id hr
  obtain ⟨w1, w2, w3, w4⟩ := id hW
  have hcN : c ≤ n * n := w1.2.2.2.2.2.2.2.2.2.2
  have hax := w1.1 p hp
  refine xa_enter (by decide) rfl rfl ?_
  refine xa_aload_n d_Life_standsAt_0 rfl ?_
  refine xa_getf f_Life_37 d_Life_standsAt_1 (by assumption) (by rfl) ?_
  refine xa_aload_n d_Life_standsAt_4 rfl ?_
  refine xa_getf f_Life_33 d_Life_standsAt_5 (by assumption) (by rfl) ?_
  refine xa_iload_n d_Life_standsAt_8 rfl ?_
  refine xa_callVr (As := [.int (nI p)]) (st := [.ref (lf + 6)]) d_Life_standsAt_9 k_Life_63 r3 (c_Areas_areaAt r3 r4 hN hp (w2 p hp)) rfl rfl (Nat.le_of_ble_eq_true rfl) ⟨by decide, by decide⟩ (by decide) (by decide) ?_
  refine xa_zaldE d_Life_standsAt_12 hST rfl (show ar p < n * n by omega) (by omega) hx ?_
  exact xa_zreturn d_Life_standsAt_13 rfl (by rcases hx2 with e | e <;> subst e <;> decide) (by decide) (by decide) ⟨rfl, rfl, rfl⟩
def gl_bf (n : Nat) (kb ar : Nat → Nat) (ST : Nat → Int32) (p : Nat) : Prop := ∃ w x, w < 4 ∧ gb_nb n p w = some x ∧ kb x = 1 ∧ ST (ar x) = 0
theorem w_isBesideFallen {p : Nat} {ST : Nat → Int32} (hR : 2 ≤ R.frames ∧ 42 ≤ R.locals) (hr : xl_R D h n lf g aK c f A O S kb) (hW : xt_W n (fun q => nI (kb q)) c ar o s A O S) (hST : h (lf + 6) = some (.inl (D.1 102, n * n, .inl ST))) (hS2 : ∀ a, a < c → ST a = 0 ∨ ST a = 1) (hp : p < n * n) (w : Nat) (hw : w ≤ 4) (hno : ∀ v x, v < w → gb_nb n p v = some x → ¬ (kb x = 1 ∧ ST (ar x) = 0)) :
    xa_X l D H0 M_Life_isBesideFallenString R (xa_Zr D H0 0 0 (fun v h' sz' => ((v = some (.int 1) ∧ gl_bf n kb ar ST p) ∨ (v = some (.int 0) ∧ ¬ gl_bf n kb ar ST p)) ∧ h' = h ∧ sz' = sz)) 0 0 h sz 2 [(0, .ref lf), (1, .int (nI p)), (2, .int (nI w))] [] := by
  obtain ⟨r1, r2, r3, r4, r5, r6, r7, r8, hN, hf, hb⟩ := id hr
  obtain ⟨w1, w2, w3, w4⟩ := id hW
  refine xa_iload_n d_Life_isBesideFallenString_2 rfl ?_
  refine xa_iconst (v := nI 4) d_Life_isBesideFallenString_3 rfl ?_
  refine xa_icmp_geN (tgt := 48) d_Life_isBesideFallenString_4 (by decide) (by omega) (by omega) (fun hb4 => ?_) (fun hb4 => ?_)
  ·
    refine xa_iconst (v := nI 0) d_Life_isBesideFallenString_48 rfl ?_
    exact xa_zreturn (v := nI 0) d_Life_isBesideFallenString_49 rfl (by decide) (by omega) (by omega) ⟨Or.inr ⟨rfl, fun ⟨v, x, h1, h2, h3⟩ => hno v x (by omega) h2 h3⟩, rfl, rfl⟩
  ·
    refine xa_aload_n d_Life_isBesideFallenString_7 rfl ?_
    refine xa_getf f_Life_9 d_Life_isBesideFallenString_8 (by assumption) (by rfl) ?_
    refine xa_iload_n d_Life_isBesideFallenString_11 rfl ?_
    refine xa_iload_n d_Life_isBesideFallenString_12 rfl ?_
    refine xa_callVr (As := [.int (nI p), .int (nI w)]) (st := []) d_Life_isBesideFallenString_13 k_Life_76 r7 (c_Grid_neighbour r7 r8 hN hp hb4) rfl rfl (Nat.le_of_ble_eq_true rfl) ⟨by have := hR.1; show 0 + 1 ≤ _; omega, by have := hR.2; show 8 + (3 + 11) + 0 ≤ _; omega⟩ (by omega) (by omega) ?_
    have again : (∀ x, gb_nb n p w = some x → ¬ (kb x = 1 ∧ ST (ar x) = 0)) → ∀ z : Int32, xa_X l D H0 M_Life_isBesideFallenString R (xa_Zr D H0 0 0 (fun v h' sz' => ((v = some (.int 1) ∧ gl_bf n kb ar ST p) ∨ (v = some (.int 0) ∧ ¬ gl_bf n kb ar ST p)) ∧ h' = h ∧ sz' = sz)) 0 0 h sz 42 [(0, .ref lf), (1, .int (nI p)), (2, .int (nI w)), (3, .int z)] [] := by
      intro hs z
      refine xa_iincN d_Life_isBesideFallenString_42 rfl rfl rfl ?_
      refine xa_goto (tgt := 2) d_Life_isBesideFallenString_45 (by decide) ?_
      refine xa_ls ?_ (w_isBesideFallen hR hr hW hST hS2 hp (w + 1) (by omega) (fun v x h0 h1 => ?_))
      · exact ⟨rfl, rfl, rfl, trivial⟩
      · by_cases hv : v = w
        · subst hv; exact hs x h1
        · exact hno v x (by omega) h1
    have hv := hf p w hp hb4
    cases hnb : gb_nb n p w with
    | none =>
      rw [hnb] at hv
      refine xa_int (show f (4 * p + w) = -1 from hv) ?_
      refine xa_istore_n d_Life_isBesideFallenString_16 rfl rfl ?_
      refine xa_iload_n d_Life_isBesideFallenString_17 rfl ?_
      refine xa_iconst (v := -1) d_Life_isBesideFallenString_18 rfl ?_
      refine xa_icmp_eq (tgt := 42) d_Life_isBesideFallenString_19 (by decide) (fun hz => ?_) (fun hz => ?_)
      · refine xa_ls ?_ (again (fun x hx => by rw [hnb] at hx; cases hx) (-1))
        exact ⟨rfl, rfl, rfl, rfl, trivial⟩
      · exact absurd rfl hz
    | some y =>
      rw [hnb] at hv
      have hy := gb_nb_lt hp hb4 hnb
      have hby := hb y hy
      refine xa_int (show f (4 * p + w) = nI y from hv) ?_
      refine xa_istore_n d_Life_isBesideFallenString_16 rfl rfl ?_
      refine xa_iload_n d_Life_isBesideFallenString_17 rfl ?_
      refine xa_iconst (v := -1) d_Life_isBesideFallenString_18 rfl ?_
      refine xa_icmp_eq (tgt := 42) d_Life_isBesideFallenString_19 (by decide) (fun hz => ?_) (fun hz => ?_)
      · exact absurd hz (gb_m1 (by omega))
      ·
        refine xa_aload_n d_Life_isBesideFallenString_22 rfl ?_
        refine xa_getf f_Life_25 d_Life_isBesideFallenString_23 (by assumption) (by rfl) ?_
        refine xa_iload_n d_Life_isBesideFallenString_26 rfl ?_
        refine xa_ialdE d_Life_isBesideFallenString_27 r2 rfl hy (by omega) rfl ?_
        refine xa_iconst (v := nI 1) d_Life_isBesideFallenString_28 rfl ?_
        refine xa_icmp_neN (tgt := 42) d_Life_isBesideFallenString_29 (by decide) (by omega) (by omega) (fun hz2 => ?_) (fun hz2 => ?_)
        · refine xa_ls ?_ (again (fun x hx => by rw [hnb] at hx; cases hx; exact fun z => hz2 z.1) (nI y))
          exact ⟨rfl, rfl, rfl, rfl, trivial⟩
        ·
          refine xa_aload_n d_Life_isBesideFallenString_32 rfl ?_
          refine xa_iload_n d_Life_isBesideFallenString_33 rfl ?_
          refine xa_callVr (As := [.int (nI y)]) (st := []) d_Life_isBesideFallenString_34 k_Life_107 r1 (c_Life_standsAt hr hW hST hy rfl (hS2 _ (w1.1 y hy))) rfl rfl (Nat.le_of_ble_eq_true rfl) ⟨hR.1, by have := hR.2; show 8 + (2 + 11) + 21 ≤ _; omega⟩ (by omega) (by omega) ?_
          refine xa_if_ne (tgt := 42) d_Life_isBesideFallenString_37 (by decide) (fun hz3 => ?_) (fun hz3 => ?_)
          · refine xa_ls ?_ (again (fun x hx => by rw [hnb] at hx; cases hx; exact fun z => hz3 z.2) (nI y))
            exact ⟨rfl, rfl, rfl, rfl, trivial⟩
          ·
            refine xa_iconst (v := nI 1) d_Life_isBesideFallenString_40 rfl ?_
            exact xa_zreturn (v := nI 1) d_Life_isBesideFallenString_41 rfl (by decide) (by omega) (by omega) ⟨Or.inl ⟨rfl, w, y, by omega, hnb, hz2, hz3⟩, rfl, rfl⟩
termination_by 4 - w
decreasing_by omega
theorem c_Life_isBesideFallen {p : Nat} {ST : Nat → Int32} (hr : xl_R D h n lf g aK c f A O S kb) (hW : xt_W n (fun q => nI (kb q)) c ar o s A O S) (hST : h (lf + 6) = some (.inl (D.1 102, n * n, .inl ST))) (hS2 : ∀ a, a < c → ST a = 0 ∨ ST a = 1) (hp : p < n * n) :
    xa_M l D H0 M_Life_isBesideFallenString 2 42 0 0 [.ref lf, .int (nI p)] h sz (fun v h' sz' => ((v = some (.int 1) ∧ gl_bf n kb ar ST p) ∨ (v = some (.int 0) ∧ ¬ gl_bf n kb ar ST p)) ∧ h' = h ∧ sz' = sz) := by
  refine xa_enter (by decide) rfl rfl ?_
  refine xa_iconst (v := nI 0) d_Life_isBesideFallenString_0 rfl ?_
  refine xa_istore_n d_Life_isBesideFallenString_1 rfl rfl ?_
  refine xa_ls ?_ (w_isBesideFallen ⟨by decide, by decide⟩ hr hW hST hS2 hp 0 (by omega) (fun v x hv => absurd hv (Nat.not_lt_zero _)))
  exact ⟨rfl, rfl, rfl, trivial⟩
end LF
