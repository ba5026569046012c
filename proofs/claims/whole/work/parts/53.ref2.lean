/-! The reference: isBreath, breaths, takeOff, isTrial, keep, latest, areBreathing. -/
theorem xh_up_up {α : Type} (f : Nat → α) (m : Nat) (x y : α) : xh_up (xh_up f m x) m y = xh_up f m y := by
  funext i
  unfold xh_up
  split <;> rfl
theorem xG_G {D : va_G} {h : xa_H} {r n : Nat} {v : Nat → Nat} {IN RW IN' RW' : Nat → Int32} {e e' : Nat} : xG_h D (xG_h D h r n v IN RW e) r n (xh_up v 5 e) IN' RW' e' = xG_h D h r n v IN' RW' e' := by
  have h1 : xa_u (xG_h D h r n v IN RW e) (r + 7) (.inl (D.1 102, 169, .inl IN')) = xG_h D h r n v IN' RW e := xG_u7 _
  have h2 : xa_u (xG_h D h r n v IN' RW e) (r + 8) (.inl (D.1 100, 169, .inl RW')) = xG_h D h r n v IN' RW' e := xG_u8 _
  show xa_u (xa_u (xa_u (xG_h D h r n v IN RW e) (r + 7) _) (r + 8) _) r (xR_o r n (xh_up (xh_up v 5 e) 5 e')) = _
  rw [h1, h2, xh_up_up]
  exact xG_u0 e'
section XB
variable {l : Launch} {D : va_G} {H0 : Heap} {μ : xa_Mu} {R : Room} {Z : xa_Z} {k n : Nat} {h : xa_H} {sz pc : Nat} {ls : List (Nat × Value)} {st : List Value}
theorem xa_i2b {x v : Int32} (hd : decode μ.2.1 pc = .ok (.i2b, 1)) (hv : x.toInt8.toInt32 = v) (kk : xa_X l D H0 μ R Z k n h sz (pc + 1) ls (.int v :: st)) : xa_X l D H0 μ R Z k n h sz pc ls (.int x :: st) := by
  intro p e s m args below meth c H locs la C hP hL hl
  exact lv_i2b C.1 C.2.1 hd hv (kk p e s m args below meth c H locs la C hP hL hl)
end XB
section R2
variable {l : Launch} {D : va_G} {H0 : Heap} {h : xa_H} {sz : Nat} {R : Room} {r n : Nat} {v : Nat → Nat}
theorem w_isBreath {p x ab : Nat} {b : Nat → Nat} {B IN : Nat → Int32} (hR : 1 ≤ R.frames ∧ 24 ≤ R.locals) (h0 : h r = some (xR_o r n v)) (h7 : h (r + 7) = some (.inl (D.1 102, 169, .inl IN))) (hn : 2 ≤ n ∧ n ≤ 13) (hB : h ab = some (.inl (D.1 100, 169, .inl B))) (hBb : ∀ q, q < n * n → B q = nI (b q)) (hb : ∀ q, q < n * n → b q ≤ 2) (hp : p < n * n) (hI : ∀ q, q < n * n → (IN q = 1 ↔ gb_conn n (fun q => nI (b q)) x q)) (hI2 : ∀ q, q < n * n → IN q = 0 ∨ IN q = 1)
    (w : Nat) (hw : w ≤ 4) (is : Nat) (his : (is = 1 ∧ ∃ w' y, w' < w ∧ gb_nb n p (gr_w w') = some y ∧ gb_conn n (fun q => nI (b q)) x y) ∨ (is = 0 ∧ ∀ w' y, w' < w → gb_nb n p (gr_w w') = some y → ¬ gb_conn n (fun q => nI (b q)) x y)) (h00 : w ≠ 0 → b p = 0) :
    xa_X l D H0 M_Ref_isBreath R (xa_Zr D H0 0 0 (fun v' h' sz' => ((v' = some (.int 1) ∧ gt_br n (fun q => nI (b q)) x p) ∨ (v' = some (.int 0) ∧ ¬ gt_br n (fun q => nI (b q)) x p)) ∧ h' = h ∧ sz' = sz)) 0 0 h sz 5 [(0, .ref r), (1, .ref ab), (2, .int (nI p)), (3, .int (nI is)), (4, .int (nI w))] [] := by
  have hN : n * n ≤ 169 := Nat.mul_le_mul hn.2 hn.2
  have hbp := hb p hp
  refine xa_iload d_Ref_isBreath_5 rfl ?_
  refine xa_iconst (v := nI 4) d_Ref_isBreath_7 rfl ?_
  refine xa_icmp_geN (tgt := 57) d_Ref_isBreath_8 (by decide) (by omega) (by omega) (fun hb4 => ?_) (fun hb4 => ?_)
  · have hw4 : w = 4 := by omega
    subst hw4
    have hp0 := h00 (by omega)
    refine xa_iload_n d_Ref_isBreath_57 rfl ?_
    rcases his with ⟨e, w', y, hw', hy, hc⟩ | ⟨e, hno⟩
    · subst e
      exact xa_zreturn (v := nI 1) d_Ref_isBreath_58 rfl (by decide) (by omega) (by omega) ⟨Or.inl ⟨rfl, hp, by show nI (b p) = 0; rw [hp0]; rfl, gr_w w', y, gr_w_lt _, hy, hc⟩, rfl, rfl⟩
    · subst e
      refine xa_zreturn (v := nI 0) d_Ref_isBreath_58 rfl (by decide) (by omega) (by omega) ⟨Or.inr ⟨rfl, ?_⟩, rfl, rfl⟩
      rintro ⟨-, -, w', y, hw', hy, hc⟩
      obtain ⟨u, hu, e⟩ := gr_w_on hw'
      rw [← e] at hy
      exact hno u y hu hy hc
  ·
    refine xa_aload_n d_Ref_isBreath_11 rfl ?_
    refine xa_iload_n d_Ref_isBreath_12 rfl ?_
    refine xa_ialdE d_Ref_isBreath_13 hB rfl (show p < 169 by omega) (by omega) (hBb p hp) ?_
    refine xa_if_neN (tgt := 57) d_Ref_isBreath_14 (by decide) (by omega) (fun hz => ?_) (fun hz => ?_)
    · have hw0 : w = 0 := Classical.byContradiction (fun z => by have := h00 z; omega)
      subst hw0
      rcases his with ⟨e, w', y, hw', hy, hc⟩ | ⟨e, hno⟩
      · omega
      · subst e
        refine xa_iload_n d_Ref_isBreath_57 rfl ?_
        refine xa_zreturn (v := nI 0) d_Ref_isBreath_58 rfl (by decide) (by omega) (by omega) ⟨Or.inr ⟨rfl, ?_⟩, rfl, rfl⟩
        rintro ⟨-, hz2, -⟩
        have hz3 : nI (b p) = nI 0 := hz2
        have := (nI_eq (by omega) (by omega)).mp hz3
        omega
    ·
      refine xa_aload_n d_Ref_isBreath_17 rfl ?_
      refine xa_iload_n d_Ref_isBreath_18 rfl ?_
      refine xa_iload d_Ref_isBreath_19 rfl ?_
      refine xa_callVr (As := [.int (nI p), .int (nI w)]) (st := []) d_Ref_isBreath_21 k_Ref_71 h0 (c_Ref_beside h0 hn hp hb4) rfl rfl (Nat.le_of_ble_eq_true rfl) ⟨hR.1, hR.2⟩ (by omega) (by omega) ?_
      have next : ∀ (is' : Nat) (lsx : List (Nat × Value)), ((is' = 1 ∧ ∃ w' y, w' < w + 1 ∧ gb_nb n p (gr_w w') = some y ∧ gb_conn n (fun q => nI (b q)) x y) ∨ (is' = 0 ∧ ∀ w' y, w' < w + 1 → gb_nb n p (gr_w w') = some y → ¬ gb_conn n (fun q => nI (b q)) x y)) → xa_lk lsx 0 = some (.ref r) → xa_lk lsx 1 = some (.ref ab) → xa_lk lsx 2 = some (.int (nI p)) → xa_lk lsx 3 = some (.int (nI is')) → xa_lk lsx 4 = some (.int (nI w)) → xa_X l D H0 M_Ref_isBreath R (xa_Zr D H0 0 0 (fun v' h' sz' => ((v' = some (.int 1) ∧ gt_br n (fun q => nI (b q)) x p) ∨ (v' = some (.int 0) ∧ ¬ gt_br n (fun q => nI (b q)) x p)) ∧ h' = h ∧ sz' = sz)) 0 0 h sz 51 lsx [] := by
        intro is' lsx his' l0 l1 l2 l3 l4
        refine xa_ls (ls' := [(0, .ref r), (1, .ref ab), (2, .int (nI p)), (3, .int (nI is')), (4, .int (nI w))]) ⟨l0, l1, l2, l3, l4, trivial⟩ ?_
        refine xa_iincN d_Ref_isBreath_51 rfl rfl rfl ?_
        refine xa_goto (tgt := 5) d_Ref_isBreath_54 (by decide) ?_
        refine xa_ls ?_ (w_isBreath hR h0 h7 hn hB hBb hb hp hI hI2 (w + 1) (by omega) is' his' (fun _ => hz))
        exact ⟨rfl, rfl, rfl, rfl, rfl, trivial⟩
      refine xa_istore d_Ref_isBreath_24 rfl rfl ?_
      refine xa_iload_n d_Ref_isBreath_26 rfl ?_
      have his1 : is ≤ 1 := by omega
      refine xa_if_neN (tgt := 45) d_Ref_isBreath_27 (by decide) (by omega) (fun hz2 => ?_) (fun hz2 => ?_)
      ·
        refine xa_iconst (v := nI 1) d_Ref_isBreath_45 rfl ?_
        refine xa_goto (tgt := 50) d_Ref_isBreath_46 (by decide) ?_
        refine xa_istore_n d_Ref_isBreath_50 rfl rfl ?_
        refine next 1 _ (Or.inl ⟨rfl, ?_⟩) rfl rfl rfl rfl rfl
        obtain ⟨w', y, hw', hy⟩ := (his.resolve_right (fun z => by omega)).2
        exact ⟨w', y, by omega, hy⟩
      · have hno := (his.resolve_left (fun z => by omega)).2
        refine xa_iload d_Ref_isBreath_30 rfl ?_
        cases hnb : gb_nb n p (gr_w w) with
        | none =>
          refine xa_int (y := -1) rfl ?_
          refine xa_if_lt (tgt := 49) d_Ref_isBreath_32 (by decide) (fun hz3 => ?_) (fun hz3 => ?_)
          ·
            refine xa_iconst (v := nI 0) d_Ref_isBreath_49 rfl ?_
            refine xa_istore_n d_Ref_isBreath_50 rfl rfl ?_
            refine next 0 _ (Or.inr ⟨rfl, fun w' y hw' hy => ?_⟩) rfl rfl rfl rfl rfl
            by_cases he : w' = w
            · rw [he, hnb] at hy; cases hy
            · exact hno w' y (by omega) hy
          · exact absurd (by decide) hz3
        | some y =>
          have hy := gb_nb_lt hp (gr_w_lt w) hnb
          refine xa_int (y := nI y) rfl ?_
          refine xa_ls (ls' := [(0, .ref r), (1, .ref ab), (2, .int (nI p)), (3, .int (nI is)), (4, .int (nI w)), (5, .int (nI y))]) ⟨rfl, rfl, rfl, rfl, rfl, rfl, trivial⟩ ?_
          refine xa_if_lt (tgt := 49) d_Ref_isBreath_32 (by decide) (fun hz3 => ?_) (fun hz3 => ?_)
          · exact absurd hz3 (nI_pos (by omega))
          ·
            refine xa_aload_n d_Ref_isBreath_35 rfl ?_
            refine xa_getf f_Ref_34 d_Ref_isBreath_36 (by assumption) (by rfl) ?_
            refine xa_iload d_Ref_isBreath_39 rfl ?_
            refine xa_zaldE d_Ref_isBreath_41 h7 rfl (show y < 169 by omega) (by omega) rfl ?_
            refine xa_if_eq (tgt := 49) d_Ref_isBreath_42 (by decide) (fun hz4 => ?_) (fun hz4 => ?_)
            ·
              refine xa_iconst (v := nI 0) d_Ref_isBreath_49 rfl ?_
              refine xa_istore_n d_Ref_isBreath_50 rfl rfl ?_
              refine next 0 _ (Or.inr ⟨rfl, fun w' y' hw' hy' hc => ?_⟩) rfl rfl rfl rfl rfl
              by_cases he : w' = w
              · rw [he, hnb] at hy'
                cases hy'
                have := (hI y hy).mpr hc
                rw [hz4] at this
                exact absurd this (by decide)
              · exact hno w' y' (by omega) hy' hc
            ·
              refine xa_iconst (v := nI 1) d_Ref_isBreath_45 rfl ?_
              refine xa_goto (tgt := 50) d_Ref_isBreath_46 (by decide) ?_
              refine xa_istore_n d_Ref_isBreath_50 rfl rfl ?_
              exact next 1 _ (Or.inl ⟨rfl, w, y, by omega, hnb, (hI y hy).mp ((hI2 y hy).resolve_left hz4)⟩) rfl rfl rfl rfl rfl
termination_by 4 - w
decreasing_by omega
theorem c_Ref_isBreath {p x ab : Nat} {b : Nat → Nat} {B IN : Nat → Int32} (h0 : h r = some (xR_o r n v)) (h7 : h (r + 7) = some (.inl (D.1 102, 169, .inl IN))) (hn : 2 ≤ n ∧ n ≤ 13) (hB : h ab = some (.inl (D.1 100, 169, .inl B))) (hBb : ∀ q, q < n * n → B q = nI (b q)) (hb : ∀ q, q < n * n → b q ≤ 2) (hp : p < n * n) (hI : ∀ q, q < n * n → (IN q = 1 ↔ gb_conn n (fun q => nI (b q)) x q)) (hI2 : ∀ q, q < n * n → IN q = 0 ∨ IN q = 1) :
    xa_M l D H0 M_Ref_isBreath 1 24 0 0 [.ref r, .ref ab, .int (nI p)] h sz (fun v' h' sz' => ((v' = some (.int 1) ∧ gt_br n (fun q => nI (b q)) x p) ∨ (v' = some (.int 0) ∧ ¬ gt_br n (fun q => nI (b q)) x p)) ∧ h' = h ∧ sz' = sz) := by
  refine xa_enter (by decide) rfl rfl ?_
  refine xa_iconst (v := nI 0) d_Ref_isBreath_0 rfl ?_
  refine xa_istore_n d_Ref_isBreath_1 rfl rfl ?_
  refine xa_iconst (v := nI 0) d_Ref_isBreath_2 rfl ?_
  refine xa_istore d_Ref_isBreath_3 rfl rfl ?_
  refine xa_ls ?_ (w_isBreath ⟨by decide, by decide⟩ h0 h7 hn hB hBb hb hp hI hI2 0 (by omega) 0 (Or.inr ⟨rfl, fun w' y hw' => absurd hw' (Nat.not_lt_zero _)⟩) (fun z => absurd rfl z))
  exact ⟨rfl, rfl, rfl, rfl, rfl, trivial⟩
theorem w_breaths2 {x ab : Nat} {b : Nat → Nat} {B IN : Nat → Int32} (hR : 2 ≤ R.frames ∧ 49 ≤ R.locals) (h0 : h r = some (xR_o r n v)) (h7 : h (r + 7) = some (.inl (D.1 102, 169, .inl IN))) (hn : 2 ≤ n ∧ n ≤ 13) (hB : h ab = some (.inl (D.1 100, 169, .inl B))) (hBb : ∀ q, q < n * n → B q = nI (b q)) (hb : ∀ q, q < n * n → b q ≤ 2) (hI : ∀ q, q < n * n → (IN q = 1 ↔ gb_conn n (fun q => nI (b q)) x q)) (hI2 : ∀ q, q < n * n → IN q = 0 ∨ IN q = 1) (p : Nat) (hp : p ≤ n * n) :
    xa_X l D H0 M_Ref_breaths R (xa_Zr D H0 0 0 (fun v' h' sz' => v' = some (.int (nI (gb_cnt (gt_br n (fun q => nI (b q)) x) (n * n)))) ∧ h' = h ∧ sz' = sz)) 0 0 h sz 4 [(0, .ref r), (1, .ref ab), (2, .int (nI (gb_cnt (gt_br n (fun q => nI (b q)) x) p))), (3, .int (nI p))] [] := by
  have hN : n * n ≤ 169 := Nat.mul_le_mul hn.2 hn.2
  refine xa_iload_n d_Ref_breaths_4 rfl ?_
  refine xa_aload_n d_Ref_breaths_5 rfl ?_
  refine xa_getf f_Ref_62 d_Ref_breaths_6 (by assumption) (by rfl) ?_
  refine xa_icmp_geN (tgt := 35) d_Ref_breaths_9 (by decide) (by omega) (by omega) (fun hb4 => ?_) (fun hb4 => ?_)
  · have hpe : p = n * n := by omega
    subst hpe
    refine xa_iload_n d_Ref_breaths_35 rfl ?_
    exact xa_ireturn d_Ref_breaths_36 rfl (by omega) (by omega) ⟨rfl, rfl, rfl⟩
  ·
    refine xa_aload_n d_Ref_breaths_12 rfl ?_
    refine xa_aload_n d_Ref_breaths_13 rfl ?_
    refine xa_iload_n d_Ref_breaths_14 rfl ?_
    refine xa_callV (As := [.ref ab, .int (nI p)]) (st := []) d_Ref_breaths_15 k_Ref_75 h0 (c_Ref_isBreath h0 h7 hn hB hBb hb hb4 hI hI2) rfl rfl (Nat.le_of_ble_eq_true rfl) ⟨hR.1, hR.2⟩ (by omega) (by omega) (fun v' h' sz' hq => ?_)
    obtain ⟨hv, e2, e3⟩ := hq
    rw [e2, e3]
    rcases hv with ⟨hv, hbr⟩ | ⟨hv, hbr⟩
    · rw [hv]
      refine xa_int (y := nI 1) rfl ?_
      refine xa_if_eqN (tgt := 27) d_Ref_breaths_18 (by decide) (by omega) (fun hz => ?_) (fun hz => ?_)
      · omega
      ·
        refine xa_iload_n d_Ref_breaths_21 rfl ?_
        refine xa_iconst (v := nI 1) d_Ref_breaths_22 rfl ?_
        refine xa_iaddN d_Ref_breaths_23 ?_
        refine xa_goto (tgt := 28) d_Ref_breaths_24 (by decide) ?_
        refine xa_istore_n d_Ref_breaths_28 rfl rfl ?_
        refine xa_iincN d_Ref_breaths_29 rfl rfl rfl ?_
        refine xa_goto (tgt := 4) d_Ref_breaths_32 (by decide) ?_
        refine xa_ls ?_ (w_breaths2 hR h0 h7 hn hB hBb hb hI hI2 (p + 1) (by omega))
        exact ⟨rfl, rfl, by rw [gb_cnt_y hbr]; rfl, rfl, trivial⟩
    · rw [hv]
      refine xa_int (y := nI 0) rfl ?_
      refine xa_if_eqN (tgt := 27) d_Ref_breaths_18 (by decide) (by omega) (fun hz => ?_) (fun hz => ?_)
      ·
        refine xa_iload_n d_Ref_breaths_27 rfl ?_
        refine xa_istore_n d_Ref_breaths_28 rfl rfl ?_
        refine xa_iincN d_Ref_breaths_29 rfl rfl rfl ?_
        refine xa_goto (tgt := 4) d_Ref_breaths_32 (by decide) ?_
        refine xa_ls ?_ (w_breaths2 hR h0 h7 hn hB hBb hb hI hI2 (p + 1) (by omega))
        exact ⟨rfl, rfl, by rw [gb_cnt_n hbr]; rfl, rfl, trivial⟩
      · omega
termination_by n * n - p
decreasing_by all_goals omega
theorem c_Ref_breaths {x ab : Nat} {b : Nat → Nat} {B IN : Nat → Int32} (h0 : h r = some (xR_o r n v)) (h7 : h (r + 7) = some (.inl (D.1 102, 169, .inl IN))) (hn : 2 ≤ n ∧ n ≤ 13) (hB : h ab = some (.inl (D.1 100, 169, .inl B))) (hBb : ∀ q, q < n * n → B q = nI (b q)) (hb : ∀ q, q < n * n → b q ≤ 2) (hI : ∀ q, q < n * n → (IN q = 1 ↔ gb_conn n (fun q => nI (b q)) x q)) (hI2 : ∀ q, q < n * n → IN q = 0 ∨ IN q = 1) :
    xa_M l D H0 M_Ref_breaths 2 49 0 0 [.ref r, .ref ab] h sz (fun v' h' sz' => v' = some (.int (nI (gb_cnt (gt_br n (fun q => nI (b q)) x) (n * n)))) ∧ h' = h ∧ sz' = sz) := by
  refine xa_enter (by decide) rfl rfl ?_
  refine xa_iconst (v := nI 0) d_Ref_breaths_0 rfl ?_
  refine xa_istore_n d_Ref_breaths_1 rfl rfl ?_
  refine xa_iconst (v := nI 0) d_Ref_breaths_2 rfl ?_
  refine xa_istore_n d_Ref_breaths_3 rfl rfl ?_
  refine xa_ls ?_ (w_breaths2 ⟨by decide, by decide⟩ h0 h7 hn hB hBb hb hI hI2 0 (by omega))
  exact ⟨rfl, rfl, rfl, rfl, trivial⟩
theorem w_takeOff {ab e : Nat} {rr : Nat → Nat} {B RW : Nat → Int32} (h0 : h r = some (xR_o r n v)) (h8 : h (r + 8) = some (.inl (D.1 100, 169, .inl RW))) (hab : ab = r + 1 ∨ ab = r + 2) (hv : v 5 = e) (he : e ≤ 169) (hRW : ∀ j, j < e → RW j = nI (rr j) ∧ rr j < 169) (k : Nat) (hk : k ≤ e) (B' : Nat → Int32) (hB' : ∀ q, ((∃ j, j < k ∧ rr j = q) → B' q = 0) ∧ ((¬ ∃ j, j < k ∧ rr j = q) → B' q = B q)) :
    xa_X l D H0 M_Ref_takeOff R (xa_Zr D H0 0 0 (fun v' h' sz' => ∃ B', (∀ q, ((∃ j, j < e ∧ rr j = q) → B' q = 0) ∧ ((¬ ∃ j, j < e ∧ rr j = q) → B' q = B q)) ∧ v' = some (.int (nI e)) ∧ h' = xa_u h ab (.inl (D.1 100, 169, .inl B')) ∧ sz' = sz)) 0 0 (xa_u h ab (.inl (D.1 100, 169, .inl B'))) sz 2 [(0, .ref r), (1, .ref ab), (2, .int (nI k))] [] := by
  have q0 : xa_u h ab (.inl (D.1 100, 169, .inl B')) r = some (xR_o r n v) := xa_u_ne h0 (by omega)
  have q8 : xa_u h ab (.inl (D.1 100, 169, .inl B')) (r + 8) = some (.inl (D.1 100, 169, .inl RW)) := xa_u_ne h8 (by omega)
  refine xa_iload_n d_Ref_takeOff_2 rfl ?_
  refine xa_aload_n d_Ref_takeOff_3 rfl ?_
  refine xa_getf f_Ref_68 d_Ref_takeOff_4 (by assumption) (by rfl) ?_
  refine xa_int (y := nI e) (by rw [hv]) ?_
  refine xa_icmp_geN (tgt := 25) d_Ref_takeOff_7 (by decide) (by omega) (by omega) (fun hb => ?_) (fun hb => ?_)
  · have hke : k = e := by omega
    subst hke
    refine xa_aload_n d_Ref_takeOff_25 rfl ?_
    refine xa_getf f_Ref_68 d_Ref_takeOff_26 (by assumption) (by rfl) ?_
    refine xa_int (y := nI k) (by rw [hv]) ?_
    exact xa_ireturn d_Ref_takeOff_29 rfl (by omega) (by omega) ⟨B', hB', rfl, rfl, rfl⟩
  · obtain ⟨e1, e2⟩ := hRW k hb
    refine xa_aload_n d_Ref_takeOff_10 rfl ?_
    refine xa_aload_n d_Ref_takeOff_11 rfl ?_
    refine xa_getf f_Ref_38 d_Ref_takeOff_12 (by assumption) (by rfl) ?_
    refine xa_iload_n d_Ref_takeOff_15 rfl ?_
    refine xa_ialdE d_Ref_takeOff_16 q8 rfl (show k < 169 by omega) (by omega) e1 ?_
    refine xa_iconst (v := nI 0) d_Ref_takeOff_17 rfl ?_
    refine xa_iastE d_Ref_takeOff_18 (xa_u_eq _ _ _) rfl e2 (by omega) ?_
    rw [xa_uu]
    refine xa_iincN d_Ref_takeOff_19 rfl rfl rfl ?_
    refine xa_goto (tgt := 2) d_Ref_takeOff_22 (by decide) ?_
    refine xa_ls ?_ (w_takeOff h0 h8 hab hv he hRW (k + 1) (by omega) _ (fun q => ⟨fun ⟨j, hj, ej⟩ => ?_, fun hno => ?_⟩))
    · exact ⟨rfl, rfl, rfl, trivial⟩
    · by_cases hq : q = rr k
      · exact if_pos hq
      · have hu : upd B' (rr k) (nI 0) q = B' q := if_neg hq
        rw [hu]
        exact (hB' q).1 ⟨j, by
          by_cases hjk : j = k
          · subst hjk; exact absurd ej.symm hq
          · omega, ej⟩
    · have hu : upd B' (rr k) (nI 0) q = B' q := if_neg (fun z => hno ⟨k, by omega, z.symm⟩)
      rw [hu]
      exact (hB' q).2 (fun ⟨j, hj, ej⟩ => hno ⟨j, by omega, ej⟩)
termination_by e - k
decreasing_by omega
theorem c_Ref_takeOff {ab e : Nat} {rr : Nat → Nat} {B RW : Nat → Int32} (h0 : h r = some (xR_o r n v)) (h8 : h (r + 8) = some (.inl (D.1 100, 169, .inl RW))) (hab : ab = r + 1 ∨ ab = r + 2) (hB : h ab = some (.inl (D.1 100, 169, .inl B))) (hv : v 5 = e) (he : e ≤ 169) (hRW : ∀ j, j < e → RW j = nI (rr j) ∧ rr j < 169) :
    xa_M l D H0 M_Ref_takeOff 0 0 0 0 [.ref r, .ref ab] h sz (fun v' h' sz' => ∃ B', (∀ q, ((∃ j, j < e ∧ rr j = q) → B' q = 0) ∧ ((¬ ∃ j, j < e ∧ rr j = q) → B' q = B q)) ∧ v' = some (.int (nI e)) ∧ h' = xa_u h ab (.inl (D.1 100, 169, .inl B')) ∧ sz' = sz) := by
  refine xa_enter (by decide) rfl rfl ?_
  refine xa_iconst (v := nI 0) d_Ref_takeOff_0 rfl ?_
  refine xa_istore_n d_Ref_takeOff_1 rfl rfl ?_
  refine xa_heap (xa_us _ hB).symm ?_
  refine xa_ls ?_ (w_takeOff h0 h8 hab hv he hRW 0 (by omega) B (fun q => ⟨fun ⟨j, hj, _⟩ => absurd hj (Nat.not_lt_zero _), fun _ => rfl⟩))
  exact ⟨rfl, rfl, rfl, trivial⟩
theorem w_isTrial {k : Nat} {SD TR : Nat → Int32} {u t : Nat → Nat} (h0 : h r = some (xR_o r n v)) (h2 : h (r + 2) = some (.inl (D.1 100, 169, .inl TR))) (h3 : h (r + 3) = some (.inl (D.1 104, 169169, .inl SD))) (hn : 2 ≤ n ∧ n ≤ 13) (hk : k ≤ 1000) (hu : ∀ q, q < n * n → SD (169 * k + q) = nI (u q) ∧ u q ≤ 2) (ht : ∀ q, q < n * n → TR q = nI (t q) ∧ t q ≤ 2) (p : Nat) (hp : p ≤ n * n) (x : Nat) (hx : (x = 1 ∧ ∀ q, q < p → u q = t q) ∨ (x = 0 ∧ ∃ q, q < n * n ∧ u q ≠ t q)) :
    xa_X l D H0 M_Ref_isTrial R (xa_Zr D H0 0 0 (fun v' h' sz' => ((v' = some (.int 1) ∧ gx_same (n * n) u t) ∨ (v' = some (.int 0) ∧ ¬ gx_same (n * n) u t)) ∧ h' = h ∧ sz' = sz)) 0 0 h sz 4 [(0, .ref r), (1, .int (nI k)), (2, .int (nI x)), (3, .int (nI p))] [] := by
  have hN : n * n ≤ 169 := Nat.mul_le_mul hn.2 hn.2
  refine xa_iload_n d_Ref_isTrial_4 rfl ?_
  refine xa_aload_n d_Ref_isTrial_5 rfl ?_
  refine xa_getf f_Ref_62 d_Ref_isTrial_6 (by assumption) (by rfl) ?_
  have fin : p = n * n ∨ x = 0 → ∀ lsx, xa_lk lsx 2 = some (.int (nI x)) → xa_X l D H0 M_Ref_isTrial R (xa_Zr D H0 0 0 (fun v' h' sz' => ((v' = some (.int 1) ∧ gx_same (n * n) u t) ∨ (v' = some (.int 0) ∧ ¬ gx_same (n * n) u t)) ∧ h' = h ∧ sz' = sz)) 0 0 h sz 49 lsx [] := by
    intro hor lsx l2
    refine xa_iload_n d_Ref_isTrial_49 l2 ?_
    rcases hx with ⟨e, hall⟩ | ⟨e, q, hq, hne⟩
    · subst e
      have hpe : p = n * n := by omega
      exact xa_zreturn (v := nI 1) d_Ref_isTrial_50 rfl (by decide) (by omega) (by omega) ⟨Or.inl ⟨rfl, fun q hq => hall q (by omega)⟩, rfl, rfl⟩
    · subst e
      exact xa_zreturn (v := nI 0) d_Ref_isTrial_50 rfl (by decide) (by omega) (by omega) ⟨Or.inr ⟨rfl, fun z => hne (z q hq)⟩, rfl, rfl⟩
  refine xa_icmp_geN (tgt := 49) d_Ref_isTrial_9 (by decide) (by omega) (by omega) (fun hb => ?_) (fun hb => ?_)
  · exact fin (Or.inl (by omega)) _ rfl
  · have hx1 : x ≤ 1 := by omega
    refine xa_iload_n d_Ref_isTrial_12 rfl ?_
    refine xa_if_eqN (tgt := 49) d_Ref_isTrial_13 (by decide) (by omega) (fun hz => ?_) (fun hz => ?_)
    · exact fin (Or.inr hz) _ rfl
    · have hxx := (hx.resolve_right (fun z => by omega)).2
      obtain ⟨u1, u2⟩ := hu p hb
      obtain ⟨t1, t2⟩ := ht p hb
      refine xa_aload_n d_Ref_isTrial_16 rfl ?_
      refine xa_getf f_Ref_17 d_Ref_isTrial_17 (by assumption) (by rfl) ?_
      refine xa_sipush (v := nI 169) d_Ref_isTrial_20 (by decide) ?_
      refine xa_iload_n d_Ref_isTrial_23 rfl ?_
      refine xa_imulN d_Ref_isTrial_24 ?_
      refine xa_iload_n d_Ref_isTrial_25 rfl ?_
      refine xa_iaddN d_Ref_isTrial_26 ?_
      refine xa_baldE d_Ref_isTrial_27 h3 rfl (show 169 * k + p < 169169 by omega) (by omega) u1 ?_
      refine xa_aload_n d_Ref_isTrial_28 rfl ?_
      refine xa_getf f_Ref_13 d_Ref_isTrial_29 (by assumption) (by rfl) ?_
      refine xa_iload_n d_Ref_isTrial_32 rfl ?_
      refine xa_ialdE d_Ref_isTrial_33 h2 rfl (show p < 169 by omega) (by omega) t1 ?_
      refine xa_icmp_neN (tgt := 41) d_Ref_isTrial_34 (by decide) (by omega) (by omega) (fun hz2 => ?_) (fun hz2 => ?_)
      ·
        refine xa_iconst (v := nI 0) d_Ref_isTrial_41 rfl ?_
        refine xa_istore_n d_Ref_isTrial_42 rfl rfl ?_
        refine xa_iincN d_Ref_isTrial_43 rfl rfl rfl ?_
        refine xa_goto (tgt := 4) d_Ref_isTrial_46 (by decide) ?_
        refine xa_ls ?_ (w_isTrial h0 h2 h3 hn hk hu ht (p + 1) (by omega) 0 (Or.inr ⟨rfl, p, hb, hz2⟩))
        exact ⟨rfl, rfl, rfl, rfl, trivial⟩
      ·
        refine xa_iconst (v := nI 1) d_Ref_isTrial_37 rfl ?_
        refine xa_goto (tgt := 42) d_Ref_isTrial_38 (by decide) ?_
        refine xa_istore_n d_Ref_isTrial_42 rfl rfl ?_
        refine xa_iincN d_Ref_isTrial_43 rfl rfl rfl ?_
        refine xa_goto (tgt := 4) d_Ref_isTrial_46 (by decide) ?_
        refine xa_ls ?_ (w_isTrial h0 h2 h3 hn hk hu ht (p + 1) (by omega) 1 (Or.inl ⟨rfl, fun q hq => ?_⟩))
        · exact ⟨rfl, rfl, rfl, rfl, trivial⟩
        · by_cases he : q = p
          · rw [he]; exact hz2
          · exact hxx q (by omega)
termination_by n * n - p
decreasing_by all_goals omega
theorem c_Ref_isTrial {k : Nat} {SD TR : Nat → Int32} {u t : Nat → Nat} (h0 : h r = some (xR_o r n v)) (h2 : h (r + 2) = some (.inl (D.1 100, 169, .inl TR))) (h3 : h (r + 3) = some (.inl (D.1 104, 169169, .inl SD))) (hn : 2 ≤ n ∧ n ≤ 13) (hk : k ≤ 1000) (hu : ∀ q, q < n * n → SD (169 * k + q) = nI (u q) ∧ u q ≤ 2) (ht : ∀ q, q < n * n → TR q = nI (t q) ∧ t q ≤ 2) :
    xa_M l D H0 M_Ref_isTrial 0 0 0 0 [.ref r, .int (nI k)] h sz (fun v' h' sz' => ((v' = some (.int 1) ∧ gx_same (n * n) u t) ∨ (v' = some (.int 0) ∧ ¬ gx_same (n * n) u t)) ∧ h' = h ∧ sz' = sz) := by
  refine xa_enter (by decide) rfl rfl ?_
  refine xa_iconst (v := nI 1) d_Ref_isTrial_0 rfl ?_
  refine xa_istore_n d_Ref_isTrial_1 rfl rfl ?_
  refine xa_iconst (v := nI 0) d_Ref_isTrial_2 rfl ?_
  refine xa_istore_n d_Ref_isTrial_3 rfl rfl ?_
  refine xa_ls ?_ (w_isTrial h0 h2 h3 hn hk hu ht 0 (by omega) 1 (Or.inl ⟨rfl, fun q hq => absurd hq (Nat.not_lt_zero _)⟩))
  exact ⟨rfl, rfl, rfl, rfl, trivial⟩
theorem w_latest {m : Nat} {SD TR : Nat → Int32} {bd : Nat → Nat → Nat} {t : Nat → Nat} (hR : 1 ≤ R.frames ∧ 23 ≤ R.locals) (h0 : h r = some (xR_o r n v)) (h2 : h (r + 2) = some (.inl (D.1 100, 169, .inl TR))) (h3 : h (r + 3) = some (.inl (D.1 104, 169169, .inl SD))) (hn : 2 ≤ n ∧ n ≤ 13) (hm : m ≤ 1000) (hu : ∀ i, i ≤ m → ∀ q, q < n * n → SD (169 * i + q) = nI (bd i q) ∧ bd i q ≤ 2) (ht : ∀ q, q < n * n → TR q = nI (t q) ∧ t q ≤ 2) (k : Nat) (hk : k ≤ m) (hno : ∀ j, k < j → j ≤ m → ¬ gx_same (n * n) (bd j) t) :
    xa_X l D H0 M_Ref_latest R (xa_Zr D H0 0 0 (fun v' h' sz' => ((v' = some (.int (-1)) ∧ ∀ j, j ≤ m → ¬ gx_same (n * n) (bd j) t) ∨ ∃ j, j ≤ m ∧ v' = some (.int (nI j)) ∧ gx_same (n * n) (bd j) t ∧ ∀ j', j < j' → j' ≤ m → ¬ gx_same (n * n) (bd j') t) ∧ h' = h ∧ sz' = sz)) 0 0 h sz 5 [(0, .ref r), (1, .int (nI k))] [] := by
  refine xa_iload_n d_Ref_latest_5 rfl ?_
  refine xa_if_lt (tgt := 23) d_Ref_latest_6 (by decide) (fun hz => ?_) (fun hz => ?_)
  · exact absurd hz (nI_pos (by omega))
  ·
    refine xa_aload_n d_Ref_latest_9 rfl ?_
    refine xa_iload_n d_Ref_latest_10 rfl ?_
    refine xa_callV (As := [.int (nI k)]) (st := []) d_Ref_latest_11 k_Ref_99 h0 (c_Ref_isTrial h0 h2 h3 hn (by omega) (hu k hk) ht) rfl rfl (Nat.le_of_ble_eq_true rfl) ⟨hR.1, hR.2⟩ (by omega) (by omega) (fun v' h' sz' hq => ?_)
    obtain ⟨hv, e2, e3⟩ := hq
    rw [e2, e3]
    rcases hv with ⟨hv, hs⟩ | ⟨hv, hs⟩
    · rw [hv]
      refine xa_int (y := nI 1) rfl ?_
      refine xa_if_neN (tgt := 23) d_Ref_latest_14 (by decide) (by omega) (fun hz2 => ?_) (fun hz2 => ?_)
      ·
        refine xa_iload_n d_Ref_latest_23 rfl ?_
        exact xa_ireturn d_Ref_latest_24 rfl (by omega) (by omega) ⟨Or.inr ⟨k, hk, rfl, hs, hno⟩, rfl, rfl⟩
      · omega
    · rw [hv]
      refine xa_int (y := nI 0) rfl ?_
      have hno' : ∀ j, k ≤ j → j ≤ m → ¬ gx_same (n * n) (bd j) t := fun j h1 h2 => by
        by_cases he : j = k
        · rw [he]; exact hs
        · exact hno j (by omega) h2
      refine xa_if_neN (tgt := 23) d_Ref_latest_14 (by decide) (by omega) (fun hz2 => ?_) (fun hz2 => ?_)
      · omega
      · rcases Nat.eq_zero_or_pos k with hk0 | hk0
        · subst hk0
          refine xa_iinc (v := -1) d_Ref_latest_17 rfl (by decide) rfl rfl ?_
          refine xa_goto (tgt := 5) d_Ref_latest_20 (by decide) ?_
          refine xa_iload_n d_Ref_latest_5 rfl ?_
          refine xa_if_lt (tgt := 23) d_Ref_latest_6 (by decide) (fun hz3 => ?_) (fun hz3 => ?_)
          ·
            refine xa_iload_n d_Ref_latest_23 rfl ?_
            exact xa_ireturn d_Ref_latest_24 rfl (by omega) (by omega) ⟨Or.inl ⟨rfl, fun j hj => hno' j (by omega) hj⟩, rfl, rfl⟩
          · exact absurd (by decide) hz3
        · obtain ⟨k', rfl⟩ : ∃ k', k = k' + 1 := ⟨k - 1, by omega⟩
          refine xa_iinc (v := nI k') d_Ref_latest_17 rfl (show nI (k' + 1) + (-1) = nI k' from (by rw [← nI_pred k']; exact (Int32.sub_eq_add_neg (nI (k' + 1)) 1).symm)) rfl rfl ?_
          refine xa_goto (tgt := 5) d_Ref_latest_20 (by decide) ?_
          refine xa_ls ?_ (w_latest hR h0 h2 h3 hn hm hu ht k' (by omega) (fun j h1 h2 => hno' j (by omega) h2))
          exact ⟨rfl, rfl, trivial⟩
termination_by k
decreasing_by omega
theorem c_Ref_latest {m : Nat} {SD TR : Nat → Int32} {bd : Nat → Nat → Nat} {t : Nat → Nat} (h0 : h r = some (xR_o r n v)) (hv : v 3 = m) (h2 : h (r + 2) = some (.inl (D.1 100, 169, .inl TR))) (h3 : h (r + 3) = some (.inl (D.1 104, 169169, .inl SD))) (hn : 2 ≤ n ∧ n ≤ 13) (hm : m ≤ 1000) (hu : ∀ i, i ≤ m → ∀ q, q < n * n → SD (169 * i + q) = nI (bd i q) ∧ bd i q ≤ 2) (ht : ∀ q, q < n * n → TR q = nI (t q) ∧ t q ≤ 2) :
    xa_M l D H0 M_Ref_latest 1 23 0 0 [.ref r] h sz (fun v' h' sz' => ((v' = some (.int (-1)) ∧ ∀ j, j ≤ m → ¬ gx_same (n * n) (bd j) t) ∨ ∃ j, j ≤ m ∧ v' = some (.int (nI j)) ∧ gx_same (n * n) (bd j) t ∧ ∀ j', j < j' → j' ≤ m → ¬ gx_same (n * n) (bd j') t) ∧ h' = h ∧ sz' = sz) := by
  refine xa_enter (by decide) rfl rfl ?_
  refine xa_aload_n d_Ref_latest_0 rfl ?_
  refine xa_getf f_Ref_96 d_Ref_latest_1 (by assumption) (by rfl) ?_
  refine xa_int (y := nI m) (by rw [hv]) ?_
  refine xa_istore_n d_Ref_latest_4 rfl rfl ?_
  refine xa_ls ?_ (w_latest ⟨by decide, by decide⟩ h0 h2 h3 hn hm hu ht m (Nat.le_refl m) (fun j h1 h2 => by omega))
  exact ⟨rfl, rfl, trivial⟩
theorem w_Ref_keep {k : Nat} {SD0 B : Nat → Int32} {b : Nat → Nat} (h0 : h r = some (xR_o r n v)) (h1 : h (r + 1) = some (.inl (D.1 100, 169, .inl B))) (hn : 2 ≤ n ∧ n ≤ 13) (hk : k ≤ 1000) (hBb : ∀ q, q < n * n → B q = nI (b q)) (hb : ∀ q, q < n * n → b q ≤ 2) (p : Nat) (hp : p ≤ n * n) (SD : Nat → Int32) (hs1 : ∀ q, q < p → SD (169 * k + q) = nI (b q)) (hs2 : ∀ i, (i < 169 * k ∨ 169 * k + 169 ≤ i) → SD i = SD0 i) :
    xa_X l D H0 M_Ref_keep R (xa_Zr D H0 0 0 (fun v' h' sz' => ∃ SD, (∀ q, q < n * n → SD (169 * k + q) = nI (b q)) ∧ (∀ i, (i < 169 * k ∨ 169 * k + 169 ≤ i) → SD i = SD0 i) ∧ v' = none ∧ h' = xa_u h (r + 3) (.inl (D.1 104, 169169, .inl SD)) ∧ sz' = sz)) 0 0 (xa_u h (r + 3) (.inl (D.1 104, 169169, .inl SD))) sz 2 [(0, .ref r), (1, .int (nI k)), (2, .int (nI p))] [] := by
  have hN : n * n ≤ 169 := Nat.mul_le_mul hn.2 hn.2
  have q0 : xa_u h (r + 3) (.inl (D.1 104, 169169, .inl SD)) r = some (xR_o r n v) := xa_u_ne h0 (by omega)
  have q1 : xa_u h (r + 3) (.inl (D.1 104, 169169, .inl SD)) (r + 1) = some (.inl (D.1 100, 169, .inl B)) := xa_u_ne h1 (by omega)
  refine xa_iload_n d_Ref_keep_2 rfl ?_
  refine xa_aload_n d_Ref_keep_3 rfl ?_
  refine xa_getf f_Ref_62 d_Ref_keep_4 (by assumption) (by rfl) ?_
  refine xa_icmp_geN (tgt := 35) d_Ref_keep_7 (by decide) (by omega) (by omega) (fun hb4 => ?_) (fun hb4 => ?_)
  · have hpe : p = n * n := by omega
    subst hpe
    exact xa_return d_Ref_keep_35 rfl (by omega) (by omega) ⟨SD, hs1, hs2, rfl, rfl, rfl⟩
  · have hbp := hb p hb4
    refine xa_aload_n d_Ref_keep_10 rfl ?_
    refine xa_getf f_Ref_17 d_Ref_keep_11 (by assumption) (by rfl) ?_
    refine xa_sipush (v := nI 169) d_Ref_keep_14 (by decide) ?_
    refine xa_iload_n d_Ref_keep_17 rfl ?_
    refine xa_imulN d_Ref_keep_18 ?_
    refine xa_iload_n d_Ref_keep_19 rfl ?_
    refine xa_iaddN d_Ref_keep_20 ?_
    refine xa_aload_n d_Ref_keep_21 rfl ?_
    refine xa_getf f_Ref_7 d_Ref_keep_22 (by assumption) (by rfl) ?_
    refine xa_iload_n d_Ref_keep_25 rfl ?_
    refine xa_ialdE d_Ref_keep_26 q1 rfl (show p < 169 by omega) (by omega) (hBb p hb4) ?_
    refine xa_i2b (v := nI (b p)) d_Ref_keep_27 (by rcases (show b p = 0 ∨ b p = 1 ∨ b p = 2 by omega) with e | e | e <;> rw [e] <;> decide) ?_
    refine xa_bast d_Ref_keep_28 (xa_u_eq _ _ _) (show 169 * k + p < 169169 by omega) rfl (by omega) ?_
    rw [xa_uu]
    have hnar : vp_nar .byte (nI (b p)) = nI (b p) := by rcases (show b p = 0 ∨ b p = 1 ∨ b p = 2 by omega) with e | e | e <;> rw [e] <;> decide
    rw [hnar]
    refine xa_iincN d_Ref_keep_29 rfl rfl rfl ?_
    refine xa_goto (tgt := 2) d_Ref_keep_32 (by decide) ?_
    refine xa_ls ?_ (w_Ref_keep h0 h1 hn hk hBb hb (p + 1) (by omega) _ (fun q hq => ?_) (fun i hi => ?_))
    · exact ⟨rfl, rfl, rfl, trivial⟩
    · by_cases he : q = p
      · rw [he]; exact if_pos rfl
      · have hu : upd SD (169 * k + p) (nI (b p)) (169 * k + q) = SD (169 * k + q) := if_neg (by omega)
        rw [hu]
        exact hs1 q (by omega)
    · have hu : upd SD (169 * k + p) (nI (b p)) i = SD i := if_neg (by omega)
      rw [hu]
      exact hs2 i hi
termination_by n * n - p
decreasing_by omega
theorem c_Ref_keep {k : Nat} {SD B : Nat → Int32} {b : Nat → Nat} (h0 : h r = some (xR_o r n v)) (h1 : h (r + 1) = some (.inl (D.1 100, 169, .inl B))) (h3 : h (r + 3) = some (.inl (D.1 104, 169169, .inl SD))) (hn : 2 ≤ n ∧ n ≤ 13) (hk : k ≤ 1000) (hBb : ∀ q, q < n * n → B q = nI (b q)) (hb : ∀ q, q < n * n → b q ≤ 2) :
    xa_M l D H0 M_Ref_keep 0 0 0 0 [.ref r, .int (nI k)] h sz (fun v' h' sz' => ∃ SD', (∀ q, q < n * n → SD' (169 * k + q) = nI (b q)) ∧ (∀ i, (i < 169 * k ∨ 169 * k + 169 ≤ i) → SD' i = SD i) ∧ v' = none ∧ h' = xa_u h (r + 3) (.inl (D.1 104, 169169, .inl SD')) ∧ sz' = sz) := by
  refine xa_enter (by decide) rfl rfl ?_
  refine xa_iconst (v := nI 0) d_Ref_keep_0 rfl ?_
  refine xa_istore_n d_Ref_keep_1 rfl rfl ?_
  refine xa_heap (xa_us _ h3).symm ?_
  refine xa_ls ?_ (w_Ref_keep h0 h1 hn hk hBb hb 0 (by omega) SD (fun q hq => absurd hq (Nat.not_lt_zero _)) (fun _ _ => rfl))
  exact ⟨rfl, rfl, rfl, trivial⟩
end R2
