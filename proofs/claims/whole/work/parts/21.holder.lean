/-! Chart: the small methods, isFree, findHolder. -/
section CH
variable {l : Launch} {D : va_G} {H0 : Heap} {h : xa_H} {sz : Nat} {R : Room} {Z : xa_Z}
theorem c_SB_otherSide {x : Nat} (hx : x ≤ 3) : xa_M l D H0 M_SB_otherSide 0 0 0 0 [.int (nI x)] h sz (fun v h' sz' => v = some (.int (nI (3 - x))) ∧ h' = h ∧ sz' = sz) := by
  refine xa_enter (by decide) rfl rfl ?_
  refine xa_iconst (v := nI 3) d_SB_otherSide_0 rfl ?_
  refine xa_iload_n d_SB_otherSide_1 rfl ?_
  refine xa_isubN d_SB_otherSide_2 (by omega) ?_
  exact xa_ireturn d_SB_otherSide_3 rfl (by omega) (by omega) ⟨rfl, rfl, rfl⟩
/-- what is read of a chart -/
def xc_R (D : va_G) (h : xa_H) (n ch g aK c : Nat) (f A O S : Nat → Int32) (b : Nat → Nat) : Prop :=
  h ch = some (.inr (2, [.ref (ch + 1), .ref g, .ref aK, .ref (ch + 5), .ref (ch + 6), .ref (ch + 7), .ref (ch + 8)])) ∧ h (ch + 1) = some (.inr (1, [.int (nI c), .ref g, .ref (ch + 2), .ref (ch + 3), .ref (ch + 4)])) ∧ h (ch + 2) = some (.inl (D.1 100, n * n, .inl A)) ∧ h (ch + 3) = some (.inl (D.1 100, n * n, .inl O)) ∧ h (ch + 4) = some (.inl (D.1 100, n * n + 1, .inl S)) ∧
  h g = some (.inr (3, [.int (nI (n * n)), .ref (g + 1)])) ∧ h (g + 1) = some (.inl (D.1 100, 4 * (n * n), .inl f)) ∧ h aK = some (.inl (D.1 100, n * n, .inl (fun q => nI (b q)))) ∧ n * n < 1000 ∧ (∀ q w, q < n * n → w < 4 → f (4 * q + w) = gb_oi (gb_nb n q w)) ∧ ∀ q, q < n * n → b q ≤ 2
theorem c_Chart_isFree {n ch g aK c q : Nat} {f A O S : Nat → Int32} {b ar o s : Nat → Nat} (hr : xc_R D h n ch g aK c f A O S b) (hW : xt_W n (fun q => nI (b q)) c ar o s A O S) (hq : q < c) :
    xa_M l D H0 M_Chart_isFree 1 21 0 0 [.ref ch, .int (nI q)] h sz (fun v h' sz' => v = some (.int (if b (o (s q)) = 0 then 1 else 0)) ∧ h' = h ∧ sz' = sz) := by
  obtain ⟨r1, r2, r3, r4, r5, r6, r7, r8, hN, hf, hb⟩ := hr
  obtain ⟨w1, w2, w3, w4⟩ := hW
  obtain ⟨a1, a2, a3, a4, a5⟩ := gs_W_area w1 hq
  have hcN : c ≤ n * n := w1.2.2.2.2.2.2.2.2.2.2
  have hb2 := hb _ a3
  refine xa_enter (by decide) rfl rfl ?_
  refine xa_aload_n d_Chart_isFree_0 rfl ?_
  refine xa_getf f_Chart_15 d_Chart_isFree_1 (by assumption) (by rfl) ?_
  refine xa_aload_n d_Chart_isFree_4 rfl ?_
  refine xa_getf f_Chart_24 d_Chart_isFree_5 (by assumption) (by rfl) ?_
  refine xa_iload_n d_Chart_isFree_8 rfl ?_
  refine xa_callVr (As := [.int (nI q)]) (st := [.ref aK]) d_Chart_isFree_9 k_Chart_68 r2 (c_Areas_leastOf (o := o) (s := s) r2 r4 r5 hN (by omega) (w4 q (by omega)) a1 (w3 _ a1)) rfl rfl (Nat.le_of_ble_eq_true rfl) ⟨by decide, by decide⟩ (by decide) (by decide) ?_
  refine xa_ialdE (j := o (s q)) d_Chart_isFree_12 r8 rfl a3 (by omega) rfl ?_
  refine xa_if_neN (tgt := 20) d_Chart_isFree_13 (by decide) (by omega) (fun hz => ?_) (fun hz => ?_)
  ·
    refine xa_iconst (v := nI 0) d_Chart_isFree_20 rfl ?_
    exact xa_zreturn d_Chart_isFree_21 rfl rfl (by omega) (by omega) ⟨by rw [if_neg (by omega)]; rfl, rfl, rfl⟩
  ·
    refine xa_iconst (v := nI 1) d_Chart_isFree_16 rfl ?_
    refine xa_goto (tgt := 21) d_Chart_isFree_17 (by decide) ?_
    exact xa_zreturn d_Chart_isFree_21 rfl rfl (by omega) (by omega) ⟨by rw [if_pos hz]; rfl, rfl, rfl⟩
theorem w_holder_in {n ch g aK c q i : Nat} {f A O S : Nat → Int32} {b ar o s : Nat → Nat} (hR : 1 ≤ R.frames ∧ 22 ≤ R.locals) (hr : xc_R D h n ch g aK c f A O S b) (hW : xt_W n (fun q => nI (b q)) c ar o s A O S) (hq : q < c) (hi : i < s (q + 1) - s q)
    (kont : ∀ t, gc_M n b (fun j => o (s q + j)) i 4 t → xa_X l D H0 M_Chart_findHolder R (xa_Zr D H0 0 0 (fun v h' sz' => v = some (.int (nI (gc_hold n b (o (s q))))) ∧ h' = h ∧ sz' = sz)) 0 0 h sz 94 [(0, .ref ch), (1, .int (nI q)), (2, .int (nI t)), (3, .int (nI i))] [])
    (w t : Nat) (hw : w ≤ 4) (hM : gc_M n b (fun j => o (s q + j)) i w t) :
    xa_X l D H0 M_Chart_findHolder R (xa_Zr D H0 0 0 (fun v h' sz' => v = some (.int (nI (gc_hold n b (o (s q))))) ∧ h' = h ∧ sz' = sz)) 0 0 h sz 19 [(0, .ref ch), (1, .int (nI q)), (2, .int (nI t)), (3, .int (nI i)), (4, .int (nI w))] [] := by
  obtain ⟨r1, r2, r3, r4, r5, r6, r7, r8, hN, hf, hb⟩ := id hr
  obtain ⟨w1, w2, w3, w4⟩ := id hW
  obtain ⟨a1, a2, a3, a4, a5⟩ := gs_W_area w1 hq
  have hcN : c ≤ n * n := w1.2.2.2.2.2.2.2.2.2.2
  have hpi : o (s q + i) < n * n := w1.2.2.1 _ (by omega)
  have hcon : gb_conn n (fun q => nI (b q)) (o (s q)) (o (s q + i)) := (a5 _).mpr ⟨i, hi, rfl⟩
  have ht2 := hM.1
  refine xa_iload d_Chart_findHolder_19 rfl ?_
  refine xa_iconst (v := nI 4) d_Chart_findHolder_21 rfl ?_
  refine xa_icmp_geN (tgt := 94) d_Chart_findHolder_22 (by decide) (by omega) (by omega) (fun hb4 => ?_) (fun hb4 => ?_)
  · have hw4 : w = 4 := by omega
    subst hw4
    refine xa_ls ?_ (kont t hM)
    exact ⟨rfl, rfl, rfl, rfl, trivial⟩
  ·
    refine xa_aload_n d_Chart_findHolder_25 rfl ?_
    refine xa_getf f_Chart_9 d_Chart_findHolder_26 (by assumption) (by rfl) ?_
    refine xa_aload_n d_Chart_findHolder_29 rfl ?_
    refine xa_getf f_Chart_24 d_Chart_findHolder_30 (by assumption) (by rfl) ?_
    refine xa_iload_n d_Chart_findHolder_33 rfl ?_
    refine xa_iload_n d_Chart_findHolder_34 rfl ?_
    refine xa_callVr (As := [.int (nI q), .int (nI i)]) (st := [.ref g]) d_Chart_findHolder_35 k_Chart_78 r2 (c_Areas_pointOf (o := o) (s := s) r2 r4 r5 hN (by omega) (w4 q (by omega)) (by omega) (w3 _ (by omega))) rfl rfl (Nat.le_of_ble_eq_true rfl) ⟨hR.1, hR.2⟩ (by omega) (by omega) ?_
    refine xa_iload d_Chart_findHolder_38 rfl ?_
    refine xa_callVr (As := [.int (nI (o (s q + i))), .int (nI w)]) (st := []) d_Chart_findHolder_40 k_Chart_82 r6 (c_Grid_neighbour r6 r7 hN hpi hb4) rfl rfl (Nat.le_of_ble_eq_true rfl) ⟨hR.1, by have := hR.2; show 8 + (3 + 11) + 0 ≤ _; omega⟩ (by omega) (by omega) ?_
    have again : ∀ t' : Nat, gc_M n b (fun j => o (s q + j)) i (w + 1) t' → ∀ z : Int32, xa_X l D H0 M_Chart_findHolder R (xa_Zr D H0 0 0 (fun v h' sz' => v = some (.int (nI (gc_hold n b (o (s q))))) ∧ h' = h ∧ sz' = sz)) 0 0 h sz 88 [(0, .ref ch), (1, .int (nI q)), (2, .int (nI t')), (3, .int (nI i)), (4, .int (nI w)), (5, .int z)] [] := by
      intro t' hM' z
      refine xa_iincN d_Chart_findHolder_88 rfl rfl rfl ?_
      refine xa_goto (tgt := 19) d_Chart_findHolder_91 (by decide) ?_
      refine xa_ls ?_ (w_holder_in hR hr hW hq hi kont (w + 1) t' (by omega) hM')
      exact ⟨rfl, rfl, rfl, rfl, rfl, trivial⟩
    have hv := hf (o (s q + i)) w hpi hb4
    cases hnb : gb_nb n (o (s q + i)) w with
    | none =>
      rw [hnb] at hv
      refine xa_int (show f (4 * o (s q + i) + w) = -1 from hv) ?_
      refine xa_istore d_Chart_findHolder_43 rfl rfl ?_
      refine xa_iload d_Chart_findHolder_45 rfl ?_
      refine xa_iconst (v := -1) d_Chart_findHolder_47 rfl ?_
      refine xa_icmp_eq (tgt := 88) d_Chart_findHolder_48 (by decide) (fun hz => ?_) (fun hz => ?_)
      · refine xa_ls ?_ (again t ⟨hM.1, fun x hx => ?_, fun hx => ?_⟩ (-1))
        · exact ⟨rfl, rfl, rfl, rfl, rfl, rfl, trivial⟩
        · rcases gc_nb_w.mp hx with e | e
          · exact hM.2.1 x e
          · rw [hnb] at e; cases e
        · obtain ⟨x, e1, e2⟩ := hM.2.2 hx
          exact ⟨x, gc_nb_w.mpr (Or.inl e1), e2⟩
      · exact absurd rfl hz
    | some y =>
      rw [hnb] at hv
      have hy := gb_nb_lt hpi hb4 hnb
      have hby := hb y hy
      refine xa_int (show f (4 * o (s q + i) + w) = nI y from hv) ?_
      refine xa_istore d_Chart_findHolder_43 rfl rfl ?_
      refine xa_iload d_Chart_findHolder_45 rfl ?_
      refine xa_iconst (v := -1) d_Chart_findHolder_47 rfl ?_
      refine xa_icmp_eq (tgt := 88) d_Chart_findHolder_48 (by decide) (fun hz => ?_) (fun hz => ?_)
      · exact absurd hz (gb_m1 (by omega))
      ·
        refine xa_aload_n d_Chart_findHolder_51 rfl ?_
        refine xa_getf f_Chart_15 d_Chart_findHolder_52 (by assumption) (by rfl) ?_
        refine xa_iload d_Chart_findHolder_55 rfl ?_
        refine xa_ialdE d_Chart_findHolder_57 (by assumption) rfl (by omega) (by omega) (by rfl) ?_
        refine xa_if_neN (tgt := 64) d_Chart_findHolder_58 (by decide) (by omega) (fun hz2 => ?_) (fun hz2 => ?_)
        ·
          refine xa_iload_n d_Chart_findHolder_64 rfl ?_
          refine xa_aload_n d_Chart_findHolder_65 rfl ?_
          refine xa_getf f_Chart_15 d_Chart_findHolder_66 (by assumption) (by rfl) ?_
          refine xa_iload d_Chart_findHolder_69 rfl ?_
          refine xa_ialdE d_Chart_findHolder_71 (by assumption) rfl (by omega) (by omega) (by rfl) ?_
          refine xa_callSNr (As := [.int (nI (b y))]) (st := [.int (nI t)]) d_Chart_findHolder_72 k_Chart_85 (c_SB_otherSide (by omega)) rfl rfl (Nat.le_of_ble_eq_true rfl) ⟨hR.1, by have := hR.2; show 8 + (1 + 11) + 0 ≤ _; omega⟩ (by omega) (by omega) ?_
          refine xa_icmp_neN (tgt := 80) d_Chart_findHolder_75 (by decide) (by omega) (by omega) (fun hz3 => ?_) (fun hz3 => ?_)
          ·
            refine xa_aload_n d_Chart_findHolder_80 rfl ?_
            refine xa_getf f_Chart_15 d_Chart_findHolder_81 (by assumption) (by rfl) ?_
            refine xa_iload d_Chart_findHolder_84 rfl ?_
            refine xa_ialdE d_Chart_findHolder_86 (by assumption) rfl (by omega) (by omega) (by rfl) ?_
            refine xa_istore_n d_Chart_findHolder_87 rfl rfl ?_
            refine xa_ls ?_ (again (b y) ⟨hby, fun x hx => ?_, fun hx => ⟨y, gc_nb_w.mpr (Or.inr hnb), rfl⟩⟩ (nI y))
            · exact ⟨rfl, rfl, rfl, rfl, rfl, rfl, trivial⟩
            · rcases gc_nb_w.mp hx with e | e
              · rcases hM.2.1 x e with e1 | e1
                · exact Or.inl e1
                · by_cases h0 : t = 0
                  · exact Or.inl (by omega)
                  · exact Or.inr (by omega)
              · rw [hnb] at e; cases e; exact Or.inr rfl
          ·
            refine xa_iconst (v := nI 0) d_Chart_findHolder_78 rfl ?_
            obtain ⟨x, ⟨j, v, hjv, e1⟩, e2⟩ := hM.2.2 (by omega)
            have m1 : gc_meet n b (o (s q)) t := ⟨o (s q + j), v, x, (a5 _).mpr ⟨j, by omega, rfl⟩, by omega, e1, e2⟩
            have m2 : gc_meet n b (o (s q)) (b y) := ⟨o (s q + i), w, y, hcon, hb4, hnb, rfl⟩
            have h0 : gc_hold n b (o (s q)) = 0 := gc_hold_0 (Or.inl (by
              rcases (show (t = 1 ∧ b y = 2) ∨ (t = 2 ∧ b y = 1) by omega) with ⟨e3, e4⟩ | ⟨e3, e4⟩
              · rw [e3] at m1; rw [e4] at m2; exact ⟨m1, m2⟩
              · rw [e3] at m1; rw [e4] at m2; exact ⟨m2, m1⟩))
            exact xa_ireturn d_Chart_findHolder_79 rfl (by omega) (by omega) ⟨by rw [h0], rfl, rfl⟩
        ·
          refine xa_goto (tgt := 88) d_Chart_findHolder_61 (by decide) ?_
          refine xa_ls ?_ (again t ⟨hM.1, fun x hx => ?_, fun hx => ?_⟩ (nI y))
          · exact ⟨rfl, rfl, rfl, rfl, rfl, rfl, trivial⟩
          · rcases gc_nb_w.mp hx with e | e
            · exact hM.2.1 x e
            · rw [hnb] at e; cases e; exact Or.inl hz2
          · obtain ⟨x, e1, e2⟩ := hM.2.2 hx
            exact ⟨x, gc_nb_w.mpr (Or.inl e1), e2⟩
termination_by 4 - w
decreasing_by omega
theorem w_holder {n ch g aK c q : Nat} {f A O S : Nat → Int32} {b ar o s : Nat → Nat} (hR : 1 ≤ R.frames ∧ 22 ≤ R.locals) (hr : xc_R D h n ch g aK c f A O S b) (hW : xt_W n (fun q => nI (b q)) c ar o s A O S) (hq : q < c)
    (i t : Nat) (hi : i ≤ s (q + 1) - s q) (hM : gc_M n b (fun j => o (s q + j)) i 0 t) :
    xa_X l D H0 M_Chart_findHolder R (xa_Zr D H0 0 0 (fun v h' sz' => v = some (.int (nI (gc_hold n b (o (s q))))) ∧ h' = h ∧ sz' = sz)) 0 0 h sz 4 [(0, .ref ch), (1, .int (nI q)), (2, .int (nI t)), (3, .int (nI i))] [] := by
  obtain ⟨r1, r2, r3, r4, r5, r6, r7, r8, hN, hf, hb⟩ := id hr
  obtain ⟨w1, w2, w3, w4⟩ := id hW
  obtain ⟨a1, a2, a3, a4, a5⟩ := gs_W_area w1 hq
  have hcN : c ≤ n * n := w1.2.2.2.2.2.2.2.2.2.2
  have hlt := w1.2.2.2.2.2.2.2.1 q hq
  refine xa_iload_n d_Chart_findHolder_4 rfl ?_
  refine xa_aload_n d_Chart_findHolder_5 rfl ?_
  refine xa_getf f_Chart_24 d_Chart_findHolder_6 (by assumption) (by rfl) ?_
  refine xa_iload_n d_Chart_findHolder_9 rfl ?_
  refine xa_callVr (As := [.int (nI q)]) (st := [.int (nI i)]) d_Chart_findHolder_10 k_Chart_75 r2 (c_Areas_sizeOf (s := s) r2 r5 hN (by omega) (w4 q (by omega)) (w4 (q + 1) (by omega)) (by omega)) rfl rfl (Nat.le_of_ble_eq_true rfl) ⟨hR.1, by have := hR.2; show 8 + (2 + 11) + 0 ≤ _; omega⟩ (by omega) (by omega) ?_
  refine xa_icmp_geN (tgt := 100) d_Chart_findHolder_13 (by decide) (by omega) (by omega) (fun hb4 => ?_) (fun hb4 => ?_)
  ·
    refine xa_iload_n d_Chart_findHolder_100 rfl ?_
    have hie : i = s (q + 1) - s q := by omega
    rw [hie] at hM
    exact xa_ireturn d_Chart_findHolder_101 rfl (by omega) (by omega) ⟨by rw [gc_M_end a5 hM], rfl, rfl⟩
  ·
    refine xa_iconst (v := nI 0) d_Chart_findHolder_16 rfl ?_
    refine xa_istore d_Chart_findHolder_17 rfl rfl ?_
    refine xa_ls ?_ (w_holder_in hR hr hW hq hb4 (fun t' hM' => ?_) 0 t (by omega) hM)
    · exact ⟨rfl, rfl, rfl, rfl, rfl, trivial⟩
    ·
      refine xa_iincN d_Chart_findHolder_94 rfl rfl rfl ?_
      refine xa_goto (tgt := 4) d_Chart_findHolder_97 (by decide) ?_
      refine xa_ls ?_ (w_holder hR hr hW hq (i + 1) t' (by omega) ⟨hM'.1, fun x hx => hM'.2.1 x (gc_nb_i.mp hx), fun hx => ?_⟩)
      · exact ⟨rfl, rfl, rfl, rfl, trivial⟩
      · obtain ⟨x, e1, e2⟩ := hM'.2.2 hx
        exact ⟨x, gc_nb_i.mpr e1, e2⟩
termination_by s (q + 1) - s q - i
decreasing_by omega
theorem c_Chart_findHolder {n ch g aK c q : Nat} {f A O S : Nat → Int32} {b ar o s : Nat → Nat} (hr : xc_R D h n ch g aK c f A O S b) (hW : xt_W n (fun q => nI (b q)) c ar o s A O S) (hq : q < c) :
    xa_M l D H0 M_Chart_findHolder 1 22 0 0 [.ref ch, .int (nI q)] h sz (fun v h' sz' => v = some (.int (nI (gc_hold n b (o (s q))))) ∧ h' = h ∧ sz' = sz) := by
  refine xa_enter (by decide) rfl rfl ?_
  refine xa_iconst (v := nI 0) d_Chart_findHolder_0 rfl ?_
  refine xa_istore_n d_Chart_findHolder_1 rfl rfl ?_
  refine xa_iconst (v := nI 0) d_Chart_findHolder_2 rfl ?_
  refine xa_istore_n d_Chart_findHolder_3 rfl rfl ?_
  refine xa_ls ?_ (w_holder ⟨by decide, by decide⟩ hr hW hq 0 0 (by omega) ⟨by omega, fun x hx => absurd hx gc_nb_0, fun hx => absurd rfl hx⟩)
  exact ⟨rfl, rfl, rfl, rfl, trivial⟩
theorem c_Chart_get5 {ch a1 g aK N q x : Nat} {w : Nat} {F : Nat → Int32} {v2 v3 v4 : Value} (hc : h ch = some (.inr (2, [.ref a1, .ref g, .ref aK, .ref w, v2, v3, v4]))) (hF : h w = some (.inl (D.1 100, N, .inl F))) (hN : N < 1000) (hq : q < N) (hx : F q = nI x) :
    xa_M l D H0 M_Chart_breathsOf 0 0 0 0 [.ref ch, .int (nI q)] h sz (fun v h' sz' => v = some (.int (nI x)) ∧ h' = h ∧ sz' = sz) := by
  refine xa_enter (by decide) rfl rfl ?_
  refine xa_aload_n d_Chart_breathsOf_0 rfl ?_
  refine xa_getf f_Chart_34 d_Chart_breathsOf_1 (by assumption) (by rfl) ?_
  refine xa_iload_n d_Chart_breathsOf_4 rfl ?_
  refine xa_ialdE d_Chart_breathsOf_5 hF rfl (hq) (by omega) (hx) ?_
  exact xa_ireturn d_Chart_breathsOf_6 rfl (by omega) (by omega) ⟨rfl, rfl, rfl⟩
theorem c_Chart_get6 {ch a1 g aK N q x : Nat} {w : Nat} {F : Nat → Int32} {v2 v3 v4 : Value} (hc : h ch = some (.inr (2, [.ref a1, .ref g, .ref aK, v2, .ref w, v3, v4]))) (hF : h w = some (.inl (D.1 100, N, .inl F))) (hN : N < 1000) (hq : q < N) (hx : F q = nI x) :
    xa_M l D H0 M_Chart_leastBreathOf 0 0 0 0 [.ref ch, .int (nI q)] h sz (fun v h' sz' => v = some (.int (nI x)) ∧ h' = h ∧ sz' = sz) := by
  refine xa_enter (by decide) rfl rfl ?_
  refine xa_aload_n d_Chart_leastBreathOf_0 rfl ?_
  refine xa_getf f_Chart_37 d_Chart_leastBreathOf_1 (by assumption) (by rfl) ?_
  refine xa_iload_n d_Chart_leastBreathOf_4 rfl ?_
  refine xa_ialdE d_Chart_leastBreathOf_5 hF rfl (hq) (by omega) (hx) ?_
  exact xa_ireturn d_Chart_leastBreathOf_6 rfl (by omega) (by omega) ⟨rfl, rfl, rfl⟩
theorem c_Chart_get7 {ch a1 g aK N q x : Nat} {w : Nat} {F : Nat → Int32} {v2 v3 v4 : Value} (hc : h ch = some (.inr (2, [.ref a1, .ref g, .ref aK, v2, v3, .ref w, v4]))) (hF : h w = some (.inl (D.1 100, N, .inl F))) (hN : N < 1000) (hq : q < N) (hx : F q = nI x) :
    xa_M l D H0 M_Chart_holderOf 0 0 0 0 [.ref ch, .int (nI q)] h sz (fun v h' sz' => v = some (.int (nI x)) ∧ h' = h ∧ sz' = sz) := by
  refine xa_enter (by decide) rfl rfl ?_
  refine xa_aload_n d_Chart_holderOf_0 rfl ?_
  refine xa_getf f_Chart_40 d_Chart_holderOf_1 (by assumption) (by rfl) ?_
  refine xa_iload_n d_Chart_holderOf_4 rfl ?_
  refine xa_ialdE d_Chart_holderOf_5 hF rfl (hq) (by omega) (hx) ?_
  exact xa_ireturn d_Chart_holderOf_6 rfl (by omega) (by omega) ⟨rfl, rfl, rfl⟩
end CH
