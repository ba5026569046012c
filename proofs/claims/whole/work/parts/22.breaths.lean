/-! Chart.countBreaths. -/
section MM
variable {l : Launch} {D : va_G} {H0 : Heap} {μ : xa_Mu} {R : Room} {Z : xa_Z} {k n : Nat} {h : xa_H} {sz pc : Nat} {ls : List (Nat × Value)} {st : List Value}
theorem xa_cd_min : xa_cd M_Math_min = Cond.code Lib.Math.min.name Lib.Math.min.code 2 (some .int) := by decide +kernel
theorem xa_cd_max : xa_cd M_Math_max = Cond.code Lib.Math.max.name Lib.Math.max.code 2 (some .int) := by decide +kernel
theorem xa_min {idx : Nat} {x y : Int32} (hLk : xa_LS μ.1.cls idx M_Math_min 2) (hd : decode μ.2.1 pc = .ok (.invokestatic idx, 3)) (hf : 1 ≤ R.frames) (hlo : (st.map fun v => v.category).sum + 13 ≤ R.locals) (hc : k ≤ R.cells) (hs : n ≤ R.slots) (kk : xa_X l D H0 μ R Z k n h sz (pc + 3) ls (.int (if y < x then y else x) :: st)) : xa_X l D H0 μ R Z k n h sz pc ls (.int y :: .int x :: st) := by
  intro p e s m args below meth c H locs la C hP hL hl
  obtain ⟨⟨b1, b2, -, -, -⟩, b6, b7⟩ := hLk
  have hts := C.2.2.2.2.1
  rw [xa_cd_min] at b1
  exact va_mmin C.1 C.2.1 (by rw [C.2.2.1]; exact hl.1.symm) C.2.2.2.1 (hts _ b6) (hts _ b7) (hts _ b2) (hts _ b1) hf hlo hc hs hd (kk p e s m args below meth c H locs la C hP hL hl)
theorem xa_max {idx : Nat} {x y : Int32} (hLk : xa_LS μ.1.cls idx M_Math_max 2) (hd : decode μ.2.1 pc = .ok (.invokestatic idx, 3)) (hf : 1 ≤ R.frames) (hlo : (st.map fun v => v.category).sum + 13 ≤ R.locals) (hc : k ≤ R.cells) (hs : n ≤ R.slots) (kk : xa_X l D H0 μ R Z k n h sz (pc + 3) ls (.int (if x < y then y else x) :: st)) : xa_X l D H0 μ R Z k n h sz pc ls (.int y :: .int x :: st) := by
  intro p e s m args below meth c H locs la C hP hL hl
  obtain ⟨⟨b1, b2, -, -, -⟩, b6, b7⟩ := hLk
  have hts := C.2.2.2.2.1
  rw [xa_cd_max] at b1
  exact va_mmax C.1 C.2.1 (by rw [C.2.2.1]; exact hl.1.symm) C.2.2.2.1 (hts _ b6) (hts _ b7) (hts _ b2) (hts _ b1) hf hlo hc hs hd (kk p e s m args below meth c H locs la C hP hL hl)
end MM
section CB
variable {l : Launch} {D : va_G} {H0 : Heap} {h : xa_H} {sz : Nat} {R : Room} {Z : xa_Z}
theorem xc_R_u {n ch g aK c q : Nat} {f A O S : Nat → Int32} {b : Nat → Nat} {e : va_E} (hr : xc_R D h n ch g aK c f A O S b) (hlt : g + 1 < ch ∧ aK < ch) (hq : ch + 5 ≤ q) : xc_R D (xa_u h q e) n ch g aK c f A O S b := by
  obtain ⟨r1, r2, r3, r4, r5, r6, r7, r8, hx⟩ := hr
  exact ⟨xa_u_ne r1 (by omega), xa_u_ne r2 (by omega), xa_u_ne r3 (by omega), xa_u_ne r4 (by omega), xa_u_ne r5 (by omega), xa_u_ne r6 (by omega), xa_u_ne r7 (by omega), xa_u_ne r8 (by omega), hx⟩
/-- the state inside countBreaths -/
def xc_B (n : Nat) (b : Nat → Nat) (P : Nat → Nat) (q i w : Nat) (CB0 CB : Nat → Int32) (fd m : Nat) : Prop :=
  (∀ x, x < n * n → (CB x = nI q ↔ gc_F n b P i w x)) ∧ (∀ x, x < n * n → CB x = CB0 x ∨ CB x = nI q) ∧ fd = gb_cnt (gc_F n b P i w) (n * n) ∧ gc_least (n * n) (gc_F n b P i w) m
theorem xc_B_same {n : Nat} {b : Nat → Nat} {P : Nat → Nat} {q i w i' w' : Nat} {CB0 CB : Nat → Int32} {fd m : Nat} (h : xc_B n b P q i w CB0 CB fd m) (he : ∀ x, gc_F n b P i' w' x ↔ gc_F n b P i w x) : xc_B n b P q i' w' CB0 CB fd m :=
  ⟨fun x hx => by rw [he x]; exact h.1 x hx, h.2.1, by rw [h.2.2.1]; exact gb_cnt_eq _ (fun x _ => (he x).symm), gc_least_eq h.2.2.2 he⟩
theorem xc_B_add {n : Nat} {b : Nat → Nat} {P : Nat → Nat} {q i w y : Nat} {CB0 CB : Nat → Int32} {fd m : Nat} (h : xc_B n b P q i w CB0 CB fd m) (hnb : gb_nb n (P i) w = some y) (hy : y < n * n) (h0 : b y = 0) (hC : CB y ≠ nI q) : xc_B n b P q i (w + 1) CB0 (upd CB y (nI q)) (fd + 1) (if y < m then y else m) := by
  have he : ∀ x, gc_F n b P i (w + 1) x ↔ gc_F n b P i w x ∨ x = y := fun x => by
    constructor
    · rintro ⟨h1, h2, h3⟩
      rcases gc_nb_w.mp h3 with e | e
      · exact Or.inl ⟨h1, h2, e⟩
      · rw [hnb] at e; cases e; exact Or.inr rfl
    · rintro (⟨h1, h2, h3⟩ | e)
      · exact ⟨h1, h2, gc_nb_w.mpr (Or.inl h3)⟩
      · rw [e]; exact ⟨hy, h0, gc_nb_w.mpr (Or.inr hnb)⟩
  refine ⟨fun x hx => ?_, fun x hx => ?_, ?_, gc_least_add h.2.2.2 hy he⟩
  · rw [he x]
    by_cases hxy : x = y
    · simp [upd, hxy]
    · simp only [upd, if_neg hxy, h.1 x hx]
      exact ⟨Or.inl, fun z => z.resolve_right hxy⟩
  · by_cases hxy : x = y
    · simp [upd, hxy]
    · simp only [upd, if_neg hxy]; exact h.2.1 x hx
  · rw [h.2.2.1]
    exact (gb_cnt_add (fun z => hC ((h.1 y hy).mpr z)) he _ hy).symm
theorem w_breaths_in {n ch g aK c q i : Nat} {f A O S CB0 : Nat → Int32} {b ar o s : Nat → Nat} (hR : 1 ≤ R.frames ∧ 22 ≤ R.locals) (hr : xc_R D h n ch g aK c f A O S b) (hlt : g + 1 < ch ∧ aK < ch) (hW : xt_W n (fun q => nI (b q)) c ar o s A O S) (hq : q < c) (hi : i < s (q + 1) - s q)
    (kont : ∀ (CB : Nat → Int32) (fd m : Nat), xc_B n b (fun j => o (s q + j)) q i 4 CB0 CB fd m → xa_X l D H0 M_Chart_countBreaths R Z 0 0 (xa_u h (ch + 8) (.inl (D.1 100, n * n, .inl CB))) sz 107 [(0, .ref ch), (1, .int (nI q)), (2, .int (nI fd)), (3, .int (nI m)), (4, .int (nI i))] [])
    (w : Nat) (CB : Nat → Int32) (fd m : Nat) (hw : w ≤ 4) (hB : xc_B n b (fun j => o (s q + j)) q i w CB0 CB fd m) :
    xa_X l D H0 M_Chart_countBreaths R Z 0 0 (xa_u h (ch + 8) (.inl (D.1 100, n * n, .inl CB))) sz 29 [(0, .ref ch), (1, .int (nI q)), (2, .int (nI fd)), (3, .int (nI m)), (4, .int (nI i)), (5, .int (nI w))] [] := by
  obtain ⟨r1, r2, r3, r4, r5, r6, r7, r8, hN, hf, hb⟩ := xc_R_u (e := .inl (D.1 100, n * n, .inl CB)) hr hlt (show ch + 5 ≤ ch + 8 by omega)
  have r9 : xa_u h (ch + 8) (.inl (D.1 100, n * n, .inl CB)) (ch + 8) = some (.inl (D.1 100, n * n, .inl CB)) := xa_u_eq _ _ _
  obtain ⟨w1, w2, w3, w4⟩ := id hW
  obtain ⟨a1, a2, a3, a4, a5⟩ := gs_W_area w1 hq
  have hcN : c ≤ n * n := w1.2.2.2.2.2.2.2.2.2.2
  have hpi : o (s q + i) < n * n := w1.2.2.1 _ (by omega)
  have hm := hB.2.2.2.1
  refine xa_iload d_Chart_countBreaths_29 rfl ?_
  refine xa_iconst (v := nI 4) d_Chart_countBreaths_31 rfl ?_
  refine xa_icmp_geN (tgt := 107) d_Chart_countBreaths_32 (by decide) (by omega) (by omega) (fun hb4 => ?_) (fun hb4 => ?_)
  · have hw4 : w = 4 := by omega
    subst hw4
    refine xa_ls ?_ (kont CB fd m hB)
    exact ⟨rfl, rfl, rfl, rfl, rfl, trivial⟩
  ·
    refine xa_aload_n d_Chart_countBreaths_35 rfl ?_
    refine xa_getf f_Chart_9 d_Chart_countBreaths_36 (by assumption) (by rfl) ?_
    refine xa_aload_n d_Chart_countBreaths_39 rfl ?_
    refine xa_getf f_Chart_24 d_Chart_countBreaths_40 (by assumption) (by rfl) ?_
    refine xa_iload_n d_Chart_countBreaths_43 rfl ?_
    refine xa_iload d_Chart_countBreaths_44 rfl ?_
    refine xa_callVr (As := [.int (nI q), .int (nI i)]) (st := [.ref g]) d_Chart_countBreaths_46 k_Chart_78 r2 (c_Areas_pointOf (o := o) (s := s) r2 r4 r5 hN (by omega) (w4 q (by omega)) (by omega) (w3 _ (by omega))) rfl rfl (Nat.le_of_ble_eq_true rfl) ⟨hR.1, hR.2⟩ (by omega) (by omega) ?_
    refine xa_iload d_Chart_countBreaths_49 rfl ?_
    refine xa_callVr (As := [.int (nI (o (s q + i))), .int (nI w)]) (st := []) d_Chart_countBreaths_51 k_Chart_82 r6 (c_Grid_neighbour r6 r7 hN hpi hb4) rfl rfl (Nat.le_of_ble_eq_true rfl) ⟨hR.1, hR.2⟩ (by omega) (by omega) ?_
    have again : ∀ (CB' : Nat → Int32) (fd' m' : Nat), xc_B n b (fun j => o (s q + j)) q i (w + 1) CB0 CB' fd' m' → ∀ z : Int32, xa_X l D H0 M_Chart_countBreaths R Z 0 0 (xa_u h (ch + 8) (.inl (D.1 100, n * n, .inl CB'))) sz 101 [(0, .ref ch), (1, .int (nI q)), (2, .int (nI fd')), (3, .int (nI m')), (4, .int (nI i)), (5, .int (nI w)), (6, .int z)] [] := by
      intro CB' fd' m' hB' z
      refine xa_iincN d_Chart_countBreaths_101 rfl rfl rfl ?_
      refine xa_goto (tgt := 29) d_Chart_countBreaths_104 (by decide) ?_
      refine xa_ls ?_ (w_breaths_in hR hr hlt hW hq hi kont (w + 1) CB' fd' m' (by omega) hB')
      exact ⟨rfl, rfl, rfl, rfl, rfl, rfl, trivial⟩
    have same : ∀ y, gb_nb n (o (s q + i)) w = y → (∀ x, y = some x → x < n * n → b x = 0 → gc_F n b (fun j => o (s q + j)) i w x) → xc_B n b (fun j => o (s q + j)) q i (w + 1) CB0 CB fd m := fun y hy hs => xc_B_same hB (fun x => by
      constructor
      · rintro ⟨h1, h2, h3⟩
        rcases gc_nb_w.mp h3 with e | e
        · exact ⟨h1, h2, e⟩
        · exact hs x (hy.symm.trans e) h1 h2
      · rintro ⟨h1, h2, h3⟩
        exact ⟨h1, h2, gc_nb_w.mpr (Or.inl h3)⟩)
    have hv := hf (o (s q + i)) w hpi hb4
    cases hnb : gb_nb n (o (s q + i)) w with
    | none =>
      rw [hnb] at hv
      refine xa_int (show f (4 * o (s q + i) + w) = -1 from hv) ?_
      refine xa_istore d_Chart_countBreaths_54 rfl rfl ?_
      refine xa_iload d_Chart_countBreaths_56 rfl ?_
      refine xa_iconst (v := -1) d_Chart_countBreaths_58 rfl ?_
      refine xa_icmp_eq (tgt := 101) d_Chart_countBreaths_59 (by decide) (fun hz => ?_) (fun hz => ?_)
      · refine xa_ls ?_ (again CB fd m (same _ hnb (fun x hx => by cases hx)) (-1))
        exact ⟨rfl, rfl, rfl, rfl, rfl, rfl, rfl, trivial⟩
      · exact absurd rfl hz
    | some y =>
      rw [hnb] at hv
      have hy := gb_nb_lt hpi hb4 hnb
      have hby := hb y hy
      refine xa_int (show f (4 * o (s q + i) + w) = nI y from hv) ?_
      refine xa_istore d_Chart_countBreaths_54 rfl rfl ?_
      refine xa_iload d_Chart_countBreaths_56 rfl ?_
      refine xa_iconst (v := -1) d_Chart_countBreaths_58 rfl ?_
      refine xa_icmp_eq (tgt := 101) d_Chart_countBreaths_59 (by decide) (fun hz => ?_) (fun hz => ?_)
      · exact absurd hz (gb_m1 (by omega))
      ·
        refine xa_aload_n d_Chart_countBreaths_62 rfl ?_
        refine xa_getf f_Chart_15 d_Chart_countBreaths_63 (by assumption) (by rfl) ?_
        refine xa_iload d_Chart_countBreaths_66 rfl ?_
        refine xa_ialdE d_Chart_countBreaths_68 (by assumption) rfl (by omega) (by omega) (by rfl) ?_
        refine xa_if_neN (tgt := 101) d_Chart_countBreaths_69 (by decide) (by omega) (fun hz2 => ?_) (fun hz2 => ?_)
        · refine xa_ls ?_ (again CB fd m (same _ hnb (fun x hx h1 h2 => by cases hx; omega)) (nI y))
          exact ⟨rfl, rfl, rfl, rfl, rfl, rfl, rfl, trivial⟩
        ·
          refine xa_aload_n d_Chart_countBreaths_72 rfl ?_
          refine xa_getf f_Chart_43 d_Chart_countBreaths_73 (by assumption) (by rfl) ?_
          refine xa_iload d_Chart_countBreaths_76 rfl ?_
          refine xa_ialdE d_Chart_countBreaths_78 (by assumption) rfl (by omega) (by omega) (by rfl) ?_
          refine xa_iload_n d_Chart_countBreaths_79 rfl ?_
          refine xa_icmp_eq (tgt := 101) d_Chart_countBreaths_80 (by decide) (fun hz3 => ?_) (fun hz3 => ?_)
          · refine xa_ls ?_ (again CB fd m (same _ hnb (fun x hx h1 h2 => by cases hx; exact (hB.1 y hy).mp hz3)) (nI y))
            exact ⟨rfl, rfl, rfl, rfl, rfl, rfl, rfl, trivial⟩
          ·
            refine xa_aload_n d_Chart_countBreaths_83 rfl ?_
            refine xa_getf f_Chart_43 d_Chart_countBreaths_84 (by assumption) (by rfl) ?_
            refine xa_iload d_Chart_countBreaths_87 rfl ?_
            refine xa_iload_n d_Chart_countBreaths_89 rfl ?_
            refine xa_iastE d_Chart_countBreaths_90 r9 rfl hy (by omega) ?_
            rw [xa_uu]
            refine xa_iincN d_Chart_countBreaths_91 rfl rfl rfl ?_
            refine xa_iload_n d_Chart_countBreaths_94 rfl ?_
            refine xa_iload d_Chart_countBreaths_95 rfl ?_
            refine xa_min k_Chart_88 d_Chart_countBreaths_97 hR.1 (by have := hR.2; show 0 + 13 ≤ _; omega) (by omega) (by omega) ?_
            refine xa_int (y := nI (if y < m then y else m)) (by
              by_cases hym : y < m
              · rw [if_pos hym, if_pos (nI_lt hym (by omega))]
              · rw [if_neg hym, if_neg (nI_nlt (by omega) (by omega))]) ?_
            refine xa_istore_n d_Chart_countBreaths_100 rfl rfl ?_
            refine xa_ls ?_ (again (upd CB y (nI q)) (fd + 1) (if y < m then y else m) (xc_B_add hB hnb hy hz2 hz3) (nI y))
            exact ⟨rfl, rfl, rfl, rfl, rfl, rfl, rfl, trivial⟩
termination_by 4 - w
decreasing_by omega
/-- what countBreaths leaves -/
def xc_h (D : va_G) (h : xa_H) (N ch : Nat) (CB BR LB : Nat → Int32) : xa_H := xa_u (xa_u (xa_u h (ch + 8) (.inl (D.1 100, N, .inl CB))) (ch + 5) (.inl (D.1 100, N, .inl BR))) (ch + 6) (.inl (D.1 100, N, .inl LB))
theorem w_breaths {n ch g aK c q : Nat} {f A O S CB0 BR LB : Nat → Int32} {b ar o s : Nat → Nat} (hR : 1 ≤ R.frames ∧ 22 ≤ R.locals) (hr : xc_R D h n ch g aK c f A O S b) (hlt : g + 1 < ch ∧ aK < ch) (hBR : h (ch + 5) = some (.inl (D.1 100, n * n, .inl BR))) (hLB : h (ch + 6) = some (.inl (D.1 100, n * n, .inl LB))) (hW : xt_W n (fun q => nI (b q)) c ar o s A O S) (hq : q < c)
    (i : Nat) (CB : Nat → Int32) (fd m : Nat) (hi : i ≤ s (q + 1) - s q) (hB : xc_B n b (fun j => o (s q + j)) q i 0 CB0 CB fd m) :
    xa_X l D H0 M_Chart_countBreaths R (xa_Zr D H0 0 0 (fun v h' sz' => ∃ (CB : Nat → Int32) (m : Nat), (∀ x, x < n * n → CB x = CB0 x ∨ CB x = nI q) ∧ gc_least (n * n) (gt_br n (fun q => nI (b q)) (o (s q))) m ∧ v = none ∧ h' = xc_h D h (n * n) ch CB (upd BR q (nI (gb_cnt (gt_br n (fun q => nI (b q)) (o (s q))) (n * n)))) (upd LB q (nI m)) ∧ sz' = sz)) 0 0 (xa_u h (ch + 8) (.inl (D.1 100, n * n, .inl CB))) sz 13 [(0, .ref ch), (1, .int (nI q)), (2, .int (nI fd)), (3, .int (nI m)), (4, .int (nI i))] [] := by
  obtain ⟨r1, r2, r3, r4, r5, r6, r7, r8, hN, hf, hb⟩ := xc_R_u (e := .inl (D.1 100, n * n, .inl CB)) hr hlt (show ch + 5 ≤ ch + 8 by omega)
  have r9 : xa_u h (ch + 8) (.inl (D.1 100, n * n, .inl CB)) (ch + 5) = some (.inl (D.1 100, n * n, .inl BR)) := xa_u_ne hBR (by omega)
  obtain ⟨w1, w2, w3, w4⟩ := id hW
  obtain ⟨a1, a2, a3, a4, a5⟩ := gs_W_area w1 hq
  have hcN : c ≤ n * n := w1.2.2.2.2.2.2.2.2.2.2
  have hsz := w1.2.2.2.2.2.2.2.1 q hq
  refine xa_iload d_Chart_countBreaths_13 rfl ?_
  refine xa_aload_n d_Chart_countBreaths_15 rfl ?_
  refine xa_getf f_Chart_24 d_Chart_countBreaths_16 (by assumption) (by rfl) ?_
  refine xa_iload_n d_Chart_countBreaths_19 rfl ?_
  refine xa_callVr (As := [.int (nI q)]) (st := [.int (nI i)]) d_Chart_countBreaths_20 k_Chart_75 r2 (c_Areas_sizeOf (s := s) r2 r5 hN (by omega) (w4 q (by omega)) (w4 (q + 1) (by omega)) (by omega)) rfl rfl (Nat.le_of_ble_eq_true rfl) ⟨hR.1, by have := hR.2; show 8 + (2 + 11) + 0 ≤ _; omega⟩ (by omega) (by omega) ?_
  refine xa_icmp_geN (tgt := 113) d_Chart_countBreaths_23 (by decide) (by omega) (by omega) (fun hb4 => ?_) (fun hb4 => ?_)
  · have hie : i = s (q + 1) - s q := by omega
    rw [hie] at hB
    have hE : ∀ x, gc_F n b (fun j => o (s q + j)) (s (q + 1) - s q) 0 x ↔ gt_br n (fun q => nI (b q)) (o (s q)) x := fun x => gc_F_end a3 hb a5
    have hfd : fd = gb_cnt (gt_br n (fun q => nI (b q)) (o (s q))) (n * n) := by rw [hB.2.2.1]; exact gb_cnt_eq _ (fun x _ => hE x)
    refine xa_aload_n d_Chart_countBreaths_113 rfl ?_
    refine xa_getf f_Chart_34 d_Chart_countBreaths_114 (by assumption) (by rfl) ?_
    refine xa_iload_n d_Chart_countBreaths_117 rfl ?_
    refine xa_iload_n d_Chart_countBreaths_118 rfl ?_
    refine xa_iastE d_Chart_countBreaths_119 r9 rfl (by omega) (by omega) ?_
    have r10 : xa_u (xa_u h (ch + 8) (.inl (D.1 100, n * n, .inl CB))) (ch + 5) (.inl (D.1 100, n * n, .inl (upd BR q (nI fd)))) ch = some (.inr (2, [.ref (ch + 1), .ref g, .ref aK, .ref (ch + 5), .ref (ch + 6), .ref (ch + 7), .ref (ch + 8)])) := xa_u_ne r1 (by omega)
    have r11 : xa_u (xa_u h (ch + 8) (.inl (D.1 100, n * n, .inl CB))) (ch + 5) (.inl (D.1 100, n * n, .inl (upd BR q (nI fd)))) (ch + 6) = some (.inl (D.1 100, n * n, .inl LB)) := xa_u_ne (xa_u_ne hLB (by omega)) (by omega)
    refine xa_aload_n d_Chart_countBreaths_120 rfl ?_
    refine xa_getf f_Chart_37 d_Chart_countBreaths_121 (by assumption) (by rfl) ?_
    refine xa_iload_n d_Chart_countBreaths_124 rfl ?_
    refine xa_iload_n d_Chart_countBreaths_125 rfl ?_
    refine xa_iastE d_Chart_countBreaths_126 r11 rfl (by omega) (by omega) ?_
    exact xa_return d_Chart_countBreaths_127 rfl (by omega) (by omega) ⟨CB, m, hB.2.1, gc_least_eq hB.2.2.2 (fun x => (hE x).symm), rfl, by rw [hfd]; rfl, rfl⟩
  ·
    refine xa_iconst (v := nI 0) d_Chart_countBreaths_26 rfl ?_
    refine xa_istore d_Chart_countBreaths_27 rfl rfl ?_
    refine xa_ls ?_ (w_breaths_in hR hr hlt hW hq hb4 (fun CB' fd' m' hB' => ?_) 0 CB fd m (by omega) hB)
    · exact ⟨rfl, rfl, rfl, rfl, rfl, rfl, trivial⟩
    ·
      refine xa_iincN d_Chart_countBreaths_107 rfl rfl rfl ?_
      refine xa_goto (tgt := 13) d_Chart_countBreaths_110 (by decide) ?_
      refine xa_ls ?_ (w_breaths hR hr hlt hBR hLB hW hq (i + 1) CB' fd' m' (by omega) (xc_B_same hB' (fun x => ?_)))
      · exact ⟨rfl, rfl, rfl, rfl, rfl, trivial⟩
      · exact ⟨fun ⟨h1, h2, h3⟩ => ⟨h1, h2, gc_nb_i.mp h3⟩, fun ⟨h1, h2, h3⟩ => ⟨h1, h2, gc_nb_i.mpr h3⟩⟩
termination_by s (q + 1) - s q - i
decreasing_by omega
theorem c_Chart_countBreaths {n ch g aK c q : Nat} {f A O S CB0 BR LB : Nat → Int32} {b ar o s : Nat → Nat} (hr : xc_R D h n ch g aK c f A O S b) (hlt : g + 1 < ch ∧ aK < ch) (hBR : h (ch + 5) = some (.inl (D.1 100, n * n, .inl BR))) (hLB : h (ch + 6) = some (.inl (D.1 100, n * n, .inl LB))) (hCB : h (ch + 8) = some (.inl (D.1 100, n * n, .inl CB0))) (hW : xt_W n (fun q => nI (b q)) c ar o s A O S) (hq : q < c) (hC : ∀ x, x < n * n → CB0 x ≠ nI q) :
    xa_M l D H0 M_Chart_countBreaths 1 22 0 0 [.ref ch, .int (nI q)] h sz (fun v h' sz' => ∃ (CB : Nat → Int32) (m : Nat), (∀ x, x < n * n → CB x = CB0 x ∨ CB x = nI q) ∧ gc_least (n * n) (gt_br n (fun q => nI (b q)) (o (s q))) m ∧ v = none ∧ h' = xc_h D h (n * n) ch CB (upd BR q (nI (gb_cnt (gt_br n (fun q => nI (b q)) (o (s q))) (n * n)))) (upd LB q (nI m)) ∧ sz' = sz) := by
  refine xa_enter (by decide) rfl rfl ?_
  obtain ⟨r1, r2, r3, r4, r5, r6, r7, r8, hN, hf, hb⟩ := id hr
  refine xa_iconst (v := nI 0) d_Chart_countBreaths_0 rfl ?_
  refine xa_istore_n d_Chart_countBreaths_1 rfl rfl ?_
  refine xa_aload_n d_Chart_countBreaths_2 rfl ?_
  refine xa_getf f_Chart_9 d_Chart_countBreaths_3 (by assumption) (by rfl) ?_
  refine xa_getf f_Chart_28 d_Chart_countBreaths_6 (by assumption) (by rfl) ?_
  refine xa_istore_n d_Chart_countBreaths_9 rfl rfl ?_
  refine xa_iconst (v := nI 0) d_Chart_countBreaths_10 rfl ?_
  refine xa_istore d_Chart_countBreaths_11 rfl rfl ?_
  refine xa_heap (xa_us h hCB).symm ?_
  refine xa_ls ?_ (w_breaths ⟨by decide, by decide⟩ hr hlt hBR hLB hW hq 0 CB0 0 (n * n) (by omega) ⟨fun x hx => ⟨fun z => absurd z (hC x hx), fun z => absurd z.2.2 gc_nb_0⟩, fun x hx => Or.inl rfl, (gb_cnt_0 _ (fun x _ z => gc_nb_0 z.2.2)).symm, ⟨Nat.le_refl _, fun x hx => absurd hx.2.2 gc_nb_0, fun z => absurd z (Nat.lt_irrefl _)⟩⟩)
  exact ⟨rfl, rfl, rfl, rfl, rfl, trivial⟩
end CB
