/-! Life: judge, countSafe; StoneBoard: alive, safe. -/
/-- life as judged for a side -/
def xL_J (D : va_G) (h : xa_H) (n lf g aK : Nat) (kb : Nat → Nat) : Prop :=
  ∃ (c : Nat) (f A O S ST BT RG : Nat → Int32) (ar o s : Nat → Nat), xl_R D h n lf g aK c f A O S kb ∧ xt_W n (fun q => nI (kb q)) c ar o s A O S ∧ h (lf + 6) = some (.inl (D.1 102, n * n, .inl ST)) ∧ h (lf + 7) = some (.inl (D.1 100, 4 * (n * n), .inl BT)) ∧ h (lf + 8) = some (.inl (D.1 100, n * n, .inl RG)) ∧ (∀ a, a < c → ST a = 0 ∨ ST a = 1) ∧ ∀ p, p < n * n → (ST (ar p) = 1 ↔ gl_al n kb p)
theorem xL_J.S {D : va_G} {h : xa_H} {n lf g aK : Nat} {kb : Nat → Nat} (hJ : xL_J D h n lf g aK kb) : xL_S D h lf g aK (n * n) := by
  obtain ⟨c, f, A, O, S, ST, BT, RG, ar, o, s, ⟨r1, r2, r3, r4, r5, r6, r7, r8, hx⟩, hW, h6, h7, h8, -⟩ := hJ
  exact ⟨c, _, A, O, S, ST, BT, RG, r1, r2, r3, r4, r5, r6, h6, h7, h8⟩
section LJ
variable {l : Launch} {D : va_G} {H0 : Heap} {h : xa_H} {sz : Nat} {R : Room} {n lf g aK c : Nat} {f A O S : Nat → Int32} {kb ar o s : Nat → Nat}
theorem w_judge3 {sd : Nat} {BT : Nat → Int32} {h0 : xa_H} (hR : 4 ≤ R.frames ∧ 94 ≤ R.locals) (hr : xl_R D h n lf g aK c f A O S kb) (hlt : g + 1 < lf) (hW : xt_W n (fun q => nI (kb q)) c ar o s A O S) (hBT : ∀ r, r < c → gl_BT n c kb ar o s BT r) (hfr : ∀ q, q < lf ∨ lf + 9 ≤ q → h q = h0 q) (i : Nat) (hi : i ≤ c) (ST RG : Nat → Int32) (hJ : gl_J n c kb ar o s i ST) :
    xa_X l D H0 M_Life_judge R (xa_Zr D H0 0 0 (fun v h' sz' => v = none ∧ xL_J D h' n lf g aK kb ∧ (∀ q, q < lf ∨ lf + 9 ≤ q → h' q = h0 q) ∧ sz' = sz)) 0 0 (xj_h D h lf (n * n) ST BT RG) sz 84 [(0, .ref lf), (1, .int (nI sd)), (2, .int (nI i))] [] := by
  have hr' := xj_R (N := n * n) (ST := ST) (BT := BT) (RG := RG) hr hlt
  obtain ⟨r1, r2, r3, r4, r5, r6, r7, r8, hN, hf, hb⟩ := id hr'
  obtain ⟨w1, w2, w3, w4⟩ := id hW
  have hcN : c ≤ n * n := w1.2.2.2.2.2.2.2.2.2.2
  have hBT2 : ∀ i, i < 4 * c → BT i = -1 ∨ ∃ g, g < c ∧ BT i = nI g := fun j hj => by
    have hj4 : 4 * (j / 4) + j % 4 = j := by omega
    rcases (hBT (j / 4) (by omega)).1 (j % 4) (Nat.mod_lt _ (by decide)) with e | ⟨g, hg, e, -⟩
    · rw [hj4] at e; exact Or.inl e
    · rw [hj4] at e; exact Or.inr ⟨g, hg, e⟩
  have done : ∀ (ST RG : Nat → Int32) (lsx : List (Nat × Value)), (∀ a, a < c → ST a = 0 ∨ ST a = 1) → (∀ p, p < n * n → (ST (ar p) = 1 ↔ gl_al n kb p)) → xa_X l D H0 M_Life_judge R (xa_Zr D H0 0 0 (fun v h' sz' => v = none ∧ xL_J D h' n lf g aK kb ∧ (∀ q, q < lf ∨ lf + 9 ≤ q → h' q = h0 q) ∧ sz' = sz)) 0 0 (xj_h D h lf (n * n) ST BT RG) sz 112 lsx [] := by
    intro ST RG lsx hs hal
    exact xa_return d_Life_judge_112 rfl (by omega) (by omega) ⟨rfl, ⟨c, f, A, O, S, ST, BT, RG, ar, o, s, xj_R hr hlt, hW, xj_6, xj_7, xj_8, hs, hal⟩, fun q hq => by rw [xj_hn (by omega)]; exact hfr q hq, rfl⟩
  refine xa_iload_n d_Life_judge_84 rfl ?_
  refine xa_aload_n d_Life_judge_85 rfl ?_
  refine xa_getf f_Life_33 d_Life_judge_86 (by assumption) (by rfl) ?_
  refine xa_getf f_Life_51 d_Life_judge_89 (by assumption) (by rfl) ?_
  refine xa_icmp_geN (tgt := 112) d_Life_judge_92 (by decide) (by omega) (by omega) (fun hbc => ?_) (fun hbc => ?_)
  · exact done ST RG _ hJ.2.2.1 (gl_J_out w1 hJ hbc)
  ·
    refine xa_aload_n d_Life_judge_95 rfl ?_
    refine xa_callV (As := []) (st := []) d_Life_judge_96 k_Life_56 r1 (c_Life_letStrings hr hlt hW hBT2 hJ.2.2.1) rfl rfl (Nat.le_of_ble_eq_true rfl) ⟨by have := hR.1; show 2 + 1 ≤ _; omega, by have := hR.2; show 8 + (3 + 11) + 44 ≤ _; omega⟩ (by omega) (by omega) (fun v h' sz' hq => ?_)
    obtain ⟨ST1, RG1, h1, hv, e2, e3⟩ := hq
    rw [e2, e3]
    have hs1 : ∀ a, a < c → ST1 a = 0 ∨ ST1 a = 1 := fun a ha => by
      by_cases hF : gl_Fa c kb o s BT ST a
      · exact Or.inl ((h1 a ha).1 hF)
      · rw [(h1 a ha).2 hF]; exact hJ.2.2.1 a ha
    rcases hv with ⟨hv, hfa⟩ | ⟨hv, hno⟩
    · rw [hv]
      refine xa_int (y := nI 1) rfl ?_
      refine xa_if_eqN (tgt := 112) d_Life_judge_99 (by decide) (by omega) (fun hz => ?_) (fun hz => ?_)
      · omega
      · have hr1 := xj_R (N := n * n) (ST := ST1) (BT := BT) (RG := RG1) hr hlt
        have q1 := hr1.1
        refine xa_aload_n d_Life_judge_102 rfl ?_
        refine xa_callV (As := []) (st := []) d_Life_judge_103 k_Life_60 q1 (c_Life_letRegions hr hlt hW hs1) rfl rfl (Nat.le_of_ble_eq_true rfl) ⟨hR.1, by have := hR.2; show 8 + (2 + 11) + 65 ≤ _; omega⟩ (by omega) (by omega) (fun v h' sz' hq => ?_)
        obtain ⟨ST2, h2, e1', e2', e3'⟩ := hq
        rw [e1', e2', e3']
        refine xa_iincN d_Life_judge_106 rfl rfl rfl ?_
        refine xa_goto (tgt := 84) d_Life_judge_109 (by decide) ?_
        refine xa_ls ?_ (w_judge3 (sd := sd) hR hr hlt hW hBT hfr (i + 1) (by omega) ST2 RG1 (gl_J_step w1 hN hb hBT hJ hfa h1 h2))
        exact ⟨rfl, rfl, rfl, trivial⟩
    · rw [hv]
      refine xa_int (y := nI 0) rfl ?_
      refine xa_if_eqN (tgt := 112) d_Life_judge_99 (by decide) (by omega) (fun hz => ?_) (fun hz => ?_)
      · refine done ST1 RG1 _ hs1 (fun p hp => ?_)
        rw [(h1 _ (w1.1 p hp)).2 (hno _ (w1.1 p hp))]
        exact gl_J_end w1 hN hb hBT hJ hno p hp
      · omega
termination_by c - i
decreasing_by omega
theorem w_judge2 {sd : Nat} {h0 : xa_H} (hR : 4 ≤ R.frames ∧ 94 ≤ R.locals) (hr : xl_R D h n lf g aK c f A O S kb) (hlt : g + 1 < lf) (hW : xt_W n (fun q => nI (kb q)) c ar o s A O S) (hfr : ∀ q, q < lf ∨ lf + 9 ≤ q → h q = h0 q) (i : Nat) (hi : i ≤ c) (ST BT RG : Nat → Int32) (hs : ∀ a, a < i → ST a = 1) (hB : ∀ a, a < i → gl_BT n c kb ar o s BT a) :
    xa_X l D H0 M_Life_judge R (xa_Zr D H0 0 0 (fun v h' sz' => v = none ∧ xL_J D h' n lf g aK kb ∧ (∀ q, q < lf ∨ lf + 9 ≤ q → h' q = h0 q) ∧ sz' = sz)) 0 0 (xj_h D h lf (n * n) ST BT RG) sz 53 [(0, .ref lf), (1, .int (nI sd)), (2, .int (nI i))] [] := by
  have hr' := xj_R (N := n * n) (ST := ST) (BT := BT) (RG := RG) hr hlt
  obtain ⟨r1, r2, r3, r4, r5, r6, r7, r8, hN, hf, hb⟩ := id hr'
  obtain ⟨w1, w2, w3, w4⟩ := id hW
  have hcN : c ≤ n * n := w1.2.2.2.2.2.2.2.2.2.2
  refine xa_iload_n d_Life_judge_53 rfl ?_
  refine xa_aload_n d_Life_judge_54 rfl ?_
  refine xa_getf f_Life_33 d_Life_judge_55 (by assumption) (by rfl) ?_
  refine xa_getf f_Life_51 d_Life_judge_58 (by assumption) (by rfl) ?_
  refine xa_icmp_geN (tgt := 82) d_Life_judge_61 (by decide) (by omega) (by omega) (fun hbc => ?_) (fun hbc => ?_)
  · have hic : i = c := by omega
    subst hic
    refine xa_iconst (v := nI 0) d_Life_judge_82 rfl ?_
    refine xa_istore_n d_Life_judge_83 rfl rfl ?_
    refine xa_ls ?_ (w_judge3 (sd := sd) hR hr hlt hW hB hfr 0 (by omega) ST RG (gl_J_0 w1 hs))
    exact ⟨rfl, rfl, rfl, trivial⟩
  ·
    refine xa_aload_n d_Life_judge_64 rfl ?_
    refine xa_getf f_Life_37 d_Life_judge_65 (by assumption) (by rfl) ?_
    refine xa_iload_n d_Life_judge_68 rfl ?_
    refine xa_iconst (v := nI 1) d_Life_judge_69 rfl ?_
    refine xa_zast d_Life_judge_70 xj_6 (show i < n * n by omega) rfl (by omega) ?_
    refine xa_heap (xj_u6 _) ?_
    have hr1 := xj_R (N := n * n) (ST := upd ST i (vp_nar .boolean (nI 1))) (BT := BT) (RG := RG) hr hlt
    have q1 := hr1.1
    refine xa_aload_n d_Life_judge_71 rfl ?_
    refine xa_iload_n d_Life_judge_72 rfl ?_
    refine xa_callV (As := [.int (nI i)]) (st := []) d_Life_judge_73 k_Life_52 q1 (c_Life_noteStrings hr hlt hW hbc) rfl rfl (Nat.le_of_ble_eq_true rfl) ⟨hR.1, hR.2⟩ (by omega) (by omega) (fun v h' sz' hq => ?_)
    obtain ⟨BT', hB', hB0, e1, e2, e3⟩ := hq
    rw [e1, e2, e3]
    refine xa_iincN d_Life_judge_76 rfl rfl rfl ?_
    refine xa_goto (tgt := 53) d_Life_judge_79 (by decide) ?_
    refine xa_ls ?_ (w_judge2 (sd := sd) hR hr hlt hW hfr (i + 1) (by omega) _ BT' RG (fun a ha => ?_) (fun a ha => ?_))
    · exact ⟨rfl, rfl, rfl, trivial⟩
    · by_cases he : a = i
      · rw [he]; exact if_pos rfl
      · have hu : upd ST i (vp_nar .boolean (nI 1)) a = ST a := if_neg he
        rw [hu]
        exact hs a (by omega)
    · by_cases he : a = i
      · rw [he]; exact hB'
      · have hs4 : ∀ v, v < 4 → BT' (4 * a + v) = BT (4 * a + v) := fun v hv => hB0 _ (by omega)
        obtain ⟨b1, b2, b3⟩ := hB a (by omega)
        refine ⟨fun v hv => by rw [hs4 v hv]; exact b1 v hv, fun v v' hv hv' => by rw [hs4 v hv, hs4 v' hv']; exact b2 v v' hv hv', fun g hg k0 k1 ba => ?_⟩
        obtain ⟨v, hv, e⟩ := b3 g hg k0 k1 ba
        exact ⟨v, hv, by rw [hs4 v hv]; exact e⟩
termination_by c - i
decreasing_by omega
theorem w_judge1 {sd : Nat} {b : Nat → Nat} {ST BT RG K0 : Nat → Int32} (hR : 4 ≤ R.frames ∧ 94 ≤ R.locals) (t0 : h lf = some (.inr (5, [.ref g, .ref aK, .ref (lf + 1), .ref (lf + 2), .ref (lf + 6), .ref (lf + 7), .ref (lf + 8)]))) (t2 : h (lf + 2) = some (.inr (1, [.int (nI c), .ref g, .ref (lf + 3), .ref (lf + 4), .ref (lf + 5)]))) (t3 : h (lf + 3) = some (.inl (D.1 100, n * n, .inl A))) (t4 : h (lf + 4) = some (.inl (D.1 100, n * n, .inl O))) (t5 : h (lf + 5) = some (.inl (D.1 100, n * n + 1, .inl S))) (t6 : h (lf + 6) = some (.inl (D.1 102, n * n, .inl ST))) (t7 : h (lf + 7) = some (.inl (D.1 100, 4 * (n * n), .inl BT))) (t8 : h (lf + 8) = some (.inl (D.1 100, n * n, .inl RG)))
    (hg : h g = some (.inr (3, [.int (nI (n * n)), .ref (g + 1)]))) (hag : h (g + 1) = some (.inl (D.1 100, 4 * (n * n), .inl f))) (hK : h aK = some (.inl (D.1 100, n * n, .inl (fun q => nI (b q))))) (hlt : g + 1 < lf ∧ aK < lf) (hN : n * n < 1000) (hf : ∀ q w, q < n * n → w < 4 → f (4 * q + w) = gb_oi (gb_nb n q w)) (hb : ∀ q, q < n * n → b q ≤ 2) (hsd : sd ≤ 2) (p : Nat) (hp : p ≤ n * n) :
    xa_X l D H0 M_Life_judge R (xa_Zr D H0 0 0 (fun v h' sz' => v = none ∧ xL_J D h' n lf g aK (gl_k b sd) ∧ (∀ q, q < lf ∨ lf + 9 ≤ q → h' q = h q) ∧ sz' = sz)) 0 0 (xa_u h (lf + 1) (.inl (D.1 100, n * n, .inl (fun q => if q < p then nI (gl_k b sd q) else K0 q)))) sz 2 [(0, .ref lf), (1, .int (nI sd)), (2, .int (nI p))] [] := by
  have fr : ∀ (E : va_E) (q : Nat), q ≠ lf + 1 → xa_u h (lf + 1) E q = h q := fun E q hq => xa_u_ne rfl hq
  have r0 : ∀ E, xa_u h (lf + 1) E lf = some (.inr (5, [.ref g, .ref aK, .ref (lf + 1), .ref (lf + 2), .ref (lf + 6), .ref (lf + 7), .ref (lf + 8)])) := fun E => (fr E _ (by omega)).trans t0
  have rg : ∀ E, xa_u h (lf + 1) E g = some (.inr (3, [.int (nI (n * n)), .ref (g + 1)])) := fun E => (fr E _ (by omega)).trans hg
  have rk : ∀ E, xa_u h (lf + 1) E aK = some (.inl (D.1 100, n * n, .inl (fun q => nI (b q)))) := fun E => (fr E _ (by omega)).trans hK
  have q0 := r0 (.inl (D.1 100, n * n, .inl (fun q => if q < p then nI (gl_k b sd q) else K0 q)))
  have qg := rg (.inl (D.1 100, n * n, .inl (fun q => if q < p then nI (gl_k b sd q) else K0 q)))
  have qk := rk (.inl (D.1 100, n * n, .inl (fun q => if q < p then nI (gl_k b sd q) else K0 q)))
  refine xa_iload_n d_Life_judge_2 rfl ?_
  refine xa_aload_n d_Life_judge_3 rfl ?_
  refine xa_getf f_Life_9 d_Life_judge_4 (by assumption) (by rfl) ?_
  refine xa_getf f_Life_19 d_Life_judge_7 (by assumption) (by rfl) ?_
  refine xa_icmp_geN (tgt := 40) d_Life_judge_10 (by decide) (by omega) (by omega) (fun hbp => ?_) (fun hbp => ?_)
  · have hpe : p = n * n := by omega
    subst hpe
    refine xa_cellI (g := fun q => nI (gl_k b sd q)) (fun j hj => if_pos hj) ?_
    have z0 := r0 (.inl (D.1 100, n * n, .inl (fun q => nI (gl_k b sd q))))
    have z2 : xa_u h (lf + 1) (.inl (D.1 100, n * n, .inl (fun q => nI (gl_k b sd q)))) (lf + 2) = some (.inr (1, [.int (nI c), .ref g, .ref (lf + 3), .ref (lf + 4), .ref (lf + 5)])) := (fr _ _ (by omega)).trans t2
    refine xa_aload_n d_Life_judge_40 rfl ?_
    refine xa_getf f_Life_33 d_Life_judge_41 (by assumption) (by rfl) ?_
    refine xa_aload_n d_Life_judge_44 rfl ?_
    refine xa_getf f_Life_25 d_Life_judge_45 (by assumption) (by rfl) ?_
    refine xa_callV (As := [.ref (lf + 1)]) (st := []) d_Life_judge_48 k_Life_47 z2 (c_Areas_split (n := n) (a := lf + 2) (g := g) (aK := lf + 1) (f := f) (K := fun q => nI (gl_k b sd q)) z2 ((fr _ _ (by omega)).trans hg) ((fr _ _ (by omega)).trans hag) (xa_u_eq _ _ _) ((fr _ _ (by omega)).trans t3) ((fr _ _ (by omega)).trans t4) ((fr _ _ (by omega)).trans t5) (by omega) hN hf) rfl rfl (Nat.le_of_ble_eq_true rfl) ⟨by have := hR.1; show 2 + 1 ≤ _; omega, by have := hR.2; show 8 + (4 + 11) + 49 ≤ _; omega⟩ (by omega) (by omega) (fun v h' sz' hq => ?_)
    obtain ⟨c', ar', o', s', A', O', S', hW, e1, e2, e3⟩ := hq
    rw [e1, e3]
    have g1 : ∀ q, q ≠ lf + 1 → (q < lf + 2 ∨ lf + 6 ≤ q) → h' q = h q := fun q h1 h2 => by rw [e2, ← fr _ q h1]; exact xt_hn rfl (by omega) (by omega) (by omega) (by omega)
    have hr : xl_R D h' n lf g aK c' f A' O' S' (gl_k b sd) := ⟨by rw [g1 _ (by omega) (by omega)]; exact t0, by rw [e2]; exact xt_hn (xa_u_eq _ _ _) (by omega) (by omega) (by omega) (by omega), by rw [e2]; exact xt_ha, by rw [e2]; exact xt_hA (by omega) (by omega) (by omega), by rw [e2]; exact xt_hO (by omega) (by omega), by rw [e2]; exact xt_hS (by omega), by rw [g1 _ (by omega) (by omega)]; exact hg, by rw [g1 _ (by omega) (by omega)]; exact hag, hN, hf, fun q _ => gl_k_le _ _ _⟩
    refine xa_heap (xj_0 (D := D) (h := h') (lf := lf) (N := n * n) (ST := ST) (BT := BT) (RG := RG) (by rw [g1 _ (by omega) (by omega)]; exact t6) (by rw [g1 _ (by omega) (by omega)]; exact t7) (by rw [g1 _ (by omega) (by omega)]; exact t8)).symm ?_
    refine xa_iconst (v := nI 0) d_Life_judge_51 rfl ?_
    refine xa_istore_n d_Life_judge_52 rfl rfl ?_
    refine xa_ls ?_ (w_judge2 (sd := sd) hR hr hlt.1 hW (fun q hq => g1 q (by omega) (by omega)) 0 (by omega) ST BT RG (fun a ha => absurd ha (Nat.not_lt_zero _)) (fun a ha => absurd ha (Nat.not_lt_zero _)))
    exact ⟨rfl, rfl, rfl, trivial⟩
  · have hbb := hb p hbp
    have next : ∀ x, x = gl_k b sd p → xa_X l D H0 M_Life_judge R (xa_Zr D H0 0 0 (fun v h' sz' => v = none ∧ xL_J D h' n lf g aK (gl_k b sd) ∧ (∀ q, q < lf ∨ lf + 9 ≤ q → h' q = h q) ∧ sz' = sz)) 0 0 (xa_u h (lf + 1) (.inl (D.1 100, n * n, .inl (fun q => if q < p then nI (gl_k b sd q) else K0 q)))) sz 33 [(0, .ref lf), (1, .int (nI sd)), (2, .int (nI p))] [.int (nI x), .int (nI p), .ref (lf + 1)] := by
      intro x hx
      refine xa_iastE d_Life_judge_33 (xa_u_eq _ _ _) rfl hbp (by omega) ?_
      rw [xa_uu]
      have hu : upd (fun q => if q < p then nI (gl_k b sd q) else K0 q) p (nI x) = fun q => if q < p + 1 then nI (gl_k b sd q) else K0 q := by
        funext q
        show (if q = p then _ else _) = _
        by_cases hqp : q = p
        · rw [if_pos hqp, if_pos (by omega), hx, hqp]
        · rw [if_neg hqp]
          show (if q < p then nI (gl_k b sd q) else K0 q) = _
          by_cases hq2 : q < p
          · rw [if_pos hq2, if_pos (by omega)]
          · rw [if_neg hq2, if_neg (by omega)]
      rw [hu]
      refine xa_iincN d_Life_judge_34 rfl rfl rfl ?_
      refine xa_goto (tgt := 2) d_Life_judge_37 (by decide) ?_
      refine xa_ls ?_ (w_judge1 (K0 := K0) hR t0 t2 t3 t4 t5 t6 t7 t8 hg hag hK hlt hN hf hb hsd (p + 1) (by omega))
      exact ⟨rfl, rfl, rfl, trivial⟩
    refine xa_aload_n d_Life_judge_13 rfl ?_
    refine xa_getf f_Life_25 d_Life_judge_14 (by assumption) (by rfl) ?_
    refine xa_iload_n d_Life_judge_17 rfl ?_
    refine xa_aload_n d_Life_judge_18 rfl ?_
    refine xa_getf f_Life_15 d_Life_judge_19 (by assumption) (by rfl) ?_
    refine xa_iload_n d_Life_judge_22 rfl ?_
    refine xa_ialdE d_Life_judge_23 qk rfl hbp (by omega) rfl ?_
    refine xa_iload_n d_Life_judge_24 rfl ?_
    refine xa_icmp_neN (tgt := 32) d_Life_judge_25 (by decide) (by omega) (by omega) (fun hz => ?_) (fun hz => ?_)
    ·
      refine xa_iconst (v := nI 0) d_Life_judge_32 rfl ?_
      exact next 0 (by unfold gl_k; rw [if_neg hz])
    ·
      refine xa_iconst (v := nI 1) d_Life_judge_28 rfl ?_
      refine xa_goto (tgt := 33) d_Life_judge_29 (by decide) ?_
      exact next 1 (by unfold gl_k; rw [if_pos hz])
termination_by n * n - p
decreasing_by omega
theorem c_Life_judge {sd : Nat} {b : Nat → Nat} (hL : xL_S D h lf g aK (n * n)) (hg : h g = some (.inr (3, [.int (nI (n * n)), .ref (g + 1)]))) (hag : h (g + 1) = some (.inl (D.1 100, 4 * (n * n), .inl f))) (hK : h aK = some (.inl (D.1 100, n * n, .inl (fun q => nI (b q))))) (hlt : g + 1 < lf ∧ aK < lf) (hN : n * n < 1000) (hf : ∀ q w, q < n * n → w < 4 → f (4 * q + w) = gb_oi (gb_nb n q w)) (hb : ∀ q, q < n * n → b q ≤ 2) (hsd : sd ≤ 2) :
    xa_M l D H0 M_Life_judge 4 94 0 0 [.ref lf, .int (nI sd)] h sz (fun v h' sz' => v = none ∧ xL_J D h' n lf g aK (gl_k b sd) ∧ (∀ q, q < lf ∨ lf + 9 ≤ q → h' q = h q) ∧ sz' = sz) := by
  obtain ⟨c, K, A, O, S, ST, BT, RG, t0, t1, t2, t3, t4, t5, t6, t7, t8⟩ := hL
  refine xa_enter (by decide) rfl rfl ?_
  refine xa_iconst (v := nI 0) d_Life_judge_0 rfl ?_
  refine xa_istore_n d_Life_judge_1 rfl rfl ?_
  refine xa_heap (h' := xa_u h (lf + 1) (.inl (D.1 100, n * n, .inl (fun q => if q < 0 then nI (gl_k b sd q) else K q)))) ?_ ?_
  · have e : (fun q => if q < 0 then nI (gl_k b sd q) else K q) = K := by
      funext q
      exact if_neg (Nat.not_lt_zero _)
    rw [e]
    exact (xa_us _ t1).symm
  · refine xa_ls ?_ (w_judge1 (K0 := K) ⟨by decide, by decide⟩ t0 t2 t3 t4 t5 t6 t7 t8 hg hag hK hlt hN hf hb hsd 0 (by omega))
    exact ⟨rfl, rfl, rfl, trivial⟩
/-- what safe answers -/
noncomputable def gl_safe (n : Nat) (kb : Nat → Nat) : Nat := @ite Nat (∃ p, p < n * n ∧ kb p = 1 ∧ gl_al n kb p) (Classical.propDecidable _) (gb_cnt (gl_al n kb) (n * n)) 0
theorem w_countSafe {ST : Nat → Int32} (hR : 2 ≤ R.frames ∧ 42 ≤ R.locals) (hr : xl_R D h n lf g aK c f A O S kb) (hW : xt_W n (fun q => nI (kb q)) c ar o s A O S) (h6 : h (lf + 6) = some (.inl (D.1 102, n * n, .inl ST))) (hs : ∀ a, a < c → ST a = 0 ∨ ST a = 1) (hal : ∀ p, p < n * n → (ST (ar p) = 1 ↔ gl_al n kb p)) (a : Nat) (ha : a ≤ c) (x : Nat) (hx : (x = 1 ∧ ∃ a', a' < a ∧ ST a' = 1 ∧ kb (o (s a')) = 1) ∨ (x = 0 ∧ ∀ a', a' < a → ¬ (ST a' = 1 ∧ kb (o (s a')) = 1))) :
    xa_X l D H0 M_Life_countSafe R (xa_Zr D H0 0 0 (fun v h' sz' => v = some (.int (nI (gl_safe n kb))) ∧ h' = h ∧ sz' = sz)) 0 0 h sz 6 [(0, .ref lf), (1, .int (nI x)), (2, .int (nI (gb_cnt (fun p => ar p < a ∧ gl_al n kb p) (n * n)))), (3, .int (nI a))] [] := by
  obtain ⟨r1, r2, r3, r4, r5, r6, r7, r8, hN, hf, hb⟩ := id hr
  obtain ⟨w1, w2, w3, w4⟩ := id hW
  have hcN : c ≤ n * n := w1.2.2.2.2.2.2.2.2.2.2
  refine xa_iload_n d_Life_countSafe_6 rfl ?_
  refine xa_aload_n d_Life_countSafe_7 rfl ?_
  refine xa_getf f_Life_33 d_Life_countSafe_8 (by assumption) (by rfl) ?_
  refine xa_getf f_Life_51 d_Life_countSafe_11 (by assumption) (by rfl) ?_
  refine xa_icmp_geN (tgt := 62) d_Life_countSafe_14 (by decide) (by omega) (by omega) (fun hbc => ?_) (fun hbc => ?_)
  · have hac : a = c := by omega
    subst hac
    have hall : gb_cnt (fun p => ar p < a ∧ gl_al n kb p) (n * n) = gb_cnt (gl_al n kb) (n * n) := gb_cnt_eq _ (fun q hq => ⟨fun z => z.2, fun z => ⟨w1.1 q hq, z⟩⟩)
    rw [hall]
    refine xa_iload_n d_Life_countSafe_62 rfl ?_
    rcases hx with ⟨hx, a', ha', hy1, hy2⟩ | ⟨hx, hy⟩
    · subst hx
      obtain ⟨a1, a2, a3, a4, a5⟩ := gs_W_area w1 ha'
      have hex : ∃ p, p < n * n ∧ kb p = 1 ∧ gl_al n kb p := ⟨_, a3, hy2, (hal _ a3).mp (by rw [a4]; exact hy1)⟩
      refine xa_if_eqN (tgt := 70) d_Life_countSafe_63 (by decide) (by omega) (fun hz => ?_) (fun hz => ?_)
      · omega
      ·
        refine xa_iload_n d_Life_countSafe_66 rfl ?_
        refine xa_goto (tgt := 71) d_Life_countSafe_67 (by decide) ?_
        refine xa_ireturn d_Life_countSafe_71 rfl (by omega) (by omega) ⟨?_, rfl, rfl⟩
        unfold gl_safe
        rw [if_pos hex]
    · subst hx
      have hnex : ¬ ∃ p, p < n * n ∧ kb p = 1 ∧ gl_al n kb p := fun ⟨p, hp, hk, hl⟩ => hy _ (w1.1 p hp) ⟨(hal p hp).mpr hl, by rw [← gl_kb w1 hb hp]; exact hk⟩
      refine xa_if_eqN (tgt := 70) d_Life_countSafe_63 (by decide) (by omega) (fun hz => ?_) (fun hz => ?_)
      ·
        refine xa_iconst (v := nI 0) d_Life_countSafe_70 rfl ?_
        refine xa_ireturn d_Life_countSafe_71 rfl (by omega) (by omega) ⟨?_, rfl, rfl⟩
        unfold gl_safe
        rw [if_neg hnex]
      · omega
  · obtain ⟨a1, a2, a3, a4, a5⟩ := gs_W_area w1 hbc
    have hka := hb _ a3
    have hse := gs_W_size w1 hbc
    have hlt := w1.2.2.2.2.2.2.2.1 a hbc
    have hin : ∀ q, q < n * n → ar q = a → (gl_al n kb q ↔ ST a = 1) := fun q hq he => by rw [← hal q hq, he]
    refine xa_aload_n d_Life_countSafe_17 rfl ?_
    refine xa_getf f_Life_37 d_Life_countSafe_18 (by assumption) (by rfl) ?_
    refine xa_iload_n d_Life_countSafe_21 rfl ?_
    refine xa_zaldE d_Life_countSafe_22 h6 rfl (show a < n * n by omega) (by omega) rfl ?_
    refine xa_if_eq (tgt := 56) d_Life_countSafe_23 (by decide) (fun hz => ?_) (fun hz => ?_)
    · have hna : ¬ ST a = 1 := fun z => absurd (hz.symm.trans z) (by decide)
      refine xa_iincN d_Life_countSafe_56 rfl rfl rfl ?_
      refine xa_goto (tgt := 6) d_Life_countSafe_59 (by decide) ?_
      refine xa_ls ?_ (w_countSafe hR hr hW h6 hs hal (a + 1) (by omega) x ?_)
      · have e : gb_cnt (fun p => ar p < a ∧ gl_al n kb p) (n * n) = gb_cnt (fun p => ar p < a + 1 ∧ gl_al n kb p) (n * n) := gb_cnt_eq _ (fun q hq => ⟨fun z => ⟨by omega, z.2⟩, fun z => ⟨by
          by_cases he : ar q = a
          · exact absurd ((hin q hq he).mp z.2) hna
          · omega, z.2⟩⟩)
        exact ⟨rfl, rfl, by rw [e]; rfl, rfl, trivial⟩
      · rcases hx with ⟨hx, a', ha', hy⟩ | ⟨hx, hy⟩
        · exact Or.inl ⟨hx, a', by omega, hy⟩
        · refine Or.inr ⟨hx, fun a' ha' => ?_⟩
          by_cases he : a' = a
          · rw [he]; exact fun z => hna z.1
          · exact hy a' (by omega)
    · have hsa := (hs a hbc).resolve_left hz
      have fin : ∀ x' : Nat, ((x' = 1 ∧ ∃ a', a' < a + 1 ∧ ST a' = 1 ∧ kb (o (s a')) = 1) ∨ (x' = 0 ∧ ∀ a', a' < a + 1 → ¬ (ST a' = 1 ∧ kb (o (s a')) = 1))) → xa_X l D H0 M_Life_countSafe R (xa_Zr D H0 0 0 (fun v h' sz' => v = some (.int (nI (gl_safe n kb))) ∧ h' = h ∧ sz' = sz)) 0 0 h sz 45 [(0, .ref lf), (1, .int (nI x')), (2, .int (nI (gb_cnt (fun p => ar p < a ∧ gl_al n kb p) (n * n)))), (3, .int (nI a))] [] := by
        intro x' hx'
        refine xa_iload_n d_Life_countSafe_45 rfl ?_
        refine xa_aload_n d_Life_countSafe_46 rfl ?_
        refine xa_getf f_Life_33 d_Life_countSafe_47 (by assumption) (by rfl) ?_
        refine xa_iload_n d_Life_countSafe_50 rfl ?_
        refine xa_callVr (As := [.int (nI a)]) (st := [.int (nI (gb_cnt (fun p => ar p < a ∧ gl_al n kb p) (n * n)))]) d_Life_countSafe_51 k_Life_70 r3 (c_Areas_sizeOf (s := s) r3 r6 hN (by omega) (w4 _ (by omega)) (w4 (a + 1) (by omega)) (by omega)) rfl rfl (Nat.le_of_ble_eq_true rfl) ⟨by have := hR.1; show 0 + 1 ≤ _; omega, by have := hR.2; show 8 + (2 + 11) + 0 ≤ _; omega⟩ (by omega) (by omega) ?_
        refine xa_iaddN d_Life_countSafe_54 ?_
        refine xa_istore_n d_Life_countSafe_55 rfl rfl ?_
        refine xa_iincN d_Life_countSafe_56 rfl rfl rfl ?_
        refine xa_goto (tgt := 6) d_Life_countSafe_59 (by decide) ?_
        refine xa_ls ?_ (w_countSafe hR hr hW h6 hs hal (a + 1) (by omega) x' hx')
        have e : gb_cnt (fun p => ar p < a + 1 ∧ gl_al n kb p) (n * n) = gb_cnt (fun p => ar p < a ∧ gl_al n kb p) (n * n) + (s (a + 1) - s a) := by
          rw [← hse, ← gb_cnt_or (P := fun p => ar p < a ∧ gl_al n kb p) (P' := gb_conn n (fun q => nI (kb q)) (o (s a)))]
          rotate_left
          · rintro q hq ⟨z1, z2⟩
            have := (w1.2.1 _ _ a3 hq).mpr z2
            omega
          · refine gb_cnt_eq _ (fun q hq => ?_)
            constructor
            · intro z
              by_cases he : ar q = a
              · exact Or.inr ((w1.2.1 _ _ a3 hq).mp (by rw [a4, he]))
              · exact Or.inl ⟨by omega, z.2⟩
            · rintro (z | z)
              · exact ⟨by omega, z.2⟩
              · have he := (w1.2.1 _ _ a3 hq).mpr z
                exact ⟨by omega, (hin q hq (by omega)).mpr hsa⟩
        exact ⟨rfl, rfl, by rw [e]; rfl, rfl, trivial⟩
      refine xa_iload_n d_Life_countSafe_26 rfl ?_
      have hx01 : x ≤ 1 := by omega
      refine xa_if_neN (tgt := 39) d_Life_countSafe_27 (by decide) (by omega) (fun hz2 => ?_) (fun hz2 => ?_)
      ·
        refine xa_iconst (v := nI 1) d_Life_countSafe_39 rfl ?_
        refine xa_goto (tgt := 44) d_Life_countSafe_40 (by decide) ?_
        refine xa_istore_n d_Life_countSafe_44 rfl rfl ?_
        refine xa_ls ?_ (fin 1 (Or.inl ⟨rfl, ?_⟩))
        · exact ⟨rfl, rfl, rfl, rfl, trivial⟩
        · obtain ⟨a', ha', hy⟩ := (hx.resolve_right (fun z => by omega)).2
          exact ⟨a', by omega, hy⟩
      ·
        refine xa_aload_n d_Life_countSafe_30 rfl ?_
        refine xa_iload_n d_Life_countSafe_31 rfl ?_
        refine xa_callVr (As := [.int (nI a)]) (st := []) d_Life_countSafe_32 k_Life_67 r1 (c_Life_kindOf hr hW hbc) rfl rfl (Nat.le_of_ble_eq_true rfl) ⟨hR.1, hR.2⟩ (by omega) (by omega) ?_
        refine xa_iconst (v := nI 1) d_Life_countSafe_35 rfl ?_
        have hxn := (hx.resolve_left (fun z => by omega)).2
        refine xa_icmp_neN (tgt := 43) d_Life_countSafe_36 (by decide) (by omega) (by omega) (fun hz3 => ?_) (fun hz3 => ?_)
        ·
          refine xa_iconst (v := nI 0) d_Life_countSafe_43 rfl ?_
          refine xa_istore_n d_Life_countSafe_44 rfl rfl ?_
          refine xa_ls ?_ (fin 0 (Or.inr ⟨rfl, fun a' ha' => ?_⟩))
          · exact ⟨rfl, rfl, rfl, rfl, trivial⟩
          · by_cases he : a' = a
            · rw [he]; exact fun z => hz3 z.2
            · exact hxn a' (by omega)
        ·
          refine xa_iconst (v := nI 1) d_Life_countSafe_39 rfl ?_
          refine xa_goto (tgt := 44) d_Life_countSafe_40 (by decide) ?_
          refine xa_istore_n d_Life_countSafe_44 rfl rfl ?_
          refine xa_ls ?_ (fin 1 (Or.inl ⟨rfl, a, by omega, hsa, hz3⟩))
          exact ⟨rfl, rfl, rfl, rfl, trivial⟩
termination_by c - a
decreasing_by all_goals omega
theorem c_Life_countSafe (hJ : xL_J D h n lf g aK kb) :
    xa_M l D H0 M_Life_countSafe 2 42 0 0 [.ref lf] h sz (fun v h' sz' => v = some (.int (nI (gl_safe n kb))) ∧ h' = h ∧ sz' = sz) := by
  obtain ⟨c, f, A, O, S, ST, BT, RG, ar, o, s, hr, hW, h6, h7, h8, hs, hal⟩ := hJ
  refine xa_enter (by decide) rfl rfl ?_
  refine xa_iconst (v := nI 0) d_Life_countSafe_0 rfl ?_
  refine xa_istore_n d_Life_countSafe_1 rfl rfl ?_
  refine xa_iconst (v := nI 0) d_Life_countSafe_2 rfl ?_
  refine xa_istore_n d_Life_countSafe_3 rfl rfl ?_
  refine xa_iconst (v := nI 0) d_Life_countSafe_4 rfl ?_
  refine xa_istore_n d_Life_countSafe_5 rfl rfl ?_
  refine xa_ls ?_ (w_countSafe ⟨by decide, by decide⟩ hr hW h6 hs hal 0 (by omega) 0 (Or.inr ⟨rfl, fun a' ha' => absurd ha' (Nat.not_lt_zero _)⟩))
  exact ⟨rfl, rfl, by rw [gb_cnt_0 _ (fun q _ z => Nat.not_lt_zero _ z.1)]; rfl, rfl, trivial⟩
end LJ
section SB4
variable {l : Launch} {D : va_G} {H0 : Heap} {h : xa_H} {sz : Nat} {R : Room} {o T n fs : Nat} {b : Nat → Nat} {m : Nat} {bd : Nat → Nat → Nat} {pt : Nat → Int32} {tb tw : Nat → Nat}
theorem xS_S.life {h' : xa_H} (hS : xS_S D h o T n fs b m bd pt tb tw) (hT : o + 28 ≤ T) (hL : xL_S D h' (o + 19) (o + 1) (o + 3) (n * n)) (hf : ∀ q, q < o + 19 ∨ o + 19 + 9 ≤ q → h' q = h q) : xS_S D h' o T n fs b m bd pt tb tw := by
  obtain ⟨s1, s2, s3, s4, s5⟩ := hS
  refine ⟨by rw [hf _ (by omega)]; exact s1, s2.frame (fun q hq => hf q (by omega)), s3.frame (hf _ (by omega)) (hf _ (by omega)), xh_S_frame s4 (fun a e ha hk => ?_), hL⟩
  rw [hf a (by unfold xh_K at hk; omega)]
  exact ha
theorem c_SB_judged {sd : Nat} (hS : xS_S D h o T n fs b m bd pt tb tw) (hsd : sd ≤ 2) :
    xa_M l D H0 M_Life_judge 4 94 0 0 [.ref (o + 19), .int (nI sd)] h sz (fun v h' sz' => v = none ∧ xL_J D h' n (o + 19) (o + 1) (o + 3) (gl_k b sd) ∧ (∀ q, q < o + 19 ∨ o + 19 + 9 ≤ q → h' q = h q) ∧ sz' = sz) := by
  obtain ⟨s1, ⟨c, f, A, O, S, BR, LB, HO, CB, ar, o', s, ⟨r1, r2, r3, r4, r5, r6, r7, r8, hN, hf, hb⟩, -⟩, s3, s4, s5⟩ := id hS
  exact c_Life_judge (f := f) s5 r6 r7 r8 (by omega) hN hf hb hsd
theorem c_SB_alive {p : Nat} (hS : xS_S D h o T n fs b m bd pt tb tw) (hI : xS_I n fs b m bd) (hT : o + 28 ≤ T) (hp : p < n * n) :
    xa_M l D H0 M_SB_alive 7 116 0 0 [.ref o, .int (nI p)] h sz (fun v h' sz' => ((v = some (.int 1) ∧ b p ≠ 0 ∧ gl_al n (gl_k b (b p)) p) ∨ (v = some (.int 0) ∧ ¬ (b p ≠ 0 ∧ gl_al n (gl_k b (b p)) p))) ∧ xS_S D h' o T n fs b m bd pt tb tw ∧ (∀ q, q < o ∨ o + 28 ≤ q → h' q = h q) ∧ sz' = sz) := by
  have hN : n * n ≤ 169 := Nat.mul_le_mul hI.1.2 hI.1.2
  have s1 := hS.1
  have r8 := xS_stones hS
  have hb := xS_b hS
  have hbp := hb p hp
  have hL : ∃ vs, h (o + 19) = some (.inr (5, vs)) := by
    obtain ⟨c, K, A, O, S, ST, BT, RG, t0, -⟩ := hS.2.2.2.2
    exact ⟨_, t0⟩
  obtain ⟨vs, hL⟩ := hL
  refine xa_enter (by decide) rfl rfl ?_
  refine xa_aload_n d_SB_alive_0 rfl ?_
  refine xa_iload_n d_SB_alive_1 rfl ?_
  refine xa_callVr (As := [.int (nI p)]) (st := []) d_SB_alive_2 k_SB_73 s1 (c_SB_checkPoint hS hI hp) rfl rfl (Nat.le_of_ble_eq_true rfl) ⟨by decide, by decide⟩ (by decide) (by decide) ?_
  refine xa_aload_n d_SB_alive_5 rfl ?_
  refine xa_getf f_SB_34 d_SB_alive_6 (by assumption) (by rfl) ?_
  refine xa_iload_n d_SB_alive_9 rfl ?_
  refine xa_ialdE d_SB_alive_10 r8 rfl hp (by omega) rfl ?_
  refine xa_if_neN (tgt := 16) d_SB_alive_11 (by decide) (by omega) (fun hz => ?_) (fun hz => ?_)
  ·
    refine xa_aload_n d_SB_alive_16 rfl ?_
    refine xa_getf f_SB_66 d_SB_alive_17 (by assumption) (by rfl) ?_
    refine xa_aload_n d_SB_alive_20 rfl ?_
    refine xa_getf f_SB_34 d_SB_alive_21 (by assumption) (by rfl) ?_
    refine xa_iload_n d_SB_alive_24 rfl ?_
    refine xa_ialdE d_SB_alive_25 r8 rfl hp (by omega) rfl ?_
    refine xa_callV (As := [.int (nI (b p))]) (st := []) d_SB_alive_26 k_SB_189 hL (c_SB_judged hS hbp) rfl rfl (Nat.le_of_ble_eq_true rfl) ⟨by decide, by decide⟩ (by decide) (by decide) (fun v h' sz' hq => ?_)
    obtain ⟨e1, e2, e3, e4⟩ := hq
    rw [e1, e4]
    have hS' := hS.life hT e2.S e3
    have s1' := hS'.1
    have fr : ∀ q, q < o ∨ o + 28 ≤ q → h' q = h q := fun q hq => e3 q (by omega)
    obtain ⟨c, f, A, O, S, ST, BT, RG, ar, o', s, hr, hW, h6, h7, h8, hs, hal⟩ := e2
    have hap := hW.1.1 p hp
    refine xa_aload_n d_SB_alive_29 rfl ?_
    refine xa_getf f_SB_66 d_SB_alive_30 (by assumption) (by rfl) ?_
    refine xa_iload_n d_SB_alive_33 rfl ?_
    refine xa_callVr (As := [.int (nI p)]) (st := []) d_SB_alive_34 k_SB_192 hr.1 (c_Life_standsAt hr hW h6 hp rfl (hs _ hap)) rfl rfl (Nat.le_of_ble_eq_true rfl) ⟨by decide, by decide⟩ (by decide) (by decide) ?_
    rcases hs _ hap with e | e
    · refine xa_int (y := nI 0) e ?_
      refine xa_zreturn (v := nI 0) d_SB_alive_37 rfl (by decide) (by decide) (by decide) ⟨Or.inr ⟨rfl, fun z => ?_⟩, hS', fr, rfl⟩
      have := (hal p hp).mpr z.2
      rw [e] at this
      exact absurd this (by decide)
    · refine xa_int (y := nI 1) e ?_
      exact xa_zreturn (v := nI 1) d_SB_alive_37 rfl (by decide) (by decide) (by decide) ⟨Or.inl ⟨rfl, by omega, (hal p hp).mp e⟩, hS', fr, rfl⟩
  ·
    refine xa_iconst (v := nI 0) d_SB_alive_14 rfl ?_
    exact xa_zreturn (v := nI 0) d_SB_alive_15 rfl (by decide) (by decide) (by decide) ⟨Or.inr ⟨rfl, fun z => z.1 hz⟩, hS, fun _ _ => rfl, rfl⟩
theorem t_SB_alive {x : Int32} (htr : l.stackTraces = false) (hS : xS_S D h o T n fs b m bd pt tb tw) (hx : x < 0 ∨ nI (n * n) ≤ x) :
    xa_T l D H0 M_SB_alive 7 116 1 6 [.ref o, .int x] h sz "java/lang/IndexOutOfBoundsException" (fun h' sz' => h' = h ∧ sz ≤ sz') := by
  have s1 := hS.1
  refine xa_enterT (by decide) rfl rfl ?_
  refine xa_aload_n d_SB_alive_0 rfl ?_
  refine xa_iload_n d_SB_alive_1 rfl ?_
  exact xa_callVT (As := [.int x]) (st := []) d_SB_alive_2 rfl k_SB_73 s1 (t_SB_checkPoint htr hS hx) rfl rfl (Nat.le_of_ble_eq_true rfl) ⟨by decide, by decide⟩ (by decide) (by decide) (by decide) (by decide) (fun h' sz' hq => hq)
theorem c_SB_safe {sd : Nat} (hS : xS_S D h o T n fs b m bd pt tb tw) (hT : o + 28 ≤ T) (hsd : sd = 1 ∨ sd = 2) :
    xa_M l D H0 M_SB_safe 7 116 0 0 [.ref o, .int (nI sd)] h sz (fun v h' sz' => v = some (.int (nI (gl_safe n (gl_k b sd)))) ∧ xS_S D h' o T n fs b m bd pt tb tw ∧ (∀ q, q < o ∨ o + 28 ≤ q → h' q = h q) ∧ sz' = sz) := by
  have s1 := hS.1
  have hL : ∃ vs, h (o + 19) = some (.inr (5, vs)) := by
    obtain ⟨c, K, A, O, S, ST, BT, RG, t0, -⟩ := hS.2.2.2.2
    exact ⟨_, t0⟩
  obtain ⟨vs, hL⟩ := hL
  refine xa_enter (by decide) rfl rfl ?_
  refine xa_iload_n d_SB_safe_0 rfl ?_
  refine xa_callSr (As := [.int (nI sd)]) (st := []) d_SB_safe_1 k_SB_93 (c_SB_checkSide hsd) rfl rfl (Nat.le_of_ble_eq_true rfl) ⟨by decide, by decide⟩ (by decide) (by decide) ?_
  refine xa_aload_n d_SB_safe_4 rfl ?_
  refine xa_getf f_SB_66 d_SB_safe_5 (by assumption) (by rfl) ?_
  refine xa_iload_n d_SB_safe_8 rfl ?_
  refine xa_callV (As := [.int (nI sd)]) (st := []) d_SB_safe_9 k_SB_189 hL (c_SB_judged hS (by omega)) rfl rfl (Nat.le_of_ble_eq_true rfl) ⟨by decide, by decide⟩ (by decide) (by decide) (fun v h' sz' hq => ?_)
  obtain ⟨e1, e2, e3, e4⟩ := hq
  rw [e1, e4]
  have hS' := hS.life hT e2.S e3
  have s1' := hS'.1
  have hL' : h' (o + 19) = some (.inr (5, [.ref (o + 1), .ref (o + 3), .ref (o + 19 + 1), .ref (o + 19 + 2), .ref (o + 19 + 6), .ref (o + 19 + 7), .ref (o + 19 + 8)])) := by
    obtain ⟨c, f, A, O, S, ST, BT, RG, ar, o', s, hr, -⟩ := e2
    exact hr.1
  refine xa_aload_n d_SB_safe_12 rfl ?_
  refine xa_getf f_SB_66 d_SB_safe_13 (by assumption) (by rfl) ?_
  refine xa_callVr (As := []) (st := []) d_SB_safe_16 k_SB_196 hL' (c_Life_countSafe e2) rfl rfl (Nat.le_of_ble_eq_true rfl) ⟨by decide, by decide⟩ (by decide) (by decide) ?_
  exact xa_ireturn d_SB_safe_19 rfl (by decide) (by decide) ⟨rfl, hS', fun q hq => e3 q (by omega), rfl⟩
theorem t_SB_safe {x : Int32} (htr : l.stackTraces = false) (hx : x ≠ nI 1 ∧ x ≠ nI 2) :
    xa_T l D H0 M_SB_safe 7 116 1 6 [.ref o, .int x] h sz "java/lang/IllegalArgumentException" (fun h' sz' => h' = h ∧ sz ≤ sz') := by
  refine xa_enterT (by decide) rfl rfl ?_
  refine xa_iload_n d_SB_safe_0 rfl ?_
  exact xa_callST (As := [.int x]) (st := []) d_SB_safe_1 rfl k_SB_93 (t_SB_checkSide htr hx) rfl rfl (Nat.le_of_ble_eq_true rfl) ⟨by decide, by decide⟩ (by decide) (by decide) (by decide) (by decide) (fun h' sz' hq => hq)
end SB4
