/-! Trial: takeClosedStrings and attempt; System.arraycopy of a whole long array. -/
section AC
variable {l : Launch} {D : va_G} {H0 : Heap} {μ : xa_Mu} {R : Room} {Z : xa_Z} {k n : Nat} {h : xa_H} {sz pc : Nat} {ls : List (Nat × Value)} {st : List Value}
theorem xa_acopy {idx a0 a1 L : Nat} {f g : Nat → Int64} (hw : Cond.methodLink μ.1.cls idx arraycopyName ∈ xa_ws ∧ Cond.native arraycopyName ∈ xa_ws ∧ Cond.static arraycopyName ∈ xa_ws ∧ Cond.initialized "java/lang/System" ∈ xa_ws) (hd : decode μ.2.1 pc = .ok (.invokestatic idx, 3)) (h0 : h a0 = some (.inl (D.1 101, L, .inr (.inl f)))) (h1 : h a1 = some (.inl (D.1 101, L, .inr (.inl g)))) (hL : L < 2 ^ 31)
    (hfr : 1 ≤ R.frames) (hlo : (st.map fun v => v.category).sum + (nativeFrameWords "java/lang/System" "arraycopy" 5 + 11) ≤ R.locals) (kk : xa_X l D H0 μ R Z k n (xa_u h a1 (.inl (D.1 101, L, .inr (.inl f)))) sz (pc + 3) ls st) : xa_X l D H0 μ R Z k n h sz pc ls (.int (nI L) :: .int (nI 0) :: .ref a1 :: .int (nI 0) :: .ref a0 :: st) := by
  intro p e s m args below meth c H locs la C hP hL' hl T hT X
  obtain ⟨w1, w2, w3, w4⟩ := hw
  have hts := C.2.2.2.2.1
  have hK := C.2.2.2.2.2.1
  have hc0 : H[a0]? = some (vp_cell (D.1 101) (L, .inr (.inl f))) := (hP.2.2.2 a0 _ h0).2
  have hc1 : H[a1]? = some (vp_cell (D.1 101) (L, .inr (.inl g))) := (hP.2.2.2 a1 _ h1).2
  obtain ⟨-, k0, hk0, cm0, hkk0⟩ := (hK.2 1 _ rfl).1 L (fun j => .long (f j))
  have z0 : (nI 0).toNatClampNeg = 0 := nI_clamp (by decide)
  have zL : (nI L).toNatClampNeg = L := nI_clamp hL
  obtain ⟨vm', X', step⟩ := X.arraycopy C.1 C.2.2.2.1 (hts _ w1) (hts _ w2) (hts _ w3) (hts _ w4) (src := a0) (dst := a1) (cs := vp_cell (D.1 101) (L, .inr (.inl f))) (cd := vp_cell (D.1 101) (L, .inr (.inl g))) (srcPos := nI 0) (destPos := nI 0) (n := nI L) (by rw [hT]; exact hc0) (by rw [hT]; exact hc1)
    (fun _ h9 => by cases h9) (fun _ h9 => by cases h9) (fun h9 => by cases h9) (fun h9 => by cases h9) hk0 hk0 hkk0 hkk0 rfl (nI_pos (by decide)) (nI_pos (by decide)) (nI_pos hL)
    (by rw [nI_toInt (show 0 < 2 ^ 31 by decide), nI_toInt hL]; show ¬ _ > ((arrV (D.1 101) L (fun j => .long (f j))).slots.size : Int); rw [arrV_size]; omega)
    (by rw [nI_toInt (show 0 < 2 ^ 31 by decide), nI_toInt hL]; show ¬ _ > ((arrV (D.1 101) L (fun j => .long (g j))).slots.size : Int); rw [arrV_size]; omega)
    (fun vm₁ _ i hi => by
      rw [zL] at hi
      have e9 : (vp_cell (D.1 101) (L, .inr (.inl f))).slots.getD ((nI 0).toNatClampNeg + i) .null = .long (f i) := by
        rw [z0, Nat.zero_add]
        show (arrV (D.1 101) L (fun j => .long (f j))).slots.getD _ _ = _
        rw [Array.getD_eq_getD_getElem?, arrV_read _ _ hi]
        rfl
      refine ⟨?_, ?_⟩
      · rw [e9]; rfl
      · rw [e9]; exact trivial)
    (g := F0 m pc la (.int (nI L) :: .int (nI 0) :: .ref a1 :: .int (nI 0) :: .ref a0 :: st)) rfl (by rw [C.2.2.1]; exact hl.1) (rest := st) rfl (by rw [C.2.1]; exact hd) hfr (by show 2 * 0 + _ + _ ≤ _; omega)
  have e1 : copied (vp_cell (D.1 101) (L, .inr (.inl f))) (vp_cell (D.1 101) (L, .inr (.inl g))) (nI 0) (nI 0) (nI L) = vp_cell (D.1 101) (L, .inr (.inl f)) := by
    have e2 := va_copied (n1 := L) (dp := (nI 0).toNatClampNeg) (fun z => .long z) (D.1 101) (D.1 101) f g (show (nI 0).toNatClampNeg + (nI L).toNatClampNeg ≤ L by rw [z0, zL]; omega)
    refine Eq.trans e2 ?_
    rw [vp_cell_l]
    unfold arrV
    congr 2
    funext j
    show Value.long (va_cpy f g (nI 0).toNatClampNeg (nI 0).toNatClampNeg (nI L).toNatClampNeg j.val) = Value.long (f j.val)
    rw [z0, zL]
    unfold va_cpy
    rw [if_pos ⟨Nat.zero_le _, by have := j.isLt; omega⟩]
    simp
  rw [e1] at X' step
  have hlt : a1 < H.size := (Array.getElem?_eq_some_iff.mp hc1).1
  have hheap : ((T.setVm vm').setCell a1 (vp_cell (D.1 101) (L, .inr (.inl f)))).heap = H.setIfInBounds a1 (vp_cell (D.1 101) (L, .inr (.inl f))) := by rw [← hT]; rfl
  obtain ⟨t, b1, b2⟩ := kk p e s m args below meth c _ _ la C (hP.set h1 (e := .inl (D.1 101, L, .inr (.inl f))) (H1 := H.setIfInBounds a1 (vp_cell (D.1 101) (L, .inr (.inl f)))) (show (H.setIfInBounds a1 _)[a1]? = some _ by simp [Array.getElem?_setIfInBounds, hlt]) (by simp) (fun q hq => by simp [Array.getElem?_setIfInBounds, Ne.symm hq])) (fun q hq => by
    rcases List.mem_append.mp hq with h9 | h9
    · exact hL' q h9
    · obtain ⟨z, -, hz⟩ := List.mem_map.mp h9
      rw [← hz]
      exact (hP.2.2.2 a1 _ h1).1) hl _ hheap X'
  exact ⟨t, step t b1, b2⟩
end AC
section TC
variable {l : Launch} {D : va_G} {H0 : Heap} {h : xa_H} {sz : Nat} {R : Room}
theorem w_takeClosed {n ch g aK c tr p sd k0 ls : Nat} {f A O S BR : Nat → Int32} {b ar o s t0 : Nat → Nat} (hR : 2 ≤ R.frames ∧ 46 ≤ R.locals) (hr : xq_R D h n ch g aK c f A O S BR b ar o s) (hlt : g + 1 < ch ∧ aK < ch ∧ ch + 8 < tr) (hp : p < n * n) (hp0 : b p = 0) (hsd : sd = 1 ∨ sd = 2) (ht0 : ∀ q, q < n * n → q ≠ p → t0 q = b q)
    (w : Nat) (t V : Nat → Nat) (hw : w ≤ 4) (hV : gp_B (n * n) t V) (ht : gq_off (n * n) (gq_cap n b p sd w) t0 t) :
    xa_X l D H0 M_Trial_takeClosedStrings R (xa_Zr D H0 0 0 (fun v h' sz' => ∃ (t V : Nat → Nat), gp_B (n * n) t V ∧ gq_off (n * n) (gq_cap n b p sd 4) t0 t ∧ v = none ∧ h' = xr_h D h tr g aK ch (n * n) V (k0 + gb_cnt (gq_cap n b p sd 4) (n * n)) ls ∧ sz' = sz)) 0 0 (xr_h D h tr g aK ch (n * n) V (k0 + gb_cnt (gq_cap n b p sd w) (n * n)) ls) sz 2 [(0, .ref tr), (1, .int (nI p)), (2, .int (nI sd)), (3, .int (nI w))] [] := by
  have hr' : xq_R D (xr_h D h tr g aK ch (n * n) V (k0 + gb_cnt (gq_cap n b p sd w) (n * n)) ls) n ch g aK c f A O S BR b ar o s := xr_R hr hlt
  obtain ⟨⟨r1, r2, r3, r4, r5, r6, r7, r8, hN, hf, hb⟩, r9, ⟨w1, w2, w3, w4⟩, hBR⟩ := id hr'
  have r0 : xr_h D h tr g aK ch (n * n) V (k0 + gb_cnt (gq_cap n b p sd w) (n * n)) ls tr = some (.inr (7, [.ref (tr + 1), .int (nI (k0 + gb_cnt (gq_cap n b p sd w) (n * n))), .int (nI ls), .ref g, .ref aK, .ref ch])) := xr_h0
  refine xa_iload_n d_Trial_takeClosedStrings_2 rfl ?_
  refine xa_iconst (v := nI 4) d_Trial_takeClosedStrings_3 rfl ?_
  refine xa_icmp_geN (tgt := 79) d_Trial_takeClosedStrings_4 (by decide) (by omega) (by omega) (fun hb4 => ?_) (fun hb4 => ?_)
  · have hw4 : w = 4 := by omega
    subst hw4
    exact xa_return d_Trial_takeClosedStrings_79 rfl (by omega) (by omega) ⟨t, V, hV, ht, rfl, rfl, rfl⟩
  ·
    refine xa_aload_n d_Trial_takeClosedStrings_7 rfl ?_
    refine xa_getf f_Trial_9 d_Trial_takeClosedStrings_8 (by assumption) (by rfl) ?_
    refine xa_iload_n d_Trial_takeClosedStrings_11 rfl ?_
    refine xa_iload_n d_Trial_takeClosedStrings_12 rfl ?_
    refine xa_callVr (As := [.int (nI p), .int (nI w)]) (st := []) d_Trial_takeClosedStrings_13 k_Trial_67 r6 (c_Grid_neighbour r6 r7 hN hp hb4) rfl rfl (Nat.le_of_ble_eq_true rfl) ⟨by have := hR.1; show 0 + 1 ≤ _; omega, by have := hR.2; show 8 + (3 + 11) + 0 ≤ _; omega⟩ (by omega) (by omega) ?_
    have again : ∀ (t' V' : Nat → Nat) (k' : Nat), gp_B (n * n) t' V' → gq_off (n * n) (gq_cap n b p sd (w + 1)) t0 t' → k' = k0 + gb_cnt (gq_cap n b p sd (w + 1)) (n * n) → ∀ z : Int32, xa_X l D H0 M_Trial_takeClosedStrings R (xa_Zr D H0 0 0 (fun v h' sz' => ∃ (t V : Nat → Nat), gp_B (n * n) t V ∧ gq_off (n * n) (gq_cap n b p sd 4) t0 t ∧ v = none ∧ h' = xr_h D h tr g aK ch (n * n) V (k0 + gb_cnt (gq_cap n b p sd 4) (n * n)) ls ∧ sz' = sz)) 0 0 (xr_h D h tr g aK ch (n * n) V' k' ls) sz 73 [(0, .ref tr), (1, .int (nI p)), (2, .int (nI sd)), (3, .int (nI w)), (4, .int z)] [] := by
      intro t' V' k' hV' ht' hk' z
      subst hk'
      refine xa_iincN d_Trial_takeClosedStrings_73 rfl rfl rfl ?_
      refine xa_goto (tgt := 2) d_Trial_takeClosedStrings_76 (by decide) ?_
      refine xa_ls ?_ (w_takeClosed hR hr hlt hp hp0 hsd ht0 (w + 1) t' V' (by omega) hV' ht')
      exact ⟨rfl, rfl, rfl, rfl, trivial⟩
    have skip : (∀ x, gb_nb n p w = some x → b x = sd → gb_cnt (gt_br n (fun q => nI (b q)) x) (n * n) = 1 → gq_cap n b p sd w x) → ∀ z : Int32, xa_X l D H0 M_Trial_takeClosedStrings R (xa_Zr D H0 0 0 (fun v h' sz' => ∃ (t V : Nat → Nat), gp_B (n * n) t V ∧ gq_off (n * n) (gq_cap n b p sd 4) t0 t ∧ v = none ∧ h' = xr_h D h tr g aK ch (n * n) V (k0 + gb_cnt (gq_cap n b p sd 4) (n * n)) ls ∧ sz' = sz)) 0 0 (xr_h D h tr g aK ch (n * n) V (k0 + gb_cnt (gq_cap n b p sd w) (n * n)) ls) sz 73 [(0, .ref tr), (1, .int (nI p)), (2, .int (nI sd)), (3, .int (nI w)), (4, .int z)] [] := by
      intro hs z
      have he : ∀ q, q < n * n → (gq_cap n b p sd (w + 1) q ↔ gq_cap n b p sd w q) := fun q _ => by
        rw [gq_cap_w]
        constructor
        · rintro (h1 | ⟨x, h1, h2, h3, h4⟩)
          · exact h1
          · exact gq_cap_tr (hs x h1 h2 h3) h4
        · exact Or.inl
      exact again t V _ hV (gq_off_eq ht he) (by rw [gb_cnt_eq _ he]) z
    have hv := hf p w hp hb4
    cases hnb : gb_nb n p w with
    | none =>
      rw [hnb] at hv
      refine xa_int (show f (4 * p + w) = -1 from hv) ?_
      refine xa_istore d_Trial_takeClosedStrings_16 rfl rfl ?_
      refine xa_iload d_Trial_takeClosedStrings_18 rfl ?_
      refine xa_iconst (v := -1) d_Trial_takeClosedStrings_20 rfl ?_
      refine xa_icmp_eq (tgt := 73) d_Trial_takeClosedStrings_21 (by decide) (fun hz => ?_) (fun hz => ?_)
      · refine xa_ls ?_ (skip (fun x hx => by rw [hnb] at hx; cases hx) (-1))
        exact ⟨rfl, rfl, rfl, rfl, rfl, trivial⟩
      · exact absurd rfl hz
    | some y =>
      rw [hnb] at hv
      have hy := gb_nb_lt hp hb4 hnb
      have hby := hb y hy
      refine xa_int (show f (4 * p + w) = nI y from hv) ?_
      refine xa_istore d_Trial_takeClosedStrings_16 rfl rfl ?_
      refine xa_iload d_Trial_takeClosedStrings_18 rfl ?_
      refine xa_iconst (v := -1) d_Trial_takeClosedStrings_20 rfl ?_
      refine xa_icmp_eq (tgt := 73) d_Trial_takeClosedStrings_21 (by decide) (fun hz => ?_) (fun hz => ?_)
      · exact absurd hz (gb_m1 (by omega))
      ·
        refine xa_aload_n d_Trial_takeClosedStrings_24 rfl ?_
        refine xa_getf f_Trial_15 d_Trial_takeClosedStrings_25 (by assumption) (by rfl) ?_
        refine xa_iload d_Trial_takeClosedStrings_28 rfl ?_
        refine xa_ialdE d_Trial_takeClosedStrings_30 (by assumption) rfl (by omega) (by omega) (by rfl) ?_
        refine xa_iload_n d_Trial_takeClosedStrings_31 rfl ?_
        refine xa_icmp_neN (tgt := 73) d_Trial_takeClosedStrings_32 (by decide) (by omega) (by omega) (fun hz2 => ?_) (fun hz2 => ?_)
        · refine xa_ls ?_ (skip (fun x hx h2 => by rw [hnb] at hx; cases hx; exact absurd h2 hz2) (nI y))
          exact ⟨rfl, rfl, rfl, rfl, rfl, trivial⟩
        ·
          refine xa_aload_n d_Trial_takeClosedStrings_35 rfl ?_
          refine xa_iload d_Trial_takeClosedStrings_36 rfl ?_
          refine xa_callVr (As := [.int (nI y)]) (st := []) d_Trial_takeClosedStrings_38 k_Trial_71 r0 (c_Trial_isLastBreathOf hr' r0 hy (by omega)) rfl rfl (Nat.le_of_ble_eq_true rfl) ⟨by have := hR.1; show 1 + 1 ≤ _; omega, by have := hR.2; show 8 + (2 + 11) + 21 ≤ _; omega⟩ (by omega) (by omega) ?_
          by_cases h1 : gb_cnt (gt_br n (fun q => nI (b q)) y) (n * n) = 1
          · refine xa_int (show (if gb_cnt (gt_br n (fun q => nI (b q)) y) (n * n) = 1 then (1 : Int32) else 0) = nI 1 from by rw [if_pos h1]; rfl) ?_
            refine xa_if_eqN (tgt := 73) d_Trial_takeClosedStrings_41 (by decide) (by omega) (fun hz4 => ?_) (fun hz4 => ?_)
            · omega
            ·
              refine xa_aload_n d_Trial_takeClosedStrings_44 rfl ?_
              refine xa_getf f_Trial_35 d_Trial_takeClosedStrings_45 (by assumption) (by rfl) ?_
              refine xa_iload d_Trial_takeClosedStrings_48 rfl ?_
              refine xa_callSr (As := [.ref (tr + 1), .int (nI y)]) (st := []) d_Trial_takeClosedStrings_50 k_Trial_75 (c_Packed_kindAt xr_h1 hV hy hN) rfl rfl (Nat.le_of_ble_eq_true rfl) ⟨by have := hR.1; show 0 + 1 ≤ _; omega, by have := hR.2; show 8 + (3 + 11) + 0 ≤ _; omega⟩ (by omega) (by omega) ?_
              have hyp : y ≠ p := fun z => by rw [z] at hz2; omega
              have hty : t y < 2 ^ 31 := by
                by_cases hc : gq_cap n b p sd w y
                · rw [(ht y hy).1 hc]; decide
                · rw [(ht y hy).2 hc, ht0 y hy hyp]; omega
              refine xa_iload_n d_Trial_takeClosedStrings_53 rfl ?_
              refine xa_icmp_neN (tgt := 73) d_Trial_takeClosedStrings_54 (by decide) (by omega) (by omega) (fun hz5 => ?_) (fun hz5 => ?_)
              · refine xa_ls ?_ (skip (fun x hx h2 h3 => by
                  rw [hnb] at hx; cases hx
                  by_cases hc : gq_cap n b p sd w y
                  · exact hc
                  · rw [(ht y hy).2 hc, ht0 y hy hyp] at hz5; exact absurd hz2 hz5) (nI y))
                exact ⟨rfl, rfl, rfl, rfl, rfl, trivial⟩
              · have hnc : ¬ gq_cap n b p sd w y := fun hc => by rw [(ht y hy).1 hc] at hz5; omega
                have hay : ar y < c := w1.1 y hy
                obtain ⟨a1, a2, a3, a4, a5⟩ := gs_W_area w1 hay
                have hcon : gb_conn n (fun q => nI (b q)) (o (s (ar y))) y := (w1.2.1 _ _ a3 hy).mp a4
                have hce : ∀ q, gb_conn n (fun q => nI (b q)) (o (s (ar y))) q ↔ gb_conn n (fun q => nI (b q)) y q := fun q => ⟨fun z => gb_conn_tr (gb_conn_sy a3 hcon) z, fun z => gb_conn_tr hcon z⟩
                refine xa_aload_n d_Trial_takeClosedStrings_57 rfl ?_
                refine xa_aload_n d_Trial_takeClosedStrings_58 rfl ?_
                refine xa_getf f_Trial_19 d_Trial_takeClosedStrings_59 (by assumption) (by rfl) ?_
                refine xa_getf f_Trial_79 d_Trial_takeClosedStrings_62 (by assumption) (by rfl) ?_
                refine xa_iload d_Trial_takeClosedStrings_65 rfl ?_
                refine xa_callVr (As := [.int (nI y)]) (st := [.ref tr]) d_Trial_takeClosedStrings_67 k_Trial_85 r2 (c_Areas_areaAt r2 r3 hN hy (w2 y hy)) rfl rfl (Nat.le_of_ble_eq_true rfl) ⟨by have := hR.1; show 0 + 1 ≤ _; omega, by have := hR.2; show 8 + (2 + 11) + 0 ≤ _; omega⟩ (by omega) (by omega) ?_
                refine xa_callV (As := [.int (nI (ar y))]) (st := []) d_Trial_takeClosedStrings_70 k_Trial_90 r0 (c_Trial_takeString hr hlt hay hV) rfl rfl (Nat.le_of_ble_eq_true rfl) ⟨by have := hR.1; show 1 + 1 ≤ _; omega, by have := hR.2; show 8 + (3 + 11) + 24 ≤ _; omega⟩ (by omega) (by omega) (fun v h' sz' hq => ?_)
                obtain ⟨t', V', g1, g2, g3, g4, g5⟩ := hq
                rw [g3, g4, g5]
                have he : ∀ q, q < n * n → (gq_cap n b p sd (w + 1) q ↔ gq_cap n b p sd w q ∨ gb_conn n (fun q => nI (b q)) (o (s (ar y))) q) := fun q _ => by
                  rw [gq_cap_w]
                  constructor
                  · rintro (h2 | ⟨x, h2, -, -, h4⟩)
                    · exact Or.inl h2
                    · rw [hnb] at h2; cases h2; exact Or.inr ((hce q).mpr h4)
                  · rintro (h2 | h2)
                    · exact Or.inl h2
                    · exact Or.inr ⟨y, hnb, hz2, h1, (hce q).mp h2⟩
                have hcnt : k0 + gb_cnt (gq_cap n b p sd w) (n * n) + (s (ar y + 1) - s (ar y)) = k0 + gb_cnt (gq_cap n b p sd (w + 1)) (n * n) := by
                  rw [gb_cnt_eq _ he, gb_cnt_or (P := gq_cap n b p sd w) (P' := gb_conn n (fun q => nI (b q)) (o (s (ar y)))) _ (fun q hq hz => hnc (gq_cap_tr hz.1 (gb_conn_sy hy ((hce q).mp hz.2)))), gs_W_size w1 hay]
                  omega
                refine xa_ls ?_ (again t' V' _ g1 (gq_off_eq (gq_off_or ht g2) he) hcnt (nI y))
                exact ⟨rfl, rfl, rfl, rfl, rfl, trivial⟩
          · refine xa_int (show (if gb_cnt (gt_br n (fun q => nI (b q)) y) (n * n) = 1 then (1 : Int32) else 0) = nI 0 from by rw [if_neg h1]; rfl) ?_
            refine xa_if_eqN (tgt := 73) d_Trial_takeClosedStrings_41 (by decide) (by omega) (fun hz4 => ?_) (fun hz4 => ?_)
            · refine xa_ls ?_ (skip (fun x hx h2 h3 => by rw [hnb] at hx; cases hx; exact absurd h3 h1) (nI y))
              exact ⟨rfl, rfl, rfl, rfl, rfl, trivial⟩
            · omega
termination_by 4 - w
decreasing_by omega
theorem c_Trial_takeClosed {n ch g aK c tr p sd k0 ls : Nat} {f A O S BR : Nat → Int32} {b ar o s t0 V : Nat → Nat} (hr : xq_R D h n ch g aK c f A O S BR b ar o s) (hlt : g + 1 < ch ∧ aK < ch ∧ ch + 8 < tr) (hp : p < n * n) (hp0 : b p = 0) (hsd : sd = 1 ∨ sd = 2) (ht0 : ∀ q, q < n * n → q ≠ p → t0 q = b q) (hV : gp_B (n * n) t0 V) :
    xa_M l D H0 M_Trial_takeClosedStrings 2 46 0 0 [.ref tr, .int (nI p), .int (nI sd)] (xr_h D h tr g aK ch (n * n) V k0 ls) sz (fun v h' sz' => ∃ (t V : Nat → Nat), gp_B (n * n) t V ∧ gq_off (n * n) (gq_cap n b p sd 4) t0 t ∧ v = none ∧ h' = xr_h D h tr g aK ch (n * n) V (k0 + gb_cnt (gq_cap n b p sd 4) (n * n)) ls ∧ sz' = sz) := by
  refine xa_enter (by decide) rfl rfl ?_
  refine xa_iconst (v := nI 0) d_Trial_takeClosedStrings_0 rfl ?_
  refine xa_istore_n d_Trial_takeClosedStrings_1 rfl rfl ?_
  have hc0 : gb_cnt (gq_cap n b p sd 0) (n * n) = 0 := gb_cnt_0 _ (fun q _ => gq_cap_0)
  refine xa_heap (show xr_h D h tr g aK ch (n * n) V k0 ls = xr_h D h tr g aK ch (n * n) V (k0 + gb_cnt (gq_cap n b p sd 0) (n * n)) ls by rw [hc0]; rfl) ?_
  refine xa_ls ?_ (w_takeClosed ⟨by decide, by decide⟩ hr hlt hp hp0 hsd ht0 0 t0 V (by omega) hV (fun q hq => ⟨fun z => absurd z gq_cap_0, fun _ => rfl⟩))
  exact ⟨rfl, rfl, rfl, rfl, trivial⟩
end TC
