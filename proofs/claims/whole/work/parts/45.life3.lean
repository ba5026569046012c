/-! Life: countRegionsOfStrings, letStringsFall, letRegionsFall. -/
/-- the entries up to i that count for string g -/
def gl_P (BT ST : Nat → Int32) (g : Nat) (j : Nat) : Prop := BT j = nI g ∧ ST (j / 4) = 1
/-- the string a falls -/
def gl_Fa (c : Nat) (kb o s : Nat → Nat) (BT ST : Nat → Int32) (a : Nat) : Prop := ST a = 1 ∧ kb (o (s a)) = 1 ∧ gb_cnt (gl_P BT ST a) (4 * c) < 2
/-- the region a falls -/
def gl_Fr (n : Nat) (kb ar : Nat → Nat) (ST : Nat → Int32) (p a : Nat) : Prop := ∃ q, q < p ∧ ar q = a ∧ kb q = 0 ∧ gl_bf n kb ar ST q
section LF3
variable {l : Launch} {D : va_G} {H0 : Heap} {h : xa_H} {sz : Nat} {R : Room} {n lf g aK c : Nat} {f A O S : Nat → Int32} {kb ar o s : Nat → Nat}
theorem w_countRegions {ST BT : Nat → Int32} (hR : 1 ≤ R.frames) (hr : xl_R D h n lf g aK c f A O S kb) (hlt : g + 1 < lf) (hcN : c ≤ n * n) (hBT : ∀ i, i < 4 * c → BT i = -1 ∨ ∃ g, g < c ∧ BT i = nI g) (hS2 : ∀ a, a < c → ST a = 0 ∨ ST a = 1) (i : Nat) (hi : i ≤ 4 * c) (RG : Nat → Int32) (hRG : ∀ g, g < c → RG g = nI (gb_cnt (gl_P BT ST g) i)) :
    xa_X l D H0 M_Life_countRegionsOfStrings R (xa_Zr D H0 0 0 (fun v h' sz' => ∃ RG, (∀ g, g < c → RG g = nI (gb_cnt (gl_P BT ST g) (4 * c))) ∧ v = none ∧ h' = xj_h D h lf (n * n) ST BT RG ∧ sz' = sz)) 0 0 (xj_h D h lf (n * n) ST BT RG) sz 10 [(0, .ref lf), (1, .int (nI i))] [] := by
  have hr' := xj_R (N := n * n) (ST := ST) (BT := BT) (RG := RG) hr hlt
  obtain ⟨r1, r2, r3, r4, r5, r6, r7, r8, hN, hf, hb⟩ := id hr'
  refine xa_iload_n d_Life_countRegionsOfStrings_10 rfl ?_
  refine xa_iconst (v := nI 4) d_Life_countRegionsOfStrings_11 rfl ?_
  refine xa_aload_n d_Life_countRegionsOfStrings_12 rfl ?_
  refine xa_getf f_Life_33 d_Life_countRegionsOfStrings_13 (by assumption) (by rfl) ?_
  refine xa_getf f_Life_51 d_Life_countRegionsOfStrings_16 (by assumption) (by rfl) ?_
  refine xa_imulN d_Life_countRegionsOfStrings_19 ?_
  refine xa_icmp_geN (tgt := 65) d_Life_countRegionsOfStrings_20 (by decide) (by omega) (by omega) (fun hb4 => ?_) (fun hb4 => ?_)
  · have hie : i = 4 * c := by omega
    subst hie
    exact xa_return d_Life_countRegionsOfStrings_65 rfl (by omega) (by omega) ⟨RG, hRG, rfl, rfl, rfl⟩
  · have hi4 : i / 4 < c := by omega
    have again : ∀ RG : Nat → Int32, (∀ g, g < c → RG g = nI (gb_cnt (gl_P BT ST g) (i + 1))) → xa_X l D H0 M_Life_countRegionsOfStrings R (xa_Zr D H0 0 0 (fun v h' sz' => ∃ RG, (∀ g, g < c → RG g = nI (gb_cnt (gl_P BT ST g) (4 * c))) ∧ v = none ∧ h' = xj_h D h lf (n * n) ST BT RG ∧ sz' = sz)) 0 0 (xj_h D h lf (n * n) ST BT RG) sz 59 [(0, .ref lf), (1, .int (nI i))] [] := by
      intro RG hRG
      refine xa_iincN d_Life_countRegionsOfStrings_59 rfl rfl rfl ?_
      refine xa_goto (tgt := 10) d_Life_countRegionsOfStrings_62 (by decide) ?_
      refine xa_ls ?_ (w_countRegions hR hr hlt hcN hBT hS2 (i + 1) (by omega) RG hRG)
      exact ⟨rfl, rfl, trivial⟩
    have same : (∀ g, g < c → ¬ gl_P BT ST g i) → ∀ g, g < c → RG g = nI (gb_cnt (gl_P BT ST g) (i + 1)) := fun hno g hg => by rw [gb_cnt_n (hno g hg)]; exact hRG g hg
    refine xa_aload_n d_Life_countRegionsOfStrings_23 rfl ?_
    refine xa_getf f_Life_41 d_Life_countRegionsOfStrings_24 (by assumption) (by rfl) ?_
    refine xa_iload_n d_Life_countRegionsOfStrings_27 rfl ?_
    refine xa_ialdE d_Life_countRegionsOfStrings_28 xj_7 rfl (by omega) (by omega) rfl ?_
    refine xa_iconst (v := -1) d_Life_countRegionsOfStrings_29 rfl ?_
    refine xa_icmp_eq (tgt := 59) d_Life_countRegionsOfStrings_30 (by decide) (fun hz => ?_) (fun hz => ?_)
    · refine again RG (same (fun g hg hp => ?_))
      have hp1 := hp.1
      rw [hz] at hp1
      exact gb_m1 (by omega) hp1.symm
    ·
      refine xa_aload_n d_Life_countRegionsOfStrings_33 rfl ?_
      refine xa_getf f_Life_37 d_Life_countRegionsOfStrings_34 (by assumption) (by rfl) ?_
      refine xa_iload_n d_Life_countRegionsOfStrings_37 rfl ?_
      refine xa_iconst (v := nI 4) d_Life_countRegionsOfStrings_38 rfl ?_
      refine xa_idivN d_Life_countRegionsOfStrings_39 (by omega) (by omega) (by omega) ?_
      refine xa_zaldE d_Life_countRegionsOfStrings_40 xj_6 rfl (show i / 4 < n * n by omega) (by omega) rfl ?_
      refine xa_if_eq (tgt := 59) d_Life_countRegionsOfStrings_41 (by decide) (fun hz2 => ?_) (fun hz2 => ?_)
      · refine again RG (same (fun g hg hp => ?_))
        have hp2 := hp.2
        rw [hz2] at hp2
        exact absurd hp2 (by decide)
      · obtain ⟨gg, hgg, hBg⟩ := (hBT i hb4).resolve_left hz
        have hle := gb_cnt_le (P := gl_P BT ST gg) i
        refine xa_aload_n d_Life_countRegionsOfStrings_44 rfl ?_
        refine xa_getf f_Life_44 d_Life_countRegionsOfStrings_45 (by assumption) (by rfl) ?_
        refine xa_aload_n d_Life_countRegionsOfStrings_48 rfl ?_
        refine xa_getf f_Life_41 d_Life_countRegionsOfStrings_49 (by assumption) (by rfl) ?_
        refine xa_iload_n d_Life_countRegionsOfStrings_52 rfl ?_
        refine xa_ialdE d_Life_countRegionsOfStrings_53 xj_7 rfl (by omega) (by omega) hBg ?_
        refine xa_dup2 d_Life_countRegionsOfStrings_54 rfl rfl ?_
        refine xa_ialdE d_Life_countRegionsOfStrings_55 xj_8 rfl (show gg < n * n by omega) (by omega) (hRG gg hgg) ?_
        refine xa_iconst (v := nI 1) d_Life_countRegionsOfStrings_56 rfl ?_
        refine xa_iaddN d_Life_countRegionsOfStrings_57 ?_
        refine xa_iastE d_Life_countRegionsOfStrings_58 xj_8 rfl (show gg < n * n by omega) (by omega) ?_
        refine xa_heap (xj_u8 _) ?_
        refine again _ (fun g hg => ?_)
        by_cases he : g = gg
        · subst he
          rw [gb_cnt_y ⟨hBg, (hS2 _ hi4).resolve_left hz2⟩]
          exact if_pos rfl
        · rw [gb_cnt_n (fun hp => he (by
            have hp1 := hp.1
            rw [hBg] at hp1
            exact ((nI_eq (by omega) (by omega)).mp hp1).symm)), ← hRG g hg]
          exact if_neg he
termination_by 4 * c - i
decreasing_by omega
theorem c_Life_countRegions {ST BT RG : Nat → Int32} (hr : xl_R D h n lf g aK c f A O S kb) (hlt : g + 1 < lf) (hcN : c ≤ n * n) (hBT : ∀ i, i < 4 * c → BT i = -1 ∨ ∃ g, g < c ∧ BT i = nI g) (hS2 : ∀ a, a < c → ST a = 0 ∨ ST a = 1) :
    xa_M l D H0 M_Life_countRegionsOfStrings 1 23 0 0 [.ref lf] (xj_h D h lf (n * n) ST BT RG) sz (fun v h' sz' => ∃ RG, (∀ g, g < c → RG g = nI (gb_cnt (gl_P BT ST g) (4 * c))) ∧ v = none ∧ h' = xj_h D h lf (n * n) ST BT RG ∧ sz' = sz) := by
  have hr' := xj_R (N := n * n) (ST := ST) (BT := BT) (RG := RG) hr hlt
  obtain ⟨r1, r2, r3, r4, r5, r6, r7, r8, hN, hf, hb⟩ := id hr'
  refine xa_enter (by decide) rfl rfl ?_
  refine xa_aload_n d_Life_countRegionsOfStrings_0 rfl ?_
  refine xa_getf f_Life_44 d_Life_countRegionsOfStrings_1 (by assumption) (by rfl) ?_
  refine xa_iconst (v := nI 0) d_Life_countRegionsOfStrings_4 rfl ?_
  refine xa_callSr (As := [.ref (lf + 8), .int (nI 0)]) (st := []) d_Life_countRegionsOfStrings_5 k_Life_97 (c_Arrays_fill xj_8 (by omega)) rfl rfl (Nat.le_of_ble_eq_true rfl) ⟨by decide, by decide⟩ (by decide) (by decide) ?_
  refine xa_heap (xj_u8 _) ?_
  refine xa_iconst (v := nI 0) d_Life_countRegionsOfStrings_8 rfl ?_
  refine xa_istore_n d_Life_countRegionsOfStrings_9 rfl rfl ?_
  refine xa_ls ?_ (w_countRegions (by decide) hr hlt hcN hBT hS2 0 (by omega) _ (fun g hg => rfl))
  exact ⟨rfl, rfl, trivial⟩
theorem w_letStrings {ST0 BT RG : Nat → Int32} (hR : 2 ≤ R.frames ∧ 42 ≤ R.locals) (hr : xl_R D h n lf g aK c f A O S kb) (hlt : g + 1 < lf) (hW : xt_W n (fun q => nI (kb q)) c ar o s A O S) (hS2 : ∀ a, a < c → ST0 a = 0 ∨ ST0 a = 1) (hRG : ∀ g, g < c → RG g = nI (gb_cnt (gl_P BT ST0 g) (4 * c))) (a : Nat) (ha : a ≤ c) (ST : Nat → Int32) (x : Nat) (h1 : ∀ a', a' < a → (gl_Fa c kb o s BT ST0 a' → ST a' = 0) ∧ (¬ gl_Fa c kb o s BT ST0 a' → ST a' = ST0 a')) (h2 : ∀ a', a ≤ a' → ST a' = ST0 a') (hx : (x = 1 ∧ ∃ a', a' < a ∧ gl_Fa c kb o s BT ST0 a') ∨ (x = 0 ∧ ∀ a', a' < a → ¬ gl_Fa c kb o s BT ST0 a')) :
    xa_X l D H0 M_Life_letStringsFall R (xa_Zr D H0 0 0 (fun v h' sz' => ∃ ST RG, (∀ a', a' < c → (gl_Fa c kb o s BT ST0 a' → ST a' = 0) ∧ (¬ gl_Fa c kb o s BT ST0 a' → ST a' = ST0 a')) ∧ ((v = some (.int 1) ∧ ∃ a', a' < c ∧ gl_Fa c kb o s BT ST0 a') ∨ (v = some (.int 0) ∧ ∀ a', a' < c → ¬ gl_Fa c kb o s BT ST0 a')) ∧ h' = xj_h D h lf (n * n) ST BT RG ∧ sz' = sz)) 0 0 (xj_h D h lf (n * n) ST BT RG) sz 8 [(0, .ref lf), (1, .int (nI x)), (2, .int (nI a))] [] := by
  have hr' := xj_R (N := n * n) (ST := ST) (BT := BT) (RG := RG) hr hlt
  obtain ⟨r1, r2, r3, r4, r5, r6, r7, r8, hN, hf, hb⟩ := id hr'
  obtain ⟨w1, w2, w3, w4⟩ := id hW
  have hcN : c ≤ n * n := w1.2.2.2.2.2.2.2.2.2.2
  refine xa_iload_n d_Life_letStringsFall_8 rfl ?_
  refine xa_aload_n d_Life_letStringsFall_9 rfl ?_
  refine xa_getf f_Life_33 d_Life_letStringsFall_10 (by assumption) (by rfl) ?_
  refine xa_getf f_Life_51 d_Life_letStringsFall_13 (by assumption) (by rfl) ?_
  refine xa_icmp_geN (tgt := 62) d_Life_letStringsFall_16 (by decide) (by omega) (by omega) (fun hb4 => ?_) (fun hb4 => ?_)
  · have hac : a = c := by omega
    subst hac
    refine xa_iload_n d_Life_letStringsFall_62 rfl ?_
    rcases hx with ⟨hx, hy⟩ | ⟨hx, hy⟩
    · subst hx
      exact xa_zreturn (v := nI 1) d_Life_letStringsFall_63 rfl (by decide) (by omega) (by omega) ⟨ST, RG, h1, Or.inl ⟨rfl, hy⟩, rfl, rfl⟩
    · subst hx
      exact xa_zreturn (v := nI 0) d_Life_letStringsFall_63 rfl (by decide) (by omega) (by omega) ⟨ST, RG, h1, Or.inr ⟨rfl, hy⟩, rfl, rfl⟩
  · have hle := gb_cnt_le (P := gl_P BT ST0 a) (4 * c)
    obtain ⟨a1, a2, a3, a4, a5⟩ := gs_W_area w1 hb4
    have hka := hb _ a3
    have no : ¬ gl_Fa c kb o s BT ST0 a → xa_X l D H0 M_Life_letStringsFall R (xa_Zr D H0 0 0 (fun v h' sz' => ∃ ST RG, (∀ a', a' < c → (gl_Fa c kb o s BT ST0 a' → ST a' = 0) ∧ (¬ gl_Fa c kb o s BT ST0 a' → ST a' = ST0 a')) ∧ ((v = some (.int 1) ∧ ∃ a', a' < c ∧ gl_Fa c kb o s BT ST0 a') ∨ (v = some (.int 0) ∧ ∀ a', a' < c → ¬ gl_Fa c kb o s BT ST0 a')) ∧ h' = xj_h D h lf (n * n) ST BT RG ∧ sz' = sz)) 0 0 (xj_h D h lf (n * n) ST BT RG) sz 56 [(0, .ref lf), (1, .int (nI x)), (2, .int (nI a))] [] := by
      intro hno
      refine xa_iincN d_Life_letStringsFall_56 rfl rfl rfl ?_
      refine xa_goto (tgt := 8) d_Life_letStringsFall_59 (by decide) ?_
      refine xa_ls ?_ (w_letStrings hR hr hlt hW hS2 hRG (a + 1) (by omega) ST x (fun a' ha' => ?_) (fun a' ha' => h2 a' (by omega)) ?_)
      · exact ⟨rfl, rfl, rfl, trivial⟩
      · by_cases he : a' = a
        · rw [he]; exact ⟨fun z => absurd z hno, fun _ => h2 a (Nat.le_refl a)⟩
        · exact h1 a' (by omega)
      · rcases hx with ⟨hx, a', ha', hy⟩ | ⟨hx, hy⟩
        · exact Or.inl ⟨hx, a', by omega, hy⟩
        · refine Or.inr ⟨hx, fun a' ha' => ?_⟩
          by_cases he : a' = a
          · rw [he]; exact hno
          · exact hy a' (by omega)
    refine xa_aload_n d_Life_letStringsFall_19 rfl ?_
    refine xa_getf f_Life_37 d_Life_letStringsFall_20 (by assumption) (by rfl) ?_
    refine xa_iload_n d_Life_letStringsFall_23 rfl ?_
    refine xa_zaldE d_Life_letStringsFall_24 xj_6 rfl (show a < n * n by omega) (by omega) (h2 a (Nat.le_refl a)) ?_
    refine xa_if_eq (tgt := 56) d_Life_letStringsFall_25 (by decide) (fun hz => ?_) (fun hz => ?_)
    · exact no (fun z => absurd (hz.symm.trans z.1) (by decide))
    ·
      refine xa_aload_n d_Life_letStringsFall_28 rfl ?_
      refine xa_iload_n d_Life_letStringsFall_29 rfl ?_
      refine xa_callVr (As := [.int (nI a)]) (st := []) d_Life_letStringsFall_30 k_Life_67 r1 (c_Life_kindOf hr' hW hb4) rfl rfl (Nat.le_of_ble_eq_true rfl) ⟨hR.1, by have := hR.2; show 8 + (2 + 11) + 21 ≤ _; omega⟩ (by omega) (by omega) ?_
      refine xa_iconst (v := nI 1) d_Life_letStringsFall_33 rfl ?_
      refine xa_icmp_neN (tgt := 56) d_Life_letStringsFall_34 (by decide) (by omega) (by omega) (fun hz2 => ?_) (fun hz2 => ?_)
      · exact no (fun z => hz2 z.2.1)
      ·
        refine xa_aload_n d_Life_letStringsFall_37 rfl ?_
        refine xa_getf f_Life_44 d_Life_letStringsFall_38 (by assumption) (by rfl) ?_
        refine xa_iload_n d_Life_letStringsFall_41 rfl ?_
        refine xa_ialdE d_Life_letStringsFall_42 xj_8 rfl (show a < n * n by omega) (by omega) (hRG a hb4) ?_
        refine xa_iconst (v := nI 2) d_Life_letStringsFall_43 rfl ?_
        refine xa_icmp_geN (tgt := 56) d_Life_letStringsFall_44 (by decide) (by omega) (by omega) (fun hz3 => ?_) (fun hz3 => ?_)
        · exact no (fun z => by have := z.2.2; omega)
        · have hfa : gl_Fa c kb o s BT ST0 a := ⟨(hS2 a hb4).resolve_left hz, hz2, hz3⟩
          refine xa_aload_n d_Life_letStringsFall_47 rfl ?_
          refine xa_getf f_Life_37 d_Life_letStringsFall_48 (by assumption) (by rfl) ?_
          refine xa_iload_n d_Life_letStringsFall_51 rfl ?_
          refine xa_iconst (v := nI 0) d_Life_letStringsFall_52 rfl ?_
          refine xa_zast d_Life_letStringsFall_53 xj_6 (show a < n * n by omega) rfl (by omega) ?_
          refine xa_heap (xj_u6 _) ?_
          refine xa_iconst (v := nI 1) d_Life_letStringsFall_54 rfl ?_
          refine xa_istore_n d_Life_letStringsFall_55 rfl rfl ?_
          refine xa_iincN d_Life_letStringsFall_56 rfl rfl rfl ?_
          refine xa_goto (tgt := 8) d_Life_letStringsFall_59 (by decide) ?_
          refine xa_ls ?_ (w_letStrings hR hr hlt hW hS2 hRG (a + 1) (by omega) _ 1 (fun a' ha' => ?_) (fun a' ha' => ?_) (Or.inl ⟨rfl, a, by omega, hfa⟩))
          · exact ⟨rfl, rfl, rfl, trivial⟩
          · by_cases he : a' = a
            · rw [he]; exact ⟨fun _ => if_pos rfl, fun z => absurd hfa z⟩
            · have hu : upd ST a (vp_nar .boolean (nI 0)) a' = ST a' := if_neg he
              rw [hu]
              exact h1 a' (by omega)
          · rw [← h2 a' (by omega)]
            exact if_neg (by omega)
termination_by c - a
decreasing_by all_goals omega
theorem c_Life_letStrings {ST BT RG : Nat → Int32} (hr : xl_R D h n lf g aK c f A O S kb) (hlt : g + 1 < lf) (hW : xt_W n (fun q => nI (kb q)) c ar o s A O S) (hBT : ∀ i, i < 4 * c → BT i = -1 ∨ ∃ g, g < c ∧ BT i = nI g) (hS2 : ∀ a, a < c → ST a = 0 ∨ ST a = 1) :
    xa_M l D H0 M_Life_letStringsFall 2 44 0 0 [.ref lf] (xj_h D h lf (n * n) ST BT RG) sz (fun v h' sz' => ∃ ST' RG', (∀ a', a' < c → (gl_Fa c kb o s BT ST a' → ST' a' = 0) ∧ (¬ gl_Fa c kb o s BT ST a' → ST' a' = ST a')) ∧ ((v = some (.int 1) ∧ ∃ a', a' < c ∧ gl_Fa c kb o s BT ST a') ∨ (v = some (.int 0) ∧ ∀ a', a' < c → ¬ gl_Fa c kb o s BT ST a')) ∧ h' = xj_h D h lf (n * n) ST' BT RG' ∧ sz' = sz) := by
  have hr' := xj_R (N := n * n) (ST := ST) (BT := BT) (RG := RG) hr hlt
  obtain ⟨r1, r2, r3, r4, r5, r6, r7, r8, hN, hf, hb⟩ := id hr'
  refine xa_enter (by decide) rfl rfl ?_
  refine xa_aload_n d_Life_letStringsFall_0 rfl ?_
  refine xa_callV (As := []) (st := []) d_Life_letStringsFall_1 k_Life_94 r1 (c_Life_countRegions hr hlt hW.1.2.2.2.2.2.2.2.2.2.2 hBT hS2) rfl rfl (Nat.le_of_ble_eq_true rfl) ⟨by decide, by decide⟩ (by decide) (by decide) (fun v h' sz' hq => ?_)
  obtain ⟨RG', hRG, e1, e2, e3⟩ := hq
  rw [e1, e2, e3]
  refine xa_iconst (v := nI 0) d_Life_letStringsFall_4 rfl ?_
  refine xa_istore_n d_Life_letStringsFall_5 rfl rfl ?_
  refine xa_iconst (v := nI 0) d_Life_letStringsFall_6 rfl ?_
  refine xa_istore_n d_Life_letStringsFall_7 rfl rfl ?_
  refine xa_ls ?_ (w_letStrings ⟨by decide, by decide⟩ hr hlt hW hS2 hRG 0 (by omega) ST 0 (fun a' ha' => absurd ha' (Nat.not_lt_zero _)) (fun _ _ => rfl) (Or.inr ⟨rfl, fun a' ha' => absurd ha' (Nat.not_lt_zero _)⟩))
  exact ⟨rfl, rfl, rfl, trivial⟩
theorem w_letRegions {ST0 BT RG : Nat → Int32} (hR : 3 ≤ R.frames ∧ 65 ≤ R.locals) (hr : xl_R D h n lf g aK c f A O S kb) (hlt : g + 1 < lf) (hW : xt_W n (fun q => nI (kb q)) c ar o s A O S) (hS2 : ∀ a, a < c → ST0 a = 0 ∨ ST0 a = 1) (p : Nat) (hp : p ≤ n * n) (ST : Nat → Int32) (h1 : ∀ a, a < c → (gl_Fr n kb ar ST0 p a → ST a = 0) ∧ (¬ gl_Fr n kb ar ST0 p a → ST a = ST0 a)) :
    xa_X l D H0 M_Life_letRegionsFall R (xa_Zr D H0 0 0 (fun v h' sz' => ∃ ST, (∀ a, a < c → (gl_Fr n kb ar ST0 (n * n) a → ST a = 0) ∧ (¬ gl_Fr n kb ar ST0 (n * n) a → ST a = ST0 a)) ∧ v = none ∧ h' = xj_h D h lf (n * n) ST BT RG ∧ sz' = sz)) 0 0 (xj_h D h lf (n * n) ST BT RG) sz 2 [(0, .ref lf), (1, .int (nI p))] [] := by
  have hr' := xj_R (N := n * n) (ST := ST) (BT := BT) (RG := RG) hr hlt
  obtain ⟨r1, r2, r3, r4, r5, r6, r7, r8, hN, hf, hb⟩ := id hr'
  obtain ⟨w1, w2, w3, w4⟩ := id hW
  have hcN : c ≤ n * n := w1.2.2.2.2.2.2.2.2.2.2
  have hs2 : ∀ a, a < c → ST a = 0 ∨ ST a = 1 := fun a ha => by
    by_cases hF : gl_Fr n kb ar ST0 p a
    · exact Or.inl ((h1 a ha).1 hF)
    · rw [(h1 a ha).2 hF]; exact hS2 a ha
  have hbf : ∀ q, q < n * n → (gl_bf n kb ar ST q ↔ gl_bf n kb ar ST0 q) := fun q hq => by
    have e : ∀ w x, w < 4 → gb_nb n q w = some x → kb x = 1 → ST (ar x) = ST0 (ar x) := fun w x hw hx hk => by
      have hxN := gb_nb_lt hq hw hx
      refine (h1 _ (w1.1 x hxN)).2 (fun ⟨q', hq', ha', hk', _⟩ => ?_)
      have k1 := gl_kb w1 hb hxN
      have k2 := gl_kb w1 hb (x := q') (by omega)
      rw [ha'] at k2
      omega
    constructor
    · rintro ⟨w, x, hw, hx, hk, hs⟩
      exact ⟨w, x, hw, hx, hk, by rw [← e w x hw hx hk]; exact hs⟩
    · rintro ⟨w, x, hw, hx, hk, hs⟩
      exact ⟨w, x, hw, hx, hk, by rw [e w x hw hx hk]; exact hs⟩
  refine xa_iload_n d_Life_letRegionsFall_2 rfl ?_
  refine xa_aload_n d_Life_letRegionsFall_3 rfl ?_
  refine xa_getf f_Life_9 d_Life_letRegionsFall_4 (by assumption) (by rfl) ?_
  refine xa_getf f_Life_19 d_Life_letRegionsFall_7 (by assumption) (by rfl) ?_
  refine xa_icmp_geN (tgt := 50) d_Life_letRegionsFall_10 (by decide) (by omega) (by omega) (fun hb4 => ?_) (fun hb4 => ?_)
  · have hpe : p = n * n := by omega
    subst hpe
    exact xa_return d_Life_letRegionsFall_50 rfl (by omega) (by omega) ⟨ST, h1, rfl, rfl, rfl⟩
  · have hkp := hb p hb4
    have hap := w1.1 p hb4
    have no : ¬ (kb p = 0 ∧ gl_bf n kb ar ST0 p) → xa_X l D H0 M_Life_letRegionsFall R (xa_Zr D H0 0 0 (fun v h' sz' => ∃ ST, (∀ a, a < c → (gl_Fr n kb ar ST0 (n * n) a → ST a = 0) ∧ (¬ gl_Fr n kb ar ST0 (n * n) a → ST a = ST0 a)) ∧ v = none ∧ h' = xj_h D h lf (n * n) ST BT RG ∧ sz' = sz)) 0 0 (xj_h D h lf (n * n) ST BT RG) sz 44 [(0, .ref lf), (1, .int (nI p))] [] := by
      intro hno
      refine xa_iincN d_Life_letRegionsFall_44 rfl rfl rfl ?_
      refine xa_goto (tgt := 2) d_Life_letRegionsFall_47 (by decide) ?_
      refine xa_ls ?_ (w_letRegions hR hr hlt hW hS2 (p + 1) (by omega) ST (fun a ha => ?_))
      · exact ⟨rfl, rfl, trivial⟩
      · have e : gl_Fr n kb ar ST0 (p + 1) a ↔ gl_Fr n kb ar ST0 p a := by
          constructor
          · rintro ⟨q, hq, h2, h3, h4⟩
            by_cases he : q = p
            · subst he; exact absurd ⟨h3, h4⟩ hno
            · exact ⟨q, by omega, h2, h3, h4⟩
          · rintro ⟨q, hq, h2⟩
            exact ⟨q, by omega, h2⟩
        exact ⟨fun z => (h1 a ha).1 (e.mp z), fun z => (h1 a ha).2 (fun y => z (e.mpr y))⟩
    refine xa_aload_n d_Life_letRegionsFall_13 rfl ?_
    refine xa_getf f_Life_25 d_Life_letRegionsFall_14 (by assumption) (by rfl) ?_
    refine xa_iload_n d_Life_letRegionsFall_17 rfl ?_
    refine xa_ialdE d_Life_letRegionsFall_18 r2 rfl hb4 (by omega) rfl ?_
    refine xa_if_neN (tgt := 44) d_Life_letRegionsFall_19 (by decide) (by omega) (fun hz => ?_) (fun hz => ?_)
    · exact no (fun z => by omega)
    ·
      refine xa_aload_n d_Life_letRegionsFall_22 rfl ?_
      refine xa_iload_n d_Life_letRegionsFall_23 rfl ?_
      refine xa_callV (As := [.int (nI p)]) (st := []) d_Life_letRegionsFall_24 k_Life_103 r1 (c_Life_isBesideFallen hr' hW xj_6 hs2 hb4) rfl rfl (Nat.le_of_ble_eq_true rfl) ⟨hR.1, by have := hR.2; show 8 + (4 + 11) + 42 ≤ _; omega⟩ (by omega) (by omega) (fun v h' sz' hq => ?_)
      obtain ⟨hv, e2, e3⟩ := hq
      rw [e2, e3]
      rcases hv with ⟨hv, hq⟩ | ⟨hv, hq⟩
      · rw [hv]
        refine xa_int (y := nI 1) rfl ?_
        refine xa_if_eqN (tgt := 44) d_Life_letRegionsFall_27 (by decide) (by omega) (fun hz2 => ?_) (fun hz2 => ?_)
        · omega
        ·
          refine xa_aload_n d_Life_letRegionsFall_30 rfl ?_
          refine xa_getf f_Life_37 d_Life_letRegionsFall_31 (by assumption) (by rfl) ?_
          refine xa_aload_n d_Life_letRegionsFall_34 rfl ?_
          refine xa_getf f_Life_33 d_Life_letRegionsFall_35 (by assumption) (by rfl) ?_
          refine xa_iload_n d_Life_letRegionsFall_38 rfl ?_
          refine xa_callVr (As := [.int (nI p)]) (st := [.ref (lf + 6)]) d_Life_letRegionsFall_39 k_Life_63 r3 (c_Areas_areaAt r3 r4 hN hb4 (w2 p hb4)) rfl rfl (Nat.le_of_ble_eq_true rfl) ⟨by have := hR.1; show 0 + 1 ≤ _; omega, by have := hR.2; show 8 + (2 + 11) + 0 ≤ _; omega⟩ (by omega) (by omega) ?_
          refine xa_iconst (v := nI 0) d_Life_letRegionsFall_42 rfl ?_
          refine xa_zast d_Life_letRegionsFall_43 xj_6 (show ar p < n * n by omega) rfl (by omega) ?_
          refine xa_heap (xj_u6 _) ?_
          refine xa_iincN d_Life_letRegionsFall_44 rfl rfl rfl ?_
          refine xa_goto (tgt := 2) d_Life_letRegionsFall_47 (by decide) ?_
          refine xa_ls ?_ (w_letRegions hR hr hlt hW hS2 (p + 1) (by omega) _ (fun a ha => ?_))
          · exact ⟨rfl, rfl, trivial⟩
          · have hFp : gl_Fr n kb ar ST0 (p + 1) (ar p) := ⟨p, by omega, rfl, hz, (hbf p hb4).mp hq⟩
            by_cases he : a = ar p
            · rw [he]
              exact ⟨fun _ => if_pos rfl, fun z => absurd hFp z⟩
            · have hu : upd ST (ar p) (vp_nar .boolean (nI 0)) a = ST a := if_neg he
              rw [hu]
              have e : gl_Fr n kb ar ST0 (p + 1) a ↔ gl_Fr n kb ar ST0 p a := by
                constructor
                · rintro ⟨q, hq, h2, h3, h4⟩
                  by_cases he2 : q = p
                  · subst he2; exact absurd h2.symm he
                  · exact ⟨q, by omega, h2, h3, h4⟩
                · rintro ⟨q, hq, h2⟩
                  exact ⟨q, by omega, h2⟩
              exact ⟨fun z => (h1 a ha).1 (e.mp z), fun z => (h1 a ha).2 (fun y => z (e.mpr y))⟩
      · rw [hv]
        refine xa_int (y := nI 0) rfl ?_
        refine xa_if_eqN (tgt := 44) d_Life_letRegionsFall_27 (by decide) (by omega) (fun hz2 => ?_) (fun hz2 => ?_)
        · exact no (fun z => hq ((hbf p hb4).mpr z.2))
        · omega
termination_by n * n - p
decreasing_by all_goals omega
theorem c_Life_letRegions {ST BT RG : Nat → Int32} (hr : xl_R D h n lf g aK c f A O S kb) (hlt : g + 1 < lf) (hW : xt_W n (fun q => nI (kb q)) c ar o s A O S) (hS2 : ∀ a, a < c → ST a = 0 ∨ ST a = 1) :
    xa_M l D H0 M_Life_letRegionsFall 3 65 0 0 [.ref lf] (xj_h D h lf (n * n) ST BT RG) sz (fun v h' sz' => ∃ ST', (∀ a, a < c → (gl_Fr n kb ar ST (n * n) a → ST' a = 0) ∧ (¬ gl_Fr n kb ar ST (n * n) a → ST' a = ST a)) ∧ v = none ∧ h' = xj_h D h lf (n * n) ST' BT RG ∧ sz' = sz) := by
  refine xa_enter (by decide) rfl rfl ?_
  refine xa_iconst (v := nI 0) d_Life_letRegionsFall_0 rfl ?_
  refine xa_istore_n d_Life_letRegionsFall_1 rfl rfl ?_
  refine xa_ls ?_ (w_letRegions ⟨by decide, by decide⟩ hr hlt hW hS2 0 (by omega) ST (fun a ha => ⟨fun ⟨q, hq, _⟩ => absurd hq (Nat.not_lt_zero _), fun _ => rfl⟩))
  exact ⟨rfl, rfl, trivial⟩
end LF3
