/-! The reference: judge, alive, safe. -/
def xQ_h (D : va_G) (h : xa_H) (r : Nat) (SG SR FA : Nat → Int32) : xa_H := xa_u (xa_u (xa_u h (r + 11) (.inl (D.1 102, 170, .inl SG))) (r + 12) (.inl (D.1 102, 170, .inl SR))) (r + 14) (.inl (D.1 102, 170, .inl FA))
section QH
variable {D : va_G} {h : xa_H} {r : Nat} {SG SR FA : Nat → Int32}
theorem xQ_n {q : Nat} (h1 : q ≠ r + 11) (h2 : q ≠ r + 12) (h3 : q ≠ r + 14) : xQ_h D h r SG SR FA q = h q := xa_u_ne (xa_u_ne (xa_u_ne rfl h1) h2) h3
theorem xQ_11 : xQ_h D h r SG SR FA (r + 11) = some (.inl (D.1 102, 170, .inl SG)) := xa_u_ne (xa_u_ne (xa_u_eq _ _ _) (by omega)) (by omega)
theorem xQ_12 : xQ_h D h r SG SR FA (r + 12) = some (.inl (D.1 102, 170, .inl SR)) := xa_u_ne (xa_u_eq _ _ _) (by omega)
theorem xQ_14 : xQ_h D h r SG SR FA (r + 14) = some (.inl (D.1 102, 170, .inl FA)) := xa_u_eq _ _ _
theorem xQ_u11 (X : Nat → Int32) : xa_u (xQ_h D h r SG SR FA) (r + 11) (.inl (D.1 102, 170, .inl X)) = xQ_h D h r X SR FA := by
  unfold xQ_h
  rw [xa_sw _ (show r + 14 ≠ r + 11 by omega), xa_sw _ (show r + 12 ≠ r + 11 by omega), xa_uu]
theorem xQ_u12 (X : Nat → Int32) : xa_u (xQ_h D h r SG SR FA) (r + 12) (.inl (D.1 102, 170, .inl X)) = xQ_h D h r SG X FA := by
  unfold xQ_h
  rw [xa_sw _ (show r + 14 ≠ r + 12 by omega), xa_uu]
theorem xQ_u14 (X : Nat → Int32) : xa_u (xQ_h D h r SG SR FA) (r + 14) (.inl (D.1 102, 170, .inl X)) = xQ_h D h r SG SR X := xa_uu _ _ _ _
theorem xQ_s (h11 : h (r + 11) = some (.inl (D.1 102, 170, .inl SG))) (h12 : h (r + 12) = some (.inl (D.1 102, 170, .inl SR))) (h14 : h (r + 14) = some (.inl (D.1 102, 170, .inl FA))) : xQ_h D h r SG SR FA = h := by
  unfold xQ_h
  rw [xa_us _ h11, xa_us _ h12]
  exact xa_us _ h14
theorem xR_A.Q {n : Nat} {v : Nat → Nat} {B SD MV TB TW : Nat → Int32} (hA : xR_A D h r n v B SD MV TB TW) : xR_A D (xQ_h D h r SG SR FA) r n v B SD MV TB TW := by
  refine hA.scr ((xQ_n (by omega) (by omega) (by omega)).trans hA.1) (fun q hq => xQ_n (by omega) (by omega) (by omega)) ?_
  obtain ⟨TR, IN', RW', GR', RG', SG', SR', GO, FA', a2, a7, a8, a9, a10, a11, a12, a13, a14⟩ := hA.2.2.2.2.2.2
  refine ⟨TR, IN', RW', GR', RG', SG, SR, GO, FA, ?_, ?_, ?_, ?_, ?_, xQ_11, xQ_12, ?_, xQ_14⟩
  all_goals (rw [xQ_n (by omega) (by omega) (by omega)]; assumption)
end QH
section JD
variable {l : Launch} {D : va_G} {H0 : Heap} {h : xa_H} {sz : Nat} {R : Room} {r n : Nat} {v : Nat → Nat} {kb : Nat → Nat} {GR RG : Nat → Int32} {gn rn : Nat → Nat} {g e : Nat}
theorem w_jd1 {Z : xa_Z} {FA : Nat → Int32} (h0 : h r = some (xR_o r n v)) (hv6 : v 6 = g) (hv7 : v 7 = e) (hg : g ≤ 169) (he : e ≤ 169)
    (kont : ∀ SG SR : Nat → Int32, (∀ a, a < g → SG a = 1) → (∀ a, a < e → SR a = 1) → xa_X l D H0 M_Ref_judge R Z 0 0 (xQ_h D h r SG SR FA) sz 63 [(0, .ref r)] []) (k : Nat) (hk : k ≤ 170) (SG SR : Nat → Int32) (hS1 : ∀ a, a < k → a < g → SG a = 1) (hS2 : ∀ a, a < k → a < e → SR a = 1) :
    xa_X l D H0 M_Ref_judge R Z 0 0 (xQ_h D h r SG SR FA) sz 12 [(0, .ref r), (2, .int (nI k))] [] := by
  have q0 : ∀ SG SR : Nat → Int32, xQ_h D h r SG SR FA r = some (xR_o r n v) := fun SG SR => (xQ_n (by omega) (by omega) (by omega)).trans h0
  have q1 := q0 SG SR
  refine xa_iload_n d_Ref_judge_12 rfl ?_
  refine xa_sipush (v := nI 170) d_Ref_judge_13 (by decide) ?_
  refine xa_icmp_geN (tgt := 63) d_Ref_judge_16 (by decide) (by omega) (by omega) (fun hb4 => ?_) (fun hb4 => ?_)
  · exact xa_sl (kont SG SR (fun a ha => hS1 a (by omega) ha) (fun a ha => hS2 a (by omega) ha)) ⟨rfl, trivial⟩
  · have second : ∀ SG' : Nat → Int32, (∀ a, a < k + 1 → a < g → SG' a = 1) → xa_X l D H0 M_Ref_judge R Z 0 0 (xQ_h D h r SG' SR FA) sz 38 [(0, .ref r), (2, .int (nI k))] [] := by
      intro SG' hSG'
      have q2 := q0 SG' SR
      have last : ∀ x : Int32, (k < e → vp_nar .boolean x = 1) → xa_X l D H0 M_Ref_judge R Z 0 0 (xQ_h D h r SG' SR FA) sz 56 [(0, .ref r), (2, .int (nI k))] [.int x, .int (nI k), .ref (r + 12)] := by
        intro x hx
        refine xa_zast d_Ref_judge_56 xQ_12 (show k < 170 by omega) rfl (by omega) ?_
        refine xa_heap (xQ_u12 _) ?_
        refine xa_iincN d_Ref_judge_57 rfl rfl rfl ?_
        refine xa_goto (tgt := 12) d_Ref_judge_60 (by decide) ?_
        refine xa_ls ?_ (w_jd1 h0 hv6 hv7 hg he kont (k + 1) (by omega) SG' _ hSG' (fun a ha hae => ?_))
        · exact ⟨rfl, rfl, trivial⟩
        · by_cases hak : a = k
          · have hu : upd SR k (vp_nar .boolean x) a = vp_nar .boolean x := if_pos hak
            rw [hu]
            exact hx (by omega)
          · have hu : upd SR k (vp_nar .boolean x) a = SR a := if_neg hak
            rw [hu]
            exact hS2 a (by omega) hae
      refine xa_aload_n d_Ref_judge_38 rfl ?_
      refine xa_getf f_Ref_50 d_Ref_judge_39 (by assumption) (by rfl) ?_
      refine xa_iload_n d_Ref_judge_42 rfl ?_
      refine xa_iload_n d_Ref_judge_43 rfl ?_
      refine xa_aload_n d_Ref_judge_44 rfl ?_
      refine xa_getf f_Ref_149 d_Ref_judge_45 (by assumption) (by rfl) ?_
      refine xa_int (y := nI e) (by rw [hv7]) ?_
      refine xa_icmp_geN (tgt := 55) d_Ref_judge_48 (by decide) (by omega) (by omega) (fun hz => ?_) (fun hz => ?_)
      ·
        refine xa_iconst (v := nI 0) d_Ref_judge_55 rfl ?_
        exact last _ (fun z => by omega)
      ·
        refine xa_iconst (v := nI 1) d_Ref_judge_51 rfl ?_
        refine xa_goto (tgt := 56) d_Ref_judge_52 (by decide) ?_
        exact last _ (fun z => rfl)
    have first : ∀ x : Int32, (k < g → vp_nar .boolean x = 1) → xa_X l D H0 M_Ref_judge R Z 0 0 (xQ_h D h r SG SR FA) sz 37 [(0, .ref r), (2, .int (nI k))] [.int x, .int (nI k), .ref (r + 11)] := by
      intro x hx
      refine xa_zast d_Ref_judge_37 xQ_11 (show k < 170 by omega) rfl (by omega) ?_
      refine xa_heap (xQ_u11 _) ?_
      refine second _ (fun a ha hag => ?_)
      by_cases hak : a = k
      · have hu : upd SG k (vp_nar .boolean x) a = vp_nar .boolean x := if_pos hak
        rw [hu]
        exact hx (by omega)
      · have hu : upd SG k (vp_nar .boolean x) a = SG a := if_neg hak
        rw [hu]
        exact hS1 a (by omega) hag
    refine xa_aload_n d_Ref_judge_19 rfl ?_
    refine xa_getf f_Ref_47 d_Ref_judge_20 (by assumption) (by rfl) ?_
    refine xa_iload_n d_Ref_judge_23 rfl ?_
    refine xa_iload_n d_Ref_judge_24 rfl ?_
    refine xa_aload_n d_Ref_judge_25 rfl ?_
    refine xa_getf f_Ref_137 d_Ref_judge_26 (by assumption) (by rfl) ?_
    refine xa_int (y := nI g) (by rw [hv6]) ?_
    refine xa_icmp_geN (tgt := 36) d_Ref_judge_29 (by decide) (by omega) (by omega) (fun hz => ?_) (fun hz => ?_)
    ·
      refine xa_iconst (v := nI 0) d_Ref_judge_36 rfl ?_
      exact first _ (fun z => by omega)
    ·
      refine xa_iconst (v := nI 1) d_Ref_judge_32 rfl ?_
      refine xa_goto (tgt := 37) d_Ref_judge_33 (by decide) ?_
      exact first _ (fun z => rfl)
termination_by 170 - k
decreasing_by all_goals omega
theorem w_jd2 {Z : xa_Z} {SG SR : Nat → Int32} {x : Nat} (hR : 4 ≤ R.frames ∧ 96 ≤ R.locals) (h0 : h r = some (xR_o r n v)) (hv6 : v 6 = g) (hv7 : v 7 = e) (h9 : h (r + 9) = some (.inl (D.1 100, 169, .inl GR))) (h10 : h (r + 10) = some (.inl (D.1 100, 169, .inl RG))) (hn : 2 ≤ n ∧ n ≤ 13) (hU : gr_U n kb GR RG gn rn g e) (hs1 : ∀ a, a < g → SG a = 0 ∨ SG a = 1) (hs2 : ∀ a, a < e → SR a = 0 ∨ SR a = 1)
    (kont : ∀ FA : Nat → Int32, (∀ a, a < g → (FA a = 1 ∧ gr_fa n kb gn rn e SG SR a) ∨ (FA a = 0 ∧ ¬ gr_fa n kb gn rn e SG SR a)) → xa_X l D H0 M_Ref_judge R Z 0 0 (xQ_h D h r SG SR FA) sz 116 [(0, .ref r), (2, .int (nI x))] []) (k : Nat) (hk : k ≤ g) (FA : Nat → Int32) (hF : ∀ a, a < k → (FA a = 1 ∧ gr_fa n kb gn rn e SG SR a) ∨ (FA a = 0 ∧ ¬ gr_fa n kb gn rn e SG SR a)) :
    xa_X l D H0 M_Ref_judge R Z 0 0 (xQ_h D h r SG SR FA) sz 73 [(0, .ref r), (2, .int (nI x)), (3, .int (nI k))] [] := by
  have hN : n * n ≤ 169 := Nat.mul_le_mul hn.2 hn.2
  have heN : e ≤ n * n := hU.2.2.2.2.2.2.2.1
  have hgN : g ≤ n * n := hU.2.2.2.2.2.2.1
  have q0 : xQ_h D h r SG SR FA r = some (xR_o r n v) := (xQ_n (by omega) (by omega) (by omega)).trans h0
  have q9 : xQ_h D h r SG SR FA (r + 9) = some (.inl (D.1 100, 169, .inl GR)) := (xQ_n (by omega) (by omega) (by omega)).trans h9
  have q10 : xQ_h D h r SG SR FA (r + 10) = some (.inl (D.1 100, 169, .inl RG)) := (xQ_n (by omega) (by omega) (by omega)).trans h10
  refine xa_iload_n d_Ref_judge_73 rfl ?_
  refine xa_aload_n d_Ref_judge_74 rfl ?_
  refine xa_getf f_Ref_137 d_Ref_judge_75 (by assumption) (by rfl) ?_
  refine xa_int (y := nI g) (by rw [hv6]) ?_
  refine xa_icmp_geN (tgt := 116) d_Ref_judge_78 (by decide) (by omega) (by omega) (fun hb4 => ?_) (fun hb4 => ?_)
  · exact xa_sl (kont FA (fun a ha => hF a (by omega))) ⟨rfl, rfl, trivial⟩
  · have store : ∀ y : Int32, (vp_nar .boolean y = 1 ∧ gr_fa n kb gn rn e SG SR k) ∨ (vp_nar .boolean y = 0 ∧ ¬ gr_fa n kb gn rn e SG SR k) → xa_X l D H0 M_Ref_judge R Z 0 0 (xQ_h D h r SG SR FA) sz 109 [(0, .ref r), (2, .int (nI x)), (3, .int (nI k))] [.int y, .int (nI k), .ref (r + 14)] := by
      intro y hy
      refine xa_zast d_Ref_judge_109 xQ_14 (show k < 170 by omega) rfl (by omega) ?_
      refine xa_heap (xQ_u14 _) ?_
      refine xa_iincN d_Ref_judge_110 rfl rfl rfl ?_
      refine xa_goto (tgt := 73) d_Ref_judge_113 (by decide) ?_
      refine xa_ls ?_ (w_jd2 hR h0 hv6 hv7 h9 h10 hn hU hs1 hs2 kont (k + 1) (by omega) _ (fun a ha => ?_))
      · exact ⟨rfl, rfl, rfl, trivial⟩
      · by_cases hak : a = k
        · have hu : upd FA k (vp_nar .boolean y) a = vp_nar .boolean y := if_pos hak
          rw [hu, hak]
          exact hy
        · have hu : upd FA k (vp_nar .boolean y) a = FA a := if_neg hak
          rw [hu]
          exact hF a (by omega)
    refine xa_aload_n d_Ref_judge_81 rfl ?_
    refine xa_getf f_Ref_56 d_Ref_judge_82 (by assumption) (by rfl) ?_
    refine xa_iload_n d_Ref_judge_85 rfl ?_
    refine xa_aload_n d_Ref_judge_86 rfl ?_
    refine xa_getf f_Ref_47 d_Ref_judge_87 (by assumption) (by rfl) ?_
    refine xa_iload_n d_Ref_judge_90 rfl ?_
    refine xa_zaldE d_Ref_judge_91 xQ_11 rfl (show k < 170 by omega) (by omega) rfl ?_
    refine xa_if_eq (tgt := 108) d_Ref_judge_92 (by decide) (fun hz => ?_) (fun hz => ?_)
    ·
      refine xa_iconst (v := nI 0) d_Ref_judge_108 rfl ?_
      exact store _ (Or.inr ⟨rfl, fun z => by have := z.1; rw [hz] at this; exact absurd this (by decide)⟩)
    · have hk1 := (hs1 k hb4).resolve_left hz
      have hcl := gb_cnt_le (P := fun i => SR i = 1 ∧ gr_bel n kb gn rn i k) e
      refine xa_aload_n d_Ref_judge_95 rfl ?_
      refine xa_iload_n d_Ref_judge_96 rfl ?_
      refine xa_callVr (As := [.int (nI k)]) (st := [.int (nI k), .ref (r + 14)]) d_Ref_judge_97 k_Ref_164 q0 (c_Ref_regionsOf q0 hv7 q9 q10 xQ_12 hn hU hs2 hb4) rfl rfl (Nat.le_of_ble_eq_true rfl) ⟨by have := hR.1; show 3 + 1 ≤ _; omega, by have := hR.2; show 8 + (4 + 11) + 73 ≤ _; omega⟩ (by omega) (by omega) ?_
      refine xa_iconst (v := nI 2) d_Ref_judge_100 rfl ?_
      refine xa_icmp_geN (tgt := 108) d_Ref_judge_101 (by decide) (by omega) (by omega) (fun hz2 => ?_) (fun hz2 => ?_)
      ·
        refine xa_iconst (v := nI 0) d_Ref_judge_108 rfl ?_
        exact store _ (Or.inr ⟨rfl, fun z => by have := z.2; omega⟩)
      ·
        refine xa_iconst (v := nI 1) d_Ref_judge_104 rfl ?_
        refine xa_goto (tgt := 109) d_Ref_judge_105 (by decide) ?_
        exact store _ (Or.inl ⟨rfl, hk1, hz2⟩)
termination_by g - k
decreasing_by all_goals omega
theorem w_jd3 {Z : xa_Z} {SG0 SR FA : Nat → Int32} (h0 : h r = some (xR_o r n v)) (hv6 : v 6 = g) (hg : g ≤ 169) (hs1 : ∀ a, a < g → SG0 a = 0 ∨ SG0 a = 1) (hF : ∀ a, a < g → (FA a = 1 ∧ gr_fa n kb gn rn e SG0 SR a) ∨ (FA a = 0 ∧ ¬ gr_fa n kb gn rn e SG0 SR a))
    (kont : ∀ (SG : Nat → Int32) (x : Nat), (∀ a, a < g → (gr_fa n kb gn rn e SG0 SR a → SG a = 0) ∧ (¬ gr_fa n kb gn rn e SG0 SR a → SG a = SG0 a)) → ((x = 1 ∧ ∃ a, a < g ∧ gr_fa n kb gn rn e SG0 SR a) ∨ (x = 0 ∧ ∀ a, a < g → ¬ gr_fa n kb gn rn e SG0 SR a)) → xa_X l D H0 M_Ref_judge R Z 0 0 (xQ_h D h r SG SR FA) sz 180 [(0, .ref r), (2, .int (nI x))] []) (k : Nat) (hk : k ≤ g) (SG : Nat → Int32) (hG1 : ∀ a, a < k → (gr_fa n kb gn rn e SG0 SR a → SG a = 0) ∧ (¬ gr_fa n kb gn rn e SG0 SR a → SG a = SG0 a)) (hG2 : ∀ a, k ≤ a → SG a = SG0 a) (x : Nat) (hx : (x = 1 ∧ ∃ a, a < k ∧ gr_fa n kb gn rn e SG0 SR a) ∨ (x = 0 ∧ ∀ a, a < k → ¬ gr_fa n kb gn rn e SG0 SR a)) :
    xa_X l D H0 M_Ref_judge R Z 0 0 (xQ_h D h r SG SR FA) sz 118 [(0, .ref r), (2, .int (nI x)), (3, .int (nI k))] [] := by
  have q0 : xQ_h D h r SG SR FA r = some (xR_o r n v) := (xQ_n (by omega) (by omega) (by omega)).trans h0
  have hx1 : x ≤ 1 := by omega
  refine xa_iload_n d_Ref_judge_118 rfl ?_
  refine xa_aload_n d_Ref_judge_119 rfl ?_
  refine xa_getf f_Ref_137 d_Ref_judge_120 (by assumption) (by rfl) ?_
  refine xa_int (y := nI g) (by rw [hv6]) ?_
  refine xa_icmp_geN (tgt := 180) d_Ref_judge_123 (by decide) (by omega) (by omega) (fun hb4 => ?_) (fun hb4 => ?_)
  · have hke : k = g := by omega
    subst hke
    exact xa_sl (kont SG x hG1 hx) ⟨rfl, rfl, trivial⟩
  · have mid : ∀ y : Nat, ((y = 1 ∧ ∃ a, a < k + 1 ∧ gr_fa n kb gn rn e SG0 SR a) ∨ (y = 0 ∧ ∀ a, a < k + 1 → ¬ gr_fa n kb gn rn e SG0 SR a)) → xa_X l D H0 M_Ref_judge R Z 0 0 (xQ_h D h r SG SR FA) sz 144 [(0, .ref r), (2, .int (nI x)), (3, .int (nI k))] [.int (nI y)] := by
      intro y hy
      have store : ∀ z : Int32, ((gr_fa n kb gn rn e SG0 SR k → vp_nar .boolean z = 0) ∧ (¬ gr_fa n kb gn rn e SG0 SR k → vp_nar .boolean z = SG0 k)) → xa_X l D H0 M_Ref_judge R Z 0 0 (xQ_h D h r SG SR FA) sz 173 [(2, .int (nI y)), (0, .ref r), (3, .int (nI k))] [.int z, .int (nI k), .ref (r + 11)] := by
        intro z hz
        refine xa_zast d_Ref_judge_173 xQ_11 (show k < 170 by omega) rfl (by omega) ?_
        refine xa_heap (xQ_u11 _) ?_
        refine xa_iincN d_Ref_judge_174 rfl rfl rfl ?_
        refine xa_goto (tgt := 118) d_Ref_judge_177 (by decide) ?_
        refine xa_ls ?_ (w_jd3 h0 hv6 hg hs1 hF kont (k + 1) (by omega) _ (fun a ha => ?_) (fun a ha => ?_) y hy)
        · exact ⟨rfl, rfl, rfl, trivial⟩
        · by_cases hak : a = k
          · have hu : upd SG k (vp_nar .boolean z) a = vp_nar .boolean z := if_pos hak
            rw [hu, hak]
            exact hz
          · have hu : upd SG k (vp_nar .boolean z) a = SG a := if_neg hak
            rw [hu]
            exact hG1 a (by omega)
        · have hu : upd SG k (vp_nar .boolean z) a = SG a := if_neg (by omega)
          rw [hu]
          exact hG2 a (by omega)
      refine xa_istore_n d_Ref_judge_144 rfl rfl ?_
      refine xa_aload_n d_Ref_judge_145 rfl ?_
      refine xa_getf f_Ref_47 d_Ref_judge_146 (by assumption) (by rfl) ?_
      refine xa_iload_n d_Ref_judge_149 rfl ?_
      refine xa_aload_n d_Ref_judge_150 rfl ?_
      refine xa_getf f_Ref_47 d_Ref_judge_151 (by assumption) (by rfl) ?_
      refine xa_iload_n d_Ref_judge_154 rfl ?_
      refine xa_zaldE d_Ref_judge_155 xQ_11 rfl (show k < 170 by omega) (by omega) (hG2 k (Nat.le_refl k)) ?_
      refine xa_if_eq (tgt := 172) d_Ref_judge_156 (by decide) (fun hz => ?_) (fun hz => ?_)
      ·
        refine xa_iconst (v := nI 0) d_Ref_judge_172 rfl ?_
        refine xa_ls ?_ (store _ ⟨fun _ => rfl, fun _ => hz.symm⟩)
        exact ⟨rfl, rfl, rfl, trivial⟩
      · have hk1 := (hs1 k hb4).resolve_left hz
        refine xa_aload_n d_Ref_judge_159 rfl ?_
        refine xa_getf f_Ref_56 d_Ref_judge_160 (by assumption) (by rfl) ?_
        refine xa_iload_n d_Ref_judge_163 rfl ?_
        refine xa_zaldE d_Ref_judge_164 xQ_14 rfl (show k < 170 by omega) (by omega) rfl ?_
        refine xa_if_ne (tgt := 172) d_Ref_judge_165 (by decide) (fun hz2 => ?_) (fun hz2 => ?_)
        · have hfa := ((hF k hb4).resolve_right (fun z => hz2 z.1)).2
          refine xa_iconst (v := nI 0) d_Ref_judge_172 rfl ?_
          refine xa_ls ?_ (store _ ⟨fun _ => rfl, fun z => absurd hfa z⟩)
          exact ⟨rfl, rfl, rfl, trivial⟩
        · have hnfa := ((hF k hb4).resolve_left (fun z => by have := z.1; rw [hz2] at this; exact absurd this (by decide))).2
          refine xa_iconst (v := nI 1) d_Ref_judge_168 rfl ?_
          refine xa_goto (tgt := 173) d_Ref_judge_169 (by decide) ?_
          refine xa_ls ?_ (store _ ⟨fun z => absurd z hnfa, fun _ => hk1.symm⟩)
          exact ⟨rfl, rfl, rfl, trivial⟩
    refine xa_iload_n d_Ref_judge_126 rfl ?_
    refine xa_if_neN (tgt := 139) d_Ref_judge_127 (by decide) (by omega) (fun hz => ?_) (fun hz => ?_)
    · obtain ⟨a, ha, hfa⟩ := (hx.resolve_right (fun z => by omega)).2
      refine xa_iconst (v := nI 1) d_Ref_judge_139 rfl ?_
      refine xa_goto (tgt := 144) d_Ref_judge_140 (by decide) ?_
      exact mid 1 (Or.inl ⟨rfl, a, by omega, hfa⟩)
    · have hno := (hx.resolve_left (fun z => by omega)).2
      refine xa_aload_n d_Ref_judge_130 rfl ?_
      refine xa_getf f_Ref_56 d_Ref_judge_131 (by assumption) (by rfl) ?_
      refine xa_iload_n d_Ref_judge_134 rfl ?_
      refine xa_zaldE d_Ref_judge_135 xQ_14 rfl (show k < 170 by omega) (by omega) rfl ?_
      refine xa_if_eq (tgt := 143) d_Ref_judge_136 (by decide) (fun hz2 => ?_) (fun hz2 => ?_)
      · have hnfa := ((hF k hb4).resolve_left (fun z => by have := z.1; rw [hz2] at this; exact absurd this (by decide))).2
        refine xa_iconst (v := nI 0) d_Ref_judge_143 rfl ?_
        refine mid 0 (Or.inr ⟨rfl, fun a ha => ?_⟩)
        by_cases hak : a = k
        · rw [hak]; exact hnfa
        · exact hno a (by omega)
      · have hfa := ((hF k hb4).resolve_right (fun z => hz2 z.1)).2
        refine xa_iconst (v := nI 1) d_Ref_judge_139 rfl ?_
        refine xa_goto (tgt := 144) d_Ref_judge_140 (by decide) ?_
        exact mid 1 (Or.inl ⟨rfl, k, by omega, hfa⟩)
termination_by g - k
decreasing_by all_goals omega
theorem w_jd4 {Z : xa_Z} (hR : 4 ≤ R.frames ∧ 96 ≤ R.locals) (h0 : h r = some (xR_o r n v)) (hv6 : v 6 = g) (hv7 : v 7 = e) (h9 : h (r + 9) = some (.inl (D.1 100, 169, .inl GR))) (h10 : h (r + 10) = some (.inl (D.1 100, 169, .inl RG))) (hn : 2 ≤ n ∧ n ≤ 13) (hU : gr_U n kb GR RG gn rn g e)
    (kont : ∀ SG SR FA : Nat → Int32, gr_J n kb gn rn g e SG SR → (∀ a, a < g → ¬ gr_fa n kb gn rn e SG SR a) → xa_X l D H0 M_Ref_judge R Z 0 0 (xQ_h D h r SG SR FA) sz 187 [] []) (c : Nat) (SG SR FA : Nat → Int32) (hJ : gr_J n kb gn rn g e SG SR) (x : Nat) (hx : (x = 1 ∧ g < c + gb_cnt (fun a => SG a = 0) g) ∨ (x = 0 ∧ ∀ a, a < g → ¬ gr_fa n kb gn rn e SG SR a)) :
    xa_X l D H0 M_Ref_judge R Z 0 0 (xQ_h D h r SG SR FA) sz 65 [(0, .ref r), (2, .int (nI x))] [] := by
  have hN : n * n ≤ 169 := Nat.mul_le_mul hn.2 hn.2
  have hgN : g ≤ n * n := hU.2.2.2.2.2.2.1
  have hx1 : x ≤ 1 := by omega
  refine xa_iload_n d_Ref_judge_65 rfl ?_
  refine xa_if_eqN (tgt := 187) d_Ref_judge_66 (by decide) (by omega) (fun hz => ?_) (fun hz => ?_)
  · have hno := (hx.resolve_left (fun z => by omega)).2
    exact xa_sl (kont SG SR FA hJ hno) trivial
  · have hc := (hx.resolve_right (fun z => by omega)).2
    have hcl := gb_cnt_le (P := fun a => SG a = 0) g
    obtain ⟨c, rfl⟩ : ∃ c', c = c' + 1 := ⟨c - 1, by omega⟩
    refine xa_iconst (v := nI 0) d_Ref_judge_69 rfl ?_
    refine xa_istore_n d_Ref_judge_70 rfl rfl ?_
    refine xa_iconst (v := nI 0) d_Ref_judge_71 rfl ?_
    refine xa_istore_n d_Ref_judge_72 rfl rfl ?_
    refine xa_ls ?_ (w_jd2 (x := 0) hR h0 hv6 hv7 h9 h10 hn hU hJ.2.2.1 hJ.2.2.2 (fun FA1 hF1 => ?_) 0 (by omega) FA (fun a ha => absurd ha (Nat.not_lt_zero _)))
    · exact ⟨rfl, rfl, rfl, trivial⟩
    ·
      refine xa_iconst (v := nI 0) d_Ref_judge_116 rfl ?_
      refine xa_istore_n d_Ref_judge_117 rfl rfl ?_
      refine xa_ls ?_ (w_jd3 (kb := kb) (gn := gn) (rn := rn) (e := e) h0 hv6 (by omega) hJ.2.2.1 hF1 (fun SG1 x1 hG1 hx1 => ?_) 0 (by omega) SG (fun a ha => absurd ha (Nat.not_lt_zero _)) (fun a _ => rfl) 0 (Or.inr ⟨rfl, fun a ha => absurd ha (Nat.not_lt_zero _)⟩))
      · exact ⟨rfl, rfl, rfl, trivial⟩
      · have hs1 : ∀ a, a < g → SG1 a = 0 ∨ SG1 a = 1 := fun a ha => by
          by_cases hfa : gr_fa n kb gn rn e SG SR a
          · exact Or.inl ((hG1 a ha).1 hfa)
          · rw [(hG1 a ha).2 hfa]; exact hJ.2.2.1 a ha
        have q0 : xQ_h D h r SG1 SR FA1 r = some (xR_o r n v) := (xQ_n (by omega) (by omega) (by omega)).trans h0
        have q9 : xQ_h D h r SG1 SR FA1 (r + 9) = some (.inl (D.1 100, 169, .inl GR)) := (xQ_n (by omega) (by omega) (by omega)).trans h9
        have q10 : xQ_h D h r SG1 SR FA1 (r + 10) = some (.inl (D.1 100, 169, .inl RG)) := (xQ_n (by omega) (by omega) (by omega)).trans h10
        refine xa_aload_n d_Ref_judge_180 rfl ?_
        refine xa_callV (As := []) (st := []) d_Ref_judge_181 k_Ref_167 q0 (c_Ref_fellRegions q0 q9 q10 xQ_11 xQ_12 hn hU hs1) rfl rfl (Nat.le_of_ble_eq_true rfl) ⟨by have := hR.1; show 1 + 1 ≤ _; omega, by have := hR.2; show 8 + (4 + 11) + 24 ≤ _; omega⟩ (by omega) (by omega) (fun v' h' sz' hq => ?_)
        obtain ⟨SR1, hR1, e1, e2, e3⟩ := hq
        rw [e1, e2, e3, xQ_u12]
        obtain ⟨hJ1, hmono⟩ := gr_J_step hU hJ hG1 hR1
        refine xa_goto (tgt := 65) d_Ref_judge_184 (by decide) ?_
        refine xa_ls ?_ (w_jd4 hR h0 hv6 hv7 h9 h10 hn hU kont c SG1 SR1 FA1 hJ1 x1 ?_)
        · exact ⟨rfl, rfl, trivial⟩
        · rcases hx1 with ⟨ex, a, ha, hfa⟩ | ⟨ex, hno⟩
          · refine Or.inl ⟨ex, ?_⟩
            have := gb_cnt_strict (P := fun a => SG a = 0) (P' := fun a => SG1 a = 0) (x := a) (fun z => by have := hfa.1; rw [z] at this; exact absurd this (by decide)) ((hG1 a ha).1 hfa) g ha (fun a ha h0 => hmono a ha h0)
            omega
          · refine Or.inr ⟨ex, fun a ha hfa => ?_⟩
            -- nothing fell: the groups are as they were, and so are the regions
            have eSG : ∀ a, a < g → SG1 a = SG a := fun a ha => (hG1 a ha).2 (hno a ha)
            have eSR : ∀ i, i < e → SR1 i = SR i := fun i hi => by
              by_cases hfr : gr_fr n kb gn rn SG1 i
              · rw [(hR1 i hi).1 hfr]
                obtain ⟨p, w, q, hp, hk, hr, hw, hq, hkq, hs⟩ := hfr
                rcases hJ.2.2.2 i hi with z | z
                · exact z.symm
                · exfalso
                  have h1 := hJ.2.1 p w q hp hk (by rw [hr]; exact z) hw hq hkq
                  rw [eSG _ (hU.1 q (gb_nb_lt hp hw hq) hkq).2.1, h1] at hs
                  exact absurd hs (by decide)
              · exact (hR1 i hi).2 hfr
            refine hno a ha ⟨by rw [← eSG a ha]; exact hfa.1, ?_⟩
            rw [← gb_cnt_eq (P := fun i => SR1 i = 1 ∧ gr_bel n kb gn rn i a) e (fun i hi => by rw [eSR i hi])]
            exact hfa.2
termination_by c
decreasing_by omega
/-- judged -/
def gr_JQ (D : va_G) (h : xa_H) (r n : Nat) (kb : Nat → Nat) : Prop := ∃ (GR RG SG SR : Nat → Int32) (gn rn : Nat → Nat) (g e : Nat), gr_U n kb GR RG gn rn g e ∧ h (r + 9) = some (.inl (D.1 100, 169, .inl GR)) ∧ h (r + 10) = some (.inl (D.1 100, 169, .inl RG)) ∧ h (r + 11) = some (.inl (D.1 102, 170, .inl SG)) ∧ h (r + 12) = some (.inl (D.1 102, 170, .inl SR)) ∧ (∀ a, a < g → SG a = 0 ∨ SG a = 1) ∧ (∀ a, a < e → SR a = 0 ∨ SR a = 1) ∧ ∀ p, p < n * n → (gr_st kb gn rn SG SR p ↔ gl_al n kb p)
end JD
section JE
variable {l : Launch} {D : va_G} {H0 : Heap} {h : xa_H} {sz : Nat} {R : Room} {r n fs : Nat} {b : Nat → Nat} {m : Nat} {bd : Nat → Nat → Nat} {pt : Nat → Int32} {tb tw : Nat → Nat} {cd : Nat}
theorem c_Ref_judge {sd : Nat} (hS : xR_S D h r n fs b m bd pt tb tw cd) (hZ : xZ_I n fs b m bd pt tb tw) (hsd : sd = 1 ∨ sd = 2) :
    xa_M l D H0 M_Ref_judge 4 96 0 0 [.ref r, .int (nI sd)] h sz (fun v h' sz' => v = none ∧ gr_JQ D h' r n (gl_k b sd) ∧ xR_S D h' r n fs b m bd pt tb tw cd ∧ xR_F h h' r ∧ sz' = sz) := by
  have hn := hZ.1.1
  have hN : n * n ≤ 169 := Nat.mul_le_mul hn.2 hn.2
  have hb := hZ.b2
  obtain ⟨v, B, SD, MV, TB, TW, hA, ⟨f0, f3, f4⟩, hI⟩ := id hS
  obtain ⟨g0, g1, -, -, -, -, TR, IN, RW, GR0, RG0, -, -, -, -, -, a7, a8, a9, -⟩ := id hA
  refine xa_enter (by decide) rfl rfl ?_
  refine xa_aload_n d_Ref_judge_0 rfl ?_
  refine xa_iload_n d_Ref_judge_1 rfl ?_
  refine xa_callV (As := [.int (nI sd)]) (st := []) d_Ref_judge_2 k_Ref_140 g0 (c_Ref_number (b := b) g0 g1 a7 a8 a9 hn hI.1 hb hsd) rfl rfl (Nat.le_of_ble_eq_true rfl) ⟨by decide, by decide⟩ (by decide) (by decide) (fun v' h' sz' hq => ?_)
  obtain ⟨e1, ⟨GR, IN', RW', gn, g, e', hG, e2⟩, e3⟩ := hq
  rw [e1, e2, e3]
  have hA1 := hA.N (GR := GR) (g := g) (IN := IN') (RW := RW') (e := e')
  have q9 : xN_h D h r n v GR g IN' RW' e' (r + 9) = some (.inl (D.1 100, 169, .inl GR)) := xN_9
  have hF1 : ∀ q, q < r ∨ r + 15 ≤ q → xN_h D h r n v GR g IN' RW' e' q = h q := fun q hq => xN_n (by omega) (by omega) (by omega) (by omega)
  have w0 : (xh_up (xh_up v 6 g) 5 e') 0 = cd := f0
  have w3 : (xh_up (xh_up v 6 g) 5 e') 3 = m := f3
  have w4 : (xh_up (xh_up v 6 g) 5 e') 4 = fs := f4
  have w6 : (xh_up (xh_up v 6 g) 5 e') 6 = g := rfl
  generalize xh_up (xh_up v 6 g) 5 e' = w at *
  generalize hHe : xN_h D h r n v GR g IN' RW' e' = h1 at *
  clear hHe e2
  obtain ⟨k0, k1, -, -, -, -, TR1, IN1, RW1, GR1, RG1, -, -, -, -, -, -, c8, -, c10, -⟩ := id hA1
  refine xa_aload_n d_Ref_judge_5 rfl ?_
  refine xa_iload_n d_Ref_judge_6 rfl ?_
  refine xa_callV (As := [.int (nI sd)]) (st := []) d_Ref_judge_7 k_Ref_161 k0 (c_Ref_divide (b := b) k0 k1 c8 c10 hn hI.1 hb hsd) rfl rfl (Nat.le_of_ble_eq_true rfl) ⟨by decide, by decide⟩ (by decide) (by decide) (fun v' h' sz' hq => ?_)
  obtain ⟨e1, ⟨RG, RW2, rn, e, e4, hG2, e2⟩, e3⟩ := hq
  rw [e1, e2, e3]
  have hA2 := hA1.dv (RG := RG) (g := e) (RW := RW2) (e := e4)
  have r9 : xD_h D h1 r n w RG e RW2 e4 (r + 9) = some (.inl (D.1 100, 169, .inl GR)) := (xD_n (by omega) (by omega) (by omega)).trans q9
  have r10 : xD_h D h1 r n w RG e RW2 e4 (r + 10) = some (.inl (D.1 100, 169, .inl RG)) := xD_10
  have hF2 : ∀ q, q < r ∨ r + 15 ≤ q → xD_h D h1 r n w RG e RW2 e4 q = h q := fun q hq => (xD_n (by omega) (by omega) (by omega)).trans (hF1 q hq)
  have u0 : (xh_up (xh_up w 7 e) 5 e4) 0 = cd := w0
  have u3 : (xh_up (xh_up w 7 e) 5 e4) 3 = m := w3
  have u4 : (xh_up (xh_up w 7 e) 5 e4) 4 = fs := w4
  have u6 : (xh_up (xh_up w 7 e) 5 e4) 6 = g := w6
  have u7 : (xh_up (xh_up w 7 e) 5 e4) 7 = e := rfl
  generalize xh_up (xh_up w 7 e) 5 e4 = u at *
  generalize hHe : xD_h D h1 r n w RG e RW2 e4 = h2 at *
  clear hHe e2
  have hU := gr_U_of hb hG hG2
  have hgN : g ≤ n * n := hU.2.2.2.2.2.2.1
  have heN : e ≤ n * n := hU.2.2.2.2.2.2.2.1
  obtain ⟨TR2, IN2, RW3, GR2, RG2, SG, SR, GO, FA, -, -, -, -, -, b11, b12, -, b14⟩ := id hA2.2.2.2.2.2.2
  refine xa_iconst (v := nI 0) d_Ref_judge_10 rfl ?_
  refine xa_istore_n d_Ref_judge_11 rfl rfl ?_
  refine xa_heap (xQ_s b11 b12 b14).symm ?_
  refine xa_ls ?_ (w_jd1 (g := g) (e := e) hA2.1 u6 u7 (by omega) (by omega) (fun SG1 SR1 hs1 hs2 => ?_) 0 (by omega) SG SR (fun a ha => absurd ha (Nat.not_lt_zero _)) (fun a ha => absurd ha (Nat.not_lt_zero _)))
  · exact ⟨rfl, rfl, trivial⟩
  ·
    refine xa_iconst (v := nI 1) d_Ref_judge_63 rfl ?_
    refine xa_istore_n d_Ref_judge_64 rfl rfl ?_
    refine xa_ls ?_ (w_jd4 ⟨by decide, by decide⟩ hA2.1 u6 u7 r9 r10 hn hU (fun SG' SR' FA' hJ hno => ?_) (g + 1) SG1 SR1 FA (gr_J_0 hU hs1 hs2) 1 (Or.inl ⟨rfl, by omega⟩))
    · exact ⟨rfl, rfl, trivial⟩
    · exact xa_return d_Ref_judge_187 rfl (by decide) (by decide) ⟨rfl, ⟨GR, RG, SG', SR', gn, rn, g, e, hU, (xQ_n (by omega) (by omega) (by omega)).trans r9, (xQ_n (by omega) (by omega) (by omega)).trans r10, xQ_11, xQ_12, hJ.2.2.1, hJ.2.2.2, gr_J_end hU hJ hno⟩, ⟨u, B, SD, MV, TB, TW, hA2.Q, ⟨u0, u3, u4⟩, hI⟩, fun q hq => (xQ_n (by omega) (by omega) (by omega)).trans (hF2 q hq), rfl⟩
theorem c_Ref_alive {p : Nat} (hS : xR_S D h r n fs b m bd pt tb tw cd) (hZ : xZ_I n fs b m bd pt tb tw) (hp : p < n * n) :
    xa_M l D H0 M_Ref_alive 5 119 0 0 [.ref r, .int (nI p)] h sz (fun v h' sz' => ((v = some (.int 1) ∧ b p ≠ 0 ∧ gl_al n (gl_k b (b p)) p) ∨ (v = some (.int 0) ∧ ¬ (b p ≠ 0 ∧ gl_al n (gl_k b (b p)) p))) ∧ xR_S D h' r n fs b m bd pt tb tw 0 ∧ xR_F h h' r ∧ sz' = sz) := by
  have hn := hZ.1.1
  have hN : n * n ≤ 169 := Nat.mul_le_mul hn.2 hn.2
  have hbp := hZ.b2 p hp
  obtain ⟨v0, h0, -⟩ := hS.code
  refine xa_enter (by decide) rfl rfl ?_
  refine xa_aload_n d_Ref_alive_0 rfl ?_
  refine xa_iload_n d_Ref_alive_1 rfl ?_
  refine xa_callV (As := [.int (nI p)]) (st := []) d_Ref_alive_2 k_Ref_118 h0 (c_Ref_noPoint hS hZ.1.1 hp) rfl rfl (Nat.le_of_ble_eq_true rfl) ⟨by decide, by decide⟩ (by decide) (by decide) (fun v' h1 sz' hq => ?_)
  obtain ⟨e1, hS1, hF1, e2⟩ := hq
  rw [e1, e2]
  obtain ⟨v, B, g0, g1, -, -, gB⟩ := hS1.bB
  refine xa_if_neN (tgt := 17) d_Ref_alive_5 (by decide) (by omega) (fun hz => ?_) (fun hz => ?_)
  · omega
  ·
    refine xa_aload_n d_Ref_alive_8 rfl ?_
    refine xa_getf f_Ref_7 d_Ref_alive_9 (by assumption) (by rfl) ?_
    refine xa_iload_n d_Ref_alive_12 rfl ?_
    refine xa_ialdE d_Ref_alive_13 g1 rfl (show p < 169 by omega) (by omega) (gB p hp) ?_
    refine xa_if_neN (tgt := 19) d_Ref_alive_14 (by decide) (by omega) (fun hz1 => ?_) (fun hz1 => ?_)
    ·
      refine xa_aload_n d_Ref_alive_19 rfl ?_
      refine xa_aload_n d_Ref_alive_20 rfl ?_
      refine xa_getf f_Ref_7 d_Ref_alive_21 (by assumption) (by rfl) ?_
      refine xa_iload_n d_Ref_alive_24 rfl ?_
      refine xa_ialdE d_Ref_alive_25 g1 rfl (show p < 169 by omega) (by omega) (gB p hp) ?_
      refine xa_callV (As := [.int (nI (b p))]) (st := []) d_Ref_alive_26 k_Ref_170 g0 (c_Ref_judge hS1 hZ (by omega)) rfl rfl (Nat.le_of_ble_eq_true rfl) ⟨by decide, by decide⟩ (by decide) (by decide) (fun v' h2 sz' hq => ?_)
      obtain ⟨e1, ⟨GR, RG, SG, SR, gn, rn, g, e, hU, j9, j10, j11, j12, js1, js2, hal⟩, hS2, hF2, e2⟩ := hq
      rw [e1, e2]
      obtain ⟨v2, k0, -⟩ := hS2.code
      have hkp : gl_k b (b p) p = 1 := gl_k_1 rfl
      obtain ⟨t1, t2, t3⟩ := hU.1 p hp hkp
      have hgN : g ≤ n * n := hU.2.2.2.2.2.2.1
      refine xa_aload_n d_Ref_alive_29 rfl ?_
      refine xa_getf f_Ref_47 d_Ref_alive_30 (by assumption) (by rfl) ?_
      refine xa_aload_n d_Ref_alive_33 rfl ?_
      refine xa_getf f_Ref_41 d_Ref_alive_34 (by assumption) (by rfl) ?_
      refine xa_iload_n d_Ref_alive_37 rfl ?_
      refine xa_ialdE d_Ref_alive_38 j9 rfl (show p < 169 by omega) (by omega) t1 ?_
      rcases js1 (gn p) t2 with hs | hs
      · refine xa_zaldE d_Ref_alive_39 j11 rfl (show gn p < 170 by omega) (by omega) hs ?_
        exact xa_zreturn (v := 0) d_Ref_alive_40 rfl (by decide) (by decide) (by decide) ⟨Or.inr ⟨rfl, fun z => by
          have := (hal p hp).mpr z.2
          rcases this with ⟨_, y⟩ | ⟨y, _⟩
          · rw [hs] at y; exact absurd y (by decide)
          · omega⟩, hS2, gr_F_tr hF1 hF2, rfl⟩
      · refine xa_zaldE d_Ref_alive_39 j11 rfl (show gn p < 170 by omega) (by omega) hs ?_
        exact xa_zreturn (v := 1) d_Ref_alive_40 rfl (by decide) (by decide) (by decide) ⟨Or.inl ⟨rfl, by omega, (hal p hp).mp (Or.inl ⟨hkp, hs⟩)⟩, hS2, gr_F_tr hF1 hF2, rfl⟩
    ·
      refine xa_iconst (v := nI 0) d_Ref_alive_17 rfl ?_
      exact xa_zreturn (v := nI 0) d_Ref_alive_18 rfl (by decide) (by decide) (by decide) ⟨Or.inr ⟨rfl, fun z => z.1 hz1⟩, hS1, hF1, rfl⟩
theorem c_Ref_aliveX {x : Int32} (hS : xR_S D h r n fs b m bd pt tb tw cd) (hx : x < 0 ∨ nI (n * n) ≤ x) :
    xa_M l D H0 M_Ref_alive 5 119 0 0 [.ref r, .int x] h sz (fun v h' sz' => v = some (.int (nI 0)) ∧ xR_S D h' r n fs b m bd pt tb tw 1 ∧ xR_F h h' r ∧ sz' = sz) := by
  obtain ⟨v, h0, e0, e3, e4, hc⟩ := hS.code
  refine xa_enter (by decide) rfl rfl ?_
  refine xa_aload_n d_Ref_alive_0 rfl ?_
  refine xa_iload_n d_Ref_alive_1 rfl ?_
  refine xa_callV (As := [.int x]) (st := []) d_Ref_alive_2 k_Ref_118 h0 (c_Ref_noPointX hS hx) rfl rfl (Nat.le_of_ble_eq_true rfl) ⟨by decide, by decide⟩ (by decide) (by decide) (fun v' h1 sz' hq => ?_)
  obtain ⟨e1, hS1, hF1, e2⟩ := hq
  rw [e1, e2]
  refine xa_if_neN (tgt := 17) d_Ref_alive_5 (by decide) (by omega) (fun hz => ?_) (fun hz => ?_)
  ·
    refine xa_iconst (v := nI 0) d_Ref_alive_17 rfl ?_
    exact xa_zreturn (v := nI 0) d_Ref_alive_18 rfl (by decide) (by decide) (by decide) ⟨rfl, hS1, hF1, rfl⟩
  · omega
theorem w_Ref_safe {Z : xa_Z} {v : Nat → Nat} {kb : Nat → Nat} {GR RG SG SR : Nat → Int32} {gn rn : Nat → Nat} {g e : Nat} (h0 : h r = some (xR_o r n v)) (hn : 2 ≤ n ∧ n ≤ 13) (hU : gr_U n kb GR RG gn rn g e) (h9 : h (r + 9) = some (.inl (D.1 100, 169, .inl GR))) (h10 : h (r + 10) = some (.inl (D.1 100, 169, .inl RG))) (h11 : h (r + 11) = some (.inl (D.1 102, 170, .inl SG))) (h12 : h (r + 12) = some (.inl (D.1 102, 170, .inl SR))) (hs1 : ∀ a, a < g → SG a = 0 ∨ SG a = 1) (hs2 : ∀ a, a < e → SR a = 0 ∨ SR a = 1) (hal : ∀ p, p < n * n → (gr_st kb gn rn SG SR p ↔ gl_al n kb p))
    (kont : xa_X l D H0 M_Ref_safe R Z 0 0 h sz 97 [(2, .int (nI (gb_cnt (fun q => kb q = 0 ∧ gl_al n kb q) (n * n)))), (3, .int (nI (gb_cnt (fun q => kb q = 1 ∧ gl_al n kb q) (n * n))))] []) (p : Nat) (hp : p ≤ n * n) :
    xa_X l D H0 M_Ref_safe R Z 0 0 h sz 23 [(0, .ref r), (2, .int (nI (gb_cnt (fun q => kb q = 0 ∧ gl_al n kb q) p))), (3, .int (nI (gb_cnt (fun q => kb q = 1 ∧ gl_al n kb q) p))), (4, .int (nI p))] [] := by
  have hN : n * n ≤ 169 := Nat.mul_le_mul hn.2 hn.2
  have hgN : g ≤ n * n := hU.2.2.2.2.2.2.1
  have heN : e ≤ n * n := hU.2.2.2.2.2.2.2.1
  refine xa_iload d_Ref_safe_23 rfl ?_
  refine xa_aload_n d_Ref_safe_25 rfl ?_
  refine xa_getf f_Ref_62 d_Ref_safe_26 (by assumption) (by rfl) ?_
  refine xa_icmp_geN (tgt := 97) d_Ref_safe_29 (by decide) (by omega) (by omega) (fun hb4 => ?_) (fun hb4 => ?_)
  · have hpe : p = n * n := by omega
    subst hpe
    exact xa_sl kont ⟨rfl, rfl, trivial⟩
  ·
    refine xa_aload_n d_Ref_safe_32 rfl ?_
    refine xa_getf f_Ref_41 d_Ref_safe_33 (by assumption) (by rfl) ?_
    refine xa_iload d_Ref_safe_36 rfl ?_
    refine xa_ialdE d_Ref_safe_38 h9 rfl (show p < 169 by omega) (by omega) rfl ?_
    rcases hU.2.2.2.2.2.2.2.2 p hb4 with hk | hk
    · obtain ⟨t1, t2, t3⟩ := hU.2.1 p hb4 hk
      have hno1 : ¬ (kb p = 1 ∧ gl_al n kb p) := fun z => by have := z.1; omega
      refine xa_int (y := -1) t3 ?_
      refine xa_if_lt (tgt := 68) d_Ref_safe_39 (by decide) (fun hz => ?_) (fun hz => ?_)
      ·
        refine xa_aload_n d_Ref_safe_68 rfl ?_
        refine xa_getf f_Ref_50 d_Ref_safe_69 (by assumption) (by rfl) ?_
        refine xa_aload_n d_Ref_safe_72 rfl ?_
        refine xa_getf f_Ref_44 d_Ref_safe_73 (by assumption) (by rfl) ?_
        refine xa_iload d_Ref_safe_76 rfl ?_
        refine xa_ialdE d_Ref_safe_78 h10 rfl (show p < 169 by omega) (by omega) t1 ?_
        refine xa_zaldE d_Ref_safe_79 h12 rfl (show rn p < 170 by omega) (by omega) rfl ?_
        refine xa_if_eq (tgt := 89) d_Ref_safe_80 (by decide) (fun hz2 => ?_) (fun hz2 => ?_)
        · have hno : ¬ (kb p = 0 ∧ gl_al n kb p) := fun z => by
            rcases (hal p hb4).mpr z.2 with ⟨y, _⟩ | ⟨_, y⟩
            · omega
            · rw [hz2] at y; exact absurd y (by decide)
          refine xa_iload_n d_Ref_safe_89 rfl ?_
          refine xa_istore_n d_Ref_safe_90 rfl rfl ?_
          refine xa_iincN d_Ref_safe_91 rfl rfl rfl ?_
          refine xa_goto (tgt := 23) d_Ref_safe_94 (by decide) ?_
          refine xa_ls ?_ (w_Ref_safe h0 hn hU h9 h10 h11 h12 hs1 hs2 hal kont (p + 1) (by omega))
          exact ⟨rfl, by rw [gb_cnt_n (P := fun q => kb q = 0 ∧ gl_al n kb q) hno]; rfl, by rw [gb_cnt_n (P := fun q => kb q = 1 ∧ gl_al n kb q) hno1]; rfl, rfl, trivial⟩
        · have hyes : kb p = 0 ∧ gl_al n kb p := ⟨hk, (hal p hb4).mp (Or.inr ⟨hk, (hs2 _ t2).resolve_left hz2⟩)⟩
          refine xa_iload_n d_Ref_safe_83 rfl ?_
          refine xa_iconst (v := nI 1) d_Ref_safe_84 rfl ?_
          refine xa_iaddN d_Ref_safe_85 ?_
          refine xa_goto (tgt := 90) d_Ref_safe_86 (by decide) ?_
          refine xa_istore_n d_Ref_safe_90 rfl rfl ?_
          refine xa_iincN d_Ref_safe_91 rfl rfl rfl ?_
          refine xa_goto (tgt := 23) d_Ref_safe_94 (by decide) ?_
          refine xa_ls ?_ (w_Ref_safe h0 hn hU h9 h10 h11 h12 hs1 hs2 hal kont (p + 1) (by omega))
          exact ⟨rfl, by rw [gb_cnt_y (P := fun q => kb q = 0 ∧ gl_al n kb q) hyes]; rfl, by rw [gb_cnt_n (P := fun q => kb q = 1 ∧ gl_al n kb q) hno1]; rfl, rfl, trivial⟩
      · exact absurd (by decide) hz
    · obtain ⟨t1, t2, t3⟩ := hU.1 p hb4 hk
      have hno1 : ¬ (kb p = 0 ∧ gl_al n kb p) := fun z => by have := z.1; omega
      refine xa_int (y := nI (gn p)) t1 ?_
      refine xa_if_lt (tgt := 68) d_Ref_safe_39 (by decide) (fun hz => ?_) (fun hz => ?_)
      · exact absurd hz (nI_pos (by omega))
      ·
        refine xa_aload_n d_Ref_safe_42 rfl ?_
        refine xa_getf f_Ref_47 d_Ref_safe_43 (by assumption) (by rfl) ?_
        refine xa_aload_n d_Ref_safe_46 rfl ?_
        refine xa_getf f_Ref_41 d_Ref_safe_47 (by assumption) (by rfl) ?_
        refine xa_iload d_Ref_safe_50 rfl ?_
        refine xa_ialdE d_Ref_safe_52 h9 rfl (show p < 169 by omega) (by omega) t1 ?_
        refine xa_zaldE d_Ref_safe_53 h11 rfl (show gn p < 170 by omega) (by omega) rfl ?_
        refine xa_if_eq (tgt := 63) d_Ref_safe_54 (by decide) (fun hz2 => ?_) (fun hz2 => ?_)
        · have hno : ¬ (kb p = 1 ∧ gl_al n kb p) := fun z => by
            rcases (hal p hb4).mpr z.2 with ⟨_, y⟩ | ⟨y, _⟩
            · rw [hz2] at y; exact absurd y (by decide)
            · omega
          refine xa_iload_n d_Ref_safe_63 rfl ?_
          refine xa_istore_n d_Ref_safe_64 rfl rfl ?_
          refine xa_goto (tgt := 91) d_Ref_safe_65 (by decide) ?_
          refine xa_iincN d_Ref_safe_91 rfl rfl rfl ?_
          refine xa_goto (tgt := 23) d_Ref_safe_94 (by decide) ?_
          refine xa_ls ?_ (w_Ref_safe h0 hn hU h9 h10 h11 h12 hs1 hs2 hal kont (p + 1) (by omega))
          exact ⟨rfl, by rw [gb_cnt_n (P := fun q => kb q = 0 ∧ gl_al n kb q) hno1]; rfl, by rw [gb_cnt_n (P := fun q => kb q = 1 ∧ gl_al n kb q) hno]; rfl, rfl, trivial⟩
        · have hyes : kb p = 1 ∧ gl_al n kb p := ⟨hk, (hal p hb4).mp (Or.inl ⟨hk, (hs1 _ t2).resolve_left hz2⟩)⟩
          refine xa_iload_n d_Ref_safe_57 rfl ?_
          refine xa_iconst (v := nI 1) d_Ref_safe_58 rfl ?_
          refine xa_iaddN d_Ref_safe_59 ?_
          refine xa_goto (tgt := 64) d_Ref_safe_60 (by decide) ?_
          refine xa_istore_n d_Ref_safe_64 rfl rfl ?_
          refine xa_goto (tgt := 91) d_Ref_safe_65 (by decide) ?_
          refine xa_iincN d_Ref_safe_91 rfl rfl rfl ?_
          refine xa_goto (tgt := 23) d_Ref_safe_94 (by decide) ?_
          refine xa_ls ?_ (w_Ref_safe h0 hn hU h9 h10 h11 h12 hs1 hs2 hal kont (p + 1) (by omega))
          exact ⟨rfl, by rw [gb_cnt_n (P := fun q => kb q = 0 ∧ gl_al n kb q) hno1]; rfl, by rw [gb_cnt_y (P := fun q => kb q = 1 ∧ gl_al n kb q) hyes]; rfl, rfl, trivial⟩
termination_by n * n - p
decreasing_by all_goals omega
theorem c_Ref_safe {sd : Nat} (hS : xR_S D h r n fs b m bd pt tb tw cd) (hZ : xZ_I n fs b m bd pt tb tw) (hsd : sd = 1 ∨ sd = 2) :
    xa_M l D H0 M_Ref_safe 5 119 0 0 [.ref r, .int (nI sd)] h sz (fun v h' sz' => v = some (.int (nI (gl_safe n (gl_k b sd)))) ∧ xR_S D h' r n fs b m bd pt tb tw 0 ∧ xR_F h h' r ∧ sz' = sz) := by
  have hn := hZ.1.1
  have hN : n * n ≤ 169 := Nat.mul_le_mul hn.2 hn.2
  obtain ⟨v, h0, e0, e3, e4, hc⟩ := hS.code
  refine xa_enter (by decide) rfl rfl ?_
  refine xa_aload_n d_Ref_safe_0 rfl ?_
  refine xa_iload_n d_Ref_safe_1 rfl ?_
  refine xa_iconst (v := nI 1) d_Ref_safe_2 rfl ?_
  refine xa_callV (As := [.int (nI sd), .int (nI 1)]) (st := []) d_Ref_safe_3 k_Ref_133 h0 (c_Ref_noSide hS (by omega)) rfl rfl (Nat.le_of_ble_eq_true rfl) ⟨by decide, by decide⟩ (by decide) (by decide) (fun v' h1 sz' hq => ?_)
  obtain ⟨e1, hS1, hF1, e2⟩ := hq
  rw [e1, e2]
  obtain ⟨v1, g0, -⟩ := hS1.code
  refine xa_if_eqN (tgt := 11) d_Ref_safe_6 (by decide) (by omega) (fun hz => ?_) (fun hz => ?_)
  ·
    refine xa_aload_n d_Ref_safe_11 rfl ?_
    refine xa_iload_n d_Ref_safe_12 rfl ?_
    refine xa_callV (As := [.int (nI sd)]) (st := []) d_Ref_safe_13 k_Ref_170 g0 (c_Ref_judge hS1 hZ hsd) rfl rfl (Nat.le_of_ble_eq_true rfl) ⟨by decide, by decide⟩ (by decide) (by decide) (fun v' h2 sz' hq => ?_)
    obtain ⟨e1, ⟨GR, RG, SG, SR, gn, rn, g, e, hU, j9, j10, j11, j12, js1, js2, hal⟩, hS2, hF2, e2⟩ := hq
    rw [e1, e2]
    obtain ⟨v2, k0, -⟩ := hS2.code
    have hc1 := gb_cnt_le (P := fun q => gl_k b sd q = 1 ∧ gl_al n (gl_k b sd) q) (n * n)
    have hsum : gb_cnt (gl_al n (gl_k b sd)) (n * n) = gb_cnt (fun q => gl_k b sd q = 1 ∧ gl_al n (gl_k b sd) q) (n * n) + gb_cnt (fun q => gl_k b sd q = 0 ∧ gl_al n (gl_k b sd) q) (n * n) := by
      rw [← gb_cnt_or (n * n) (fun q _ z => by have h1 := z.1.1; have h2 := z.2.1; omega)]
      exact gb_cnt_eq _ (fun q hq => ⟨fun z => (hU.2.2.2.2.2.2.2.2 q hq).elim (fun k => Or.inr ⟨k, z⟩) (fun k => Or.inl ⟨k, z⟩), fun z => z.elim (fun z => z.2) (fun z => z.2)⟩)
    refine xa_iconst (v := nI 0) d_Ref_safe_16 rfl ?_
    refine xa_istore_n d_Ref_safe_17 rfl rfl ?_
    refine xa_iconst (v := nI 0) d_Ref_safe_18 rfl ?_
    refine xa_istore_n d_Ref_safe_19 rfl rfl ?_
    refine xa_iconst (v := nI 0) d_Ref_safe_20 rfl ?_
    refine xa_istore d_Ref_safe_21 rfl rfl ?_
    refine xa_ls ?_ (w_Ref_safe k0 hn hU j9 j10 j11 j12 js1 js2 hal ?_ 0 (by omega))
    · exact ⟨rfl, rfl, rfl, rfl, trivial⟩
    ·
      refine xa_iload_n d_Ref_safe_97 rfl ?_
      refine xa_if_neN (tgt := 105) d_Ref_safe_98 (by decide) (by omega) (fun hz2 => ?_) (fun hz2 => ?_)
      ·
        refine xa_iload_n d_Ref_safe_105 rfl ?_
        refine xa_iload_n d_Ref_safe_106 rfl ?_
        refine xa_iaddN d_Ref_safe_107 ?_
        refine xa_ireturn d_Ref_safe_108 rfl (by decide) (by decide) ⟨?_, hS2, gr_F_tr hF1 hF2, rfl⟩
        have hex : ∃ p, p < n * n ∧ gl_k b sd p = 1 ∧ gl_al n (gl_k b sd) p := gb_cnt_ex (P := fun q => gl_k b sd q = 1 ∧ gl_al n (gl_k b sd) q) (by omega)
        unfold gl_safe
        rw [if_pos hex, hsum]
      ·
        refine xa_iconst (v := nI 0) d_Ref_safe_101 rfl ?_
        refine xa_goto (tgt := 108) d_Ref_safe_102 (by decide) ?_
        refine xa_ireturn d_Ref_safe_108 rfl (by decide) (by decide) ⟨?_, hS2, gr_F_tr hF1 hF2, rfl⟩
        have hnex : ¬ ∃ p, p < n * n ∧ gl_k b sd p = 1 ∧ gl_al n (gl_k b sd) p := fun ⟨p, hp, hk⟩ => by
          have := gb_cnt_pos (P := fun q => gl_k b sd q = 1 ∧ gl_al n (gl_k b sd) q) (x := p) hk (n * n) hp
          omega
        unfold gl_safe
        rw [if_neg hnex]
  · omega
theorem c_Ref_safeX {x : Int32} (hS : xR_S D h r n fs b m bd pt tb tw cd) (hx : x < nI 1 ∨ nI 2 < x) :
    xa_M l D H0 M_Ref_safe 5 119 0 0 [.ref r, .int x] h sz (fun v h' sz' => v = some (.int (nI 0)) ∧ xR_S D h' r n fs b m bd pt tb tw 1 ∧ xR_F h h' r ∧ sz' = sz) := by
  obtain ⟨v, h0, e0, e3, e4, hc⟩ := hS.code
  refine xa_enter (by decide) rfl rfl ?_
  refine xa_aload_n d_Ref_safe_0 rfl ?_
  refine xa_iload_n d_Ref_safe_1 rfl ?_
  refine xa_iconst (v := nI 1) d_Ref_safe_2 rfl ?_
  refine xa_callV (As := [.int x, .int (nI 1)]) (st := []) d_Ref_safe_3 k_Ref_133 h0 (c_Ref_noSideX hS hx) rfl rfl (Nat.le_of_ble_eq_true rfl) ⟨by decide, by decide⟩ (by decide) (by decide) (fun v' h' sz' hq => ?_)
  obtain ⟨e1, hS', hF, e2⟩ := hq
  rw [e1, e2]
  refine xa_if_eqN (tgt := 11) d_Ref_safe_6 (by decide) (by omega) (fun hz => ?_) (fun hz => ?_)
  · omega
  ·
    refine xa_iconst (v := nI 0) d_Ref_safe_9 rfl ?_
    exact xa_ireturn d_Ref_safe_10 rfl (by decide) (by decide) ⟨rfl, hS', hF, rfl⟩
end JE
