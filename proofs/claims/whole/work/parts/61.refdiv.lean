/-! The reference: spread, divide. -/
def xD_h (D : va_G) (h : xa_H) (r n : Nat) (v : Nat → Nat) (RG : Nat → Int32) (g : Nat) (RW : Nat → Int32) (e : Nat) : xa_H := xa_u (xa_u (xa_u h (r + 10) (.inl (D.1 100, 169, .inl RG))) (r + 8) (.inl (D.1 100, 169, .inl RW))) r (xR_o r n (xh_up (xh_up v 7 g) 5 e))
section DH
variable {D : va_G} {h : xa_H} {r n : Nat} {v : Nat → Nat} {RG RW : Nat → Int32} {g e : Nat}
theorem xD_n {q : Nat} (h1 : q ≠ r) (h2 : q ≠ r + 8) (h3 : q ≠ r + 10) : xD_h D h r n v RG g RW e q = h q := xa_u_ne (xa_u_ne (xa_u_ne rfl h3) h2) h1
theorem xD_0 : xD_h D h r n v RG g RW e r = some (xR_o r n (xh_up (xh_up v 7 g) 5 e)) := xa_u_eq _ _ _
theorem xD_8 : xD_h D h r n v RG g RW e (r + 8) = some (.inl (D.1 100, 169, .inl RW)) := xa_u_ne (xa_u_eq _ _ _) (by omega)
theorem xD_10 : xD_h D h r n v RG g RW e (r + 10) = some (.inl (D.1 100, 169, .inl RG)) := xa_u_ne (xa_u_ne (xa_u_eq _ _ _) (by omega)) (by omega)
theorem xD_u8 (X : Nat → Int32) : xa_u (xD_h D h r n v RG g RW e) (r + 8) (.inl (D.1 100, 169, .inl X)) = xD_h D h r n v RG g X e := xa_uc _ (by omega) _ _ _
theorem xD_u10 (X : Nat → Int32) : xa_u (xD_h D h r n v RG g RW e) (r + 10) (.inl (D.1 100, 169, .inl X)) = xD_h D h r n v X g RW e := by
  unfold xD_h
  rw [xa_sw _ (show r ≠ r + 10 by omega), xa_sw _ (show r + 8 ≠ r + 10 by omega), xa_uu]
theorem xD_ue (x : Nat) : xa_u (xD_h D h r n v RG g RW e) r (xR_o r n (xh_up (xh_up (xh_up v 7 g) 5 e) 5 x)) = xD_h D h r n v RG g RW x := xa_uu _ _ _ _
theorem xD_ug (x : Nat) : xa_u (xD_h D h r n v RG g RW e) r (xR_o r n (xh_up (xh_up (xh_up v 7 g) 5 e) 7 x)) = xD_h D h r n v RG x RW e := xa_uu _ _ _ _
theorem xh_up_same (v : Nat → Nat) (i : Nat) : xh_up v i (v i) = v := by
  funext j
  unfold xh_up
  split
  · rename_i hi; rw [hi]
  · rfl
theorem xD_s (h0 : h r = some (xR_o r n v)) (h8 : h (r + 8) = some (.inl (D.1 100, 169, .inl RW))) (h10 : h (r + 10) = some (.inl (D.1 100, 169, .inl RG))) : xD_h D h r n v RG (v 7) RW (v 5) = h := by
  unfold xD_h
  rw [xa_us _ h10, xa_us _ h8, xh_up_same, xh_up_same]
  exact xa_us _ h0
theorem xD_D {RG' RW' : Nat → Int32} {e' : Nat} : xD_h D (xD_h D h r n v RG g RW e) r n (xh_up (xh_up v 7 g) 5 e) RG' g RW' e' = xD_h D h r n v RG' g RW' e' := by
  funext q
  by_cases h1 : q = r
  · subst h1
    exact xD_0.trans (xD_0 (v := v) (g := g) (e := e')).symm
  · by_cases h2 : q = r + 8
    · subst h2
      exact xD_8.trans xD_8.symm
    · by_cases h3 : q = r + 10
      · subst h3
        exact xD_10.trans xD_10.symm
      · rw [xD_n h1 h2 h3, xD_n h1 h2 h3, xD_n h1 h2 h3]
theorem xR_A.dv {B SD MV TB TW : Nat → Int32} (hA : xR_A D h r n v B SD MV TB TW) : xR_A D (xD_h D h r n v RG g RW e) r n (xh_up (xh_up v 7 g) 5 e) B SD MV TB TW := by
  refine hA.scr xD_0 (fun q hq => xD_n (by omega) (by omega) (by omega)) ?_
  obtain ⟨TR, IN', RW', GR', RG', SG, SR, GO, FA, a2, a7, a8, a9, a10, a11, a12, a13, a14⟩ := hA.2.2.2.2.2.2
  refine ⟨TR, IN', RW, GR', RG, SG, SR, GO, FA, ?_, ?_, xD_8, ?_, xD_10, ?_, ?_, ?_, ?_⟩
  all_goals (rw [xD_n (by omega) (by omega) (by omega)]; assumption)
end DH
/-- the flood of spread, under way -/
def gr_I2 (n : Nat) (kb : Nat → Nat) (p g : Nat) (RG0 RG RW : Nat → Int32) (V : Nat → Prop) (rr : Nat → Nat) (e : Nat) : Prop :=
  gb_FI n (fun q => nI (kb q)) p V rr e ∧ (∀ q, q < n * n → (V q → RG q = nI g) ∧ (¬ V q → RG q = RG0 q)) ∧ ∀ j, j < e → RW j = nI (rr j)
section SP
variable {l : Launch} {D : va_G} {H0 : Heap} {h : xa_H} {sz : Nat} {R : Room} {r n : Nat} {v : Nat → Nat} {b : Nat → Nat} {sd : Nat}
theorem gl_k_0 {q : Nat} (h : b q ≠ sd) : gl_k b sd q = 0 := if_neg h
theorem gl_k_1 {q : Nat} (h : b q = sd) : gl_k b sd q = 1 := if_pos h
theorem w_spr_in {Z : xa_Z} {p i g : Nat} {B RG0 : Nat → Int32} (hR : 1 ≤ R.frames ∧ 24 ≤ R.locals) (hn : 2 ≤ n ∧ n ≤ 13) (hB : h (r + 1) = some (.inl (D.1 100, 169, .inl B))) (hBb : ∀ q, q < n * n → B q = nI (b q)) (hb : ∀ q, q < n * n → b q ≤ 2) (hsd : sd = 1 ∨ sd = 2) (hp : p < n * n) (hbp : b p ≠ sd) (hg : g < 169) (h00 : ∀ q, gb_conn n (fun q => nI (gl_k b sd q)) p q → RG0 q = -1)
    (kont : ∀ (RG RW : Nat → Int32) (V : Nat → Prop) (rr : Nat → Nat) (e : Nat), gr_I2 n (gl_k b sd) p g RG0 RG RW V rr e → gr_FC n (fun q => nI (gl_k b sd q)) V rr i 4 → i < e → e ≤ n * n → xa_X l D H0 M_Ref_spread R Z 0 0 (xD_h D h r n v RG g RW e) sz 120 [(0, .ref r), (1, .int (nI p)), (2, .int (nI sd)), (3, .int (nI i))] [])
    (w : Nat) (RG RW : Nat → Int32) (V : Nat → Prop) (rr : Nat → Nat) (e : Nat) (hw : w ≤ 4) (hI : gr_I2 n (gl_k b sd) p g RG0 RG RW V rr e) (hF : gr_FC n (fun q => nI (gl_k b sd q)) V rr i w) (hie : i < e) (heN : e ≤ n * n) :
    xa_X l D H0 M_Ref_spread R Z 0 0 (xD_h D h r n v RG g RW e) sz 35 [(0, .ref r), (1, .int (nI p)), (2, .int (nI sd)), (3, .int (nI i)), (4, .int (nI w))] [] := by
  have hN : n * n ≤ 169 := Nat.mul_le_mul hn.2 hn.2
  have q0 : xD_h D h r n v RG g RW e r = some (xR_o r n (xh_up (xh_up v 7 g) 5 e)) := xD_0
  have qb : xD_h D h r n v RG g RW e (r + 1) = some (.inl (D.1 100, 169, .inl B)) := (xD_n (by omega) (by omega) (by omega)).trans hB
  have hri : rr i < n * n := gb_conn_lt hp (hI.1.2.2.1 i hie)
  have hki : nI (gl_k b sd (rr i)) = nI (gl_k b sd p) := gb_conn_k (k := fun q => nI (gl_k b sd q)) (hI.1.2.2.1 i hie)
  rw [gl_k_0 hbp] at hki
  refine xa_iload d_Ref_spread_35 rfl ?_
  refine xa_iconst (v := nI 4) d_Ref_spread_37 rfl ?_
  refine xa_icmp_geN (tgt := 120) d_Ref_spread_38 (by decide) (by omega) (by omega) (fun hb4 => ?_) (fun hb4 => ?_)
  · have hw4 : w = 4 := by omega
    subst hw4
    refine xa_ls ?_ (kont RG RW V rr e hI hF hie heN)
    exact ⟨rfl, rfl, rfl, rfl, trivial⟩
  ·
    refine xa_aload_n d_Ref_spread_41 rfl ?_
    refine xa_aload_n d_Ref_spread_42 rfl ?_
    refine xa_getf f_Ref_38 d_Ref_spread_43 (by assumption) (by rfl) ?_
    refine xa_iload_n d_Ref_spread_46 rfl ?_
    refine xa_ialdE d_Ref_spread_47 xD_8 rfl (show i < 169 by omega) (by omega) (hI.2.2 i hie) ?_
    refine xa_iload d_Ref_spread_48 rfl ?_
    refine xa_callVr (As := [.int (nI (rr i)), .int (nI w)]) (st := []) d_Ref_spread_50 k_Ref_71 q0 (c_Ref_beside q0 hn hri hb4) rfl rfl (Nat.le_of_ble_eq_true rfl) ⟨hR.1, hR.2⟩ (by omega) (by omega) ?_
    have again : (∀ y, gb_nb n (rr i) (gr_w w) = some y → nI (gl_k b sd y) = nI (gl_k b sd (rr i)) → V y) → ∀ z : Int32, xa_X l D H0 M_Ref_spread R Z 0 0 (xD_h D h r n v RG g RW e) sz 114 [(0, .ref r), (1, .int (nI p)), (2, .int (nI sd)), (3, .int (nI i)), (4, .int (nI w)), (5, .int z)] [] := by
      intro hs z
      refine xa_iincN d_Ref_spread_114 rfl rfl rfl ?_
      refine xa_goto (tgt := 35) d_Ref_spread_117 (by decide) ?_
      refine xa_ls ?_ (w_spr_in hR hn hB hBb hb hsd hp hbp hg h00 kont (w + 1) RG RW V rr e (by omega) hI (gr_FC_skip hF hs) hie heN)
      exact ⟨rfl, rfl, rfl, rfl, rfl, trivial⟩
    cases hnb : gb_nb n (rr i) (gr_w w) with
    | none =>
      rw [hnb] at again
      refine xa_int (y := -1) rfl ?_
      refine xa_istore d_Ref_spread_53 rfl rfl ?_
      refine xa_iload d_Ref_spread_55 rfl ?_
      refine xa_if_lt (tgt := 114) d_Ref_spread_57 (by decide) (fun hz => ?_) (fun hz => ?_)
      · exact again (fun y hy => by cases hy) (-1)
      · exact absurd (by decide) hz
    | some y =>
      rw [hnb] at again
      have hy := gb_nb_lt hri (gr_w_lt w) hnb
      have hby := hb y hy
      refine xa_int (y := nI y) rfl ?_
      refine xa_istore d_Ref_spread_53 rfl rfl ?_
      refine xa_iload d_Ref_spread_55 rfl ?_
      refine xa_if_lt (tgt := 114) d_Ref_spread_57 (by decide) (fun hz => ?_) (fun hz => ?_)
      · exact absurd hz (nI_pos (by omega))
      ·
        refine xa_aload_n d_Ref_spread_60 rfl ?_
        refine xa_getf f_Ref_7 d_Ref_spread_61 (by assumption) (by rfl) ?_
        refine xa_iload d_Ref_spread_64 rfl ?_
        refine xa_ialdE d_Ref_spread_66 qb rfl (show y < 169 by omega) (by omega) (hBb y hy) ?_
        refine xa_iload_n d_Ref_spread_67 rfl ?_
        refine xa_icmp_eqN (tgt := 114) d_Ref_spread_68 (by decide) (by omega) (by omega) (fun hz2 => ?_) (fun hz2 => ?_)
        · exact again (fun y' hy' hk => by
            cases hy'
            rw [gl_k_1 hz2, hki] at hk
            exact absurd hk (by decide)) (nI y)
        · have hkk : nI (gl_k b sd y) = nI (gl_k b sd (rr i)) := by rw [gl_k_0 hz2, hki]
          have hcy : gb_conn n (fun q => nI (gl_k b sd q)) p y := gb_conn_st (hI.1.2.2.1 i hie) (gr_w_lt w) hnb hkk
          refine xa_aload_n d_Ref_spread_71 rfl ?_
          refine xa_getf f_Ref_44 d_Ref_spread_72 (by assumption) (by rfl) ?_
          refine xa_iload d_Ref_spread_75 rfl ?_
          refine xa_ialdE d_Ref_spread_77 xD_10 rfl (show y < 169 by omega) (by omega) rfl ?_
          refine xa_iconst (v := -1) d_Ref_spread_78 rfl ?_
          refine xa_icmp_ne (tgt := 114) d_Ref_spread_79 (by decide) (fun hz3 => ?_) (fun hz3 => ?_)
          · exact again (fun y' hy' hk => by
              cases hy'
              exact Classical.byContradiction fun hv => hz3 (by rw [(hI.2.1 y hy).2 hv]; exact h00 y hcy)) (nI y)
          · have hvy : ¬ V y := fun z => gb_m1 (show g < 2 ^ 31 by omega) (((hI.2.1 y hy).1 z).symm.trans hz3)
            have hroom : e < n * n := gb_fit1 (x := y) (f := rr) (fun j hj => gb_conn_lt hp (hI.1.2.2.1 j hj)) hI.1.2.2.2.1 hy (fun j hj z => hvy ((hI.1.2.2.2.2 y).mpr ⟨j, hj, z⟩))
            refine xa_aload_n d_Ref_spread_82 rfl ?_
            refine xa_getf f_Ref_44 d_Ref_spread_83 (by assumption) (by rfl) ?_
            refine xa_iload d_Ref_spread_86 rfl ?_
            refine xa_aload_n d_Ref_spread_88 rfl ?_
            refine xa_getf f_Ref_149 d_Ref_spread_89 (by assumption) (by rfl) ?_
            refine xa_int (y := nI g) rfl ?_
            refine xa_iastE d_Ref_spread_92 xD_10 rfl (show y < 169 by omega) (by omega) ?_
            refine xa_heap (xD_u10 _) ?_
            have q1 : xD_h D h r n v (upd RG y (nI g)) g RW e r = some (xR_o r n (xh_up (xh_up v 7 g) 5 e)) := xD_0
            refine xa_aload_n d_Ref_spread_93 rfl ?_
            refine xa_getf f_Ref_38 d_Ref_spread_94 (by assumption) (by rfl) ?_
            refine xa_aload_n d_Ref_spread_97 rfl ?_
            refine xa_getf f_Ref_68 d_Ref_spread_98 (by assumption) (by rfl) ?_
            refine xa_int (y := nI e) rfl ?_
            refine xa_iload d_Ref_spread_101 rfl ?_
            refine xa_iastE d_Ref_spread_103 xD_8 rfl (show e < 169 by omega) (by omega) ?_
            refine xa_heap (xD_u8 _) ?_
            have q2 : xD_h D h r n v (upd RG y (nI g)) g (upd RW e (nI y)) e r = some (xR_o r n (xh_up (xh_up v 7 g) 5 e)) := xD_0
            refine xa_aload_n d_Ref_spread_104 rfl ?_
            refine xa_dup d_Ref_spread_105 rfl ?_
            refine xa_getf f_Ref_68 d_Ref_spread_106 (by assumption) (by rfl) ?_
            refine xa_int (y := nI e) rfl ?_
            refine xa_iconst (v := nI 1) d_Ref_spread_109 rfl ?_
            refine xa_iaddN d_Ref_spread_110 ?_
            refine xa_putf f_Ref_68 d_Ref_spread_111 q2 (Nat.le_of_ble_eq_true rfl) rfl rfl ?_
            refine xa_heap (xD_ue (e + 1)) ?_
            refine xa_iincN d_Ref_spread_114 rfl rfl rfl ?_
            refine xa_goto (tgt := 35) d_Ref_spread_117 (by decide) ?_
            refine xa_ls ?_ (w_spr_in hR hn hB hBb hb hsd hp hbp hg h00 kont (w + 1) _ _ _ _ (e + 1) (by omega) ⟨gb_FI_add hI.1 hie (gr_w_lt w) hnb hkk hvy, fun q hq => ⟨fun z => ?_, fun z => ?_⟩, fun j hj => ?_⟩ (gr_FC_add hF hie hnb) (by omega) (by omega))
            · exact ⟨rfl, rfl, rfl, rfl, rfl, trivial⟩
            · by_cases hqy : q = y
              · exact if_pos hqy
              · have hu : upd RG y (nI g) q = RG q := if_neg hqy
                rw [hu]
                exact (hI.2.1 q hq).1 (z.elim (fun z => z) (fun z => absurd z hqy))
            · have hqy : q ≠ y := fun e => z (Or.inr e)
              have hu : upd RG y (nI g) q = RG q := if_neg hqy
              rw [hu]
              exact (hI.2.1 q hq).2 (fun y => z (Or.inl y))
            · by_cases hje : j = e
              · rw [if_pos hje, hje]; exact if_pos rfl
              · rw [if_neg hje]
                have hu : upd RW e (nI y) j = RW j := if_neg hje
                rw [hu]
                exact hI.2.2 j (by omega)
termination_by 4 - w
decreasing_by all_goals omega
/-- what spread leaves -/
def gr_SQ (D : va_G) (h : xa_H) (r n : Nat) (v : Nat → Nat) (kb : Nat → Nat) (p g : Nat) (RG0 : Nat → Int32) (h' : xa_H) : Prop := ∃ (RG RW : Nat → Int32) (e : Nat), (∀ q, q < n * n → (gb_conn n (fun q => nI (kb q)) p q → RG q = nI g) ∧ (¬ gb_conn n (fun q => nI (kb q)) p q → RG q = RG0 q)) ∧ h' = xD_h D h r n v RG g RW e
theorem w_spr_out {p g : Nat} {B RG0 : Nat → Int32} (hR : 1 ≤ R.frames ∧ 24 ≤ R.locals) (hn : 2 ≤ n ∧ n ≤ 13) (hB : h (r + 1) = some (.inl (D.1 100, 169, .inl B))) (hBb : ∀ q, q < n * n → B q = nI (b q)) (hb : ∀ q, q < n * n → b q ≤ 2) (hsd : sd = 1 ∨ sd = 2) (hp : p < n * n) (hbp : b p ≠ sd) (hg : g < 169) (h00 : ∀ q, gb_conn n (fun q => nI (gl_k b sd q)) p q → RG0 q = -1)
    (i : Nat) (RG RW : Nat → Int32) (V : Nat → Prop) (rr : Nat → Nat) (e : Nat) (hI : gr_I2 n (gl_k b sd) p g RG0 RG RW V rr e) (hF : gr_FC n (fun q => nI (gl_k b sd q)) V rr i 0) (hie : i ≤ e) (heN : e ≤ n * n) :
    xa_X l D H0 M_Ref_spread R (xa_Zr D H0 0 0 (fun v' h' sz' => v' = none ∧ gr_SQ D h r n v (gl_k b sd) p g RG0 h' ∧ sz' = sz)) 0 0 (xD_h D h r n v RG g RW e) sz 24 [(0, .ref r), (1, .int (nI p)), (2, .int (nI sd)), (3, .int (nI i))] [] := by
  have hN : n * n ≤ 169 := Nat.mul_le_mul hn.2 hn.2
  have q0 : xD_h D h r n v RG g RW e r = some (xR_o r n (xh_up (xh_up v 7 g) 5 e)) := xD_0
  refine xa_iload_n d_Ref_spread_24 rfl ?_
  refine xa_aload_n d_Ref_spread_25 rfl ?_
  refine xa_getf f_Ref_68 d_Ref_spread_26 (by assumption) (by rfl) ?_
  refine xa_int (y := nI e) rfl ?_
  refine xa_icmp_geN (tgt := 126) d_Ref_spread_29 (by decide) (by omega) (by omega) (fun hb4 => ?_) (fun hb4 => ?_)
  · have hie' : i = e := by omega
    subst hie'
    have hV := gb_FI_end hI.1 (gr_FC_gb hF)
    exact xa_return d_Ref_spread_126 rfl (by omega) (by omega) ⟨rfl, ⟨RG, RW, i, fun q hq => ⟨fun z => (hI.2.1 q hq).1 ((hV q).mpr z), fun z => (hI.2.1 q hq).2 (fun y => z ((hV q).mp y))⟩, rfl⟩, rfl⟩
  ·
    refine xa_iconst (v := nI 0) d_Ref_spread_32 rfl ?_
    refine xa_istore d_Ref_spread_33 rfl rfl ?_
    refine xa_ls ?_ (w_spr_in (RG0 := RG0) hR hn hB hBb hb hsd hp hbp hg h00 (fun RG' RW' V' rr' e' hI' hF' hie' heN' => ?_) 0 RG RW V rr e (by omega) hI hF hb4 heN)
    · exact ⟨rfl, rfl, rfl, rfl, rfl, trivial⟩
    ·
      refine xa_iincN d_Ref_spread_120 rfl rfl rfl ?_
      refine xa_goto (tgt := 24) d_Ref_spread_123 (by decide) ?_
      refine xa_ls ?_ (w_spr_out hR hn hB hBb hb hsd hp hbp hg h00 (i + 1) RG' RW' V' rr' e' hI' (gr_FC_next hF') (by omega) heN')
      exact ⟨rfl, rfl, rfl, rfl, trivial⟩
termination_by n * n - i
decreasing_by omega
theorem c_Ref_spread {p g : Nat} {B RG RW : Nat → Int32} (h0 : h r = some (xR_o r n v)) (hv : v 7 = g) (hB : h (r + 1) = some (.inl (D.1 100, 169, .inl B))) (h8 : h (r + 8) = some (.inl (D.1 100, 169, .inl RW))) (h10 : h (r + 10) = some (.inl (D.1 100, 169, .inl RG))) (hn : 2 ≤ n ∧ n ≤ 13) (hBb : ∀ q, q < n * n → B q = nI (b q)) (hb : ∀ q, q < n * n → b q ≤ 2) (hsd : sd = 1 ∨ sd = 2) (hp : p < n * n) (hbp : b p ≠ sd) (hg : g < 169) (h00 : ∀ q, gb_conn n (fun q => nI (gl_k b sd q)) p q → RG q = -1) :
    xa_M l D H0 M_Ref_spread 1 24 0 0 [.ref r, .int (nI p), .int (nI sd)] h sz (fun v' h' sz' => v' = none ∧ gr_SQ D h r n v (gl_k b sd) p g RG h' ∧ sz' = sz) := by
  have hN : n * n ≤ 169 := Nat.mul_le_mul hn.2 hn.2
  refine xa_enter (by decide) rfl rfl ?_
  refine xa_heap (xD_s h0 h8 h10).symm ?_
  rw [hv]
  have q0 : xD_h D h r n v RG g RW (v 5) r = some (xR_o r n (xh_up (xh_up v 7 g) 5 (v 5))) := xD_0
  refine xa_aload_n d_Ref_spread_0 rfl ?_
  refine xa_getf f_Ref_44 d_Ref_spread_1 (by assumption) (by rfl) ?_
  refine xa_iload_n d_Ref_spread_4 rfl ?_
  refine xa_aload_n d_Ref_spread_5 rfl ?_
  refine xa_getf f_Ref_149 d_Ref_spread_6 (by assumption) (by rfl) ?_
  refine xa_int (y := nI g) rfl ?_
  refine xa_iastE d_Ref_spread_9 xD_10 rfl (show p < 169 by omega) (by omega) ?_
  refine xa_heap (xD_u10 _) ?_
  have q1 : xD_h D h r n v (upd RG p (nI g)) g RW (v 5) r = some (xR_o r n (xh_up (xh_up v 7 g) 5 (v 5))) := xD_0
  refine xa_aload_n d_Ref_spread_10 rfl ?_
  refine xa_getf f_Ref_38 d_Ref_spread_11 (by assumption) (by rfl) ?_
  refine xa_iconst (v := nI 0) d_Ref_spread_14 rfl ?_
  refine xa_iload_n d_Ref_spread_15 rfl ?_
  refine xa_iastE (j := 0) d_Ref_spread_16 xD_8 rfl (by omega) (by omega) ?_
  refine xa_heap (xD_u8 _) ?_
  have q2 : xD_h D h r n v (upd RG p (nI g)) g (upd RW 0 (nI p)) (v 5) r = some (xR_o r n (xh_up (xh_up v 7 g) 5 (v 5))) := xD_0
  refine xa_aload_n d_Ref_spread_17 rfl ?_
  refine xa_iconst (v := nI 1) d_Ref_spread_18 rfl ?_
  refine xa_putf f_Ref_68 d_Ref_spread_19 q2 (Nat.le_of_ble_eq_true rfl) rfl rfl ?_
  refine xa_heap (xD_ue 1) ?_
  refine xa_iconst (v := nI 0) d_Ref_spread_22 rfl ?_
  refine xa_istore_n d_Ref_spread_23 rfl rfl ?_
  refine xa_ls ?_ (w_spr_out (RG0 := RG) ⟨by decide, by decide⟩ hn hB hBb hb hsd hp hbp hg h00 0 _ _ (fun q => q = p) (fun _ => p) 1 ⟨gb_FI_0 rfl, fun q hq => ⟨fun z => if_pos z, fun z => if_neg z⟩, fun j hj => ?_⟩ gr_FC_0 (by omega) (by omega))
  · exact ⟨rfl, rfl, rfl, rfl, trivial⟩
  · have hj0 : j = 0 := by omega
    subst hj0
    exact if_pos rfl
/-- what divide leaves -/
def gr_DQ (D : va_G) (h : xa_H) (r n : Nat) (v : Nat → Nat) (kb : Nat → Nat) (h' : xa_H) : Prop := ∃ (RG RW : Nat → Int32) (rn : Nat → Nat) (g e : Nat), gr_N n kb 0 (n * n) RG rn g ∧ h' = xD_h D h r n v RG g RW e
theorem w_div2 {B : Nat → Int32} (hR : 2 ≤ R.frames ∧ 49 ≤ R.locals) (hn : 2 ≤ n ∧ n ≤ 13) (hB : h (r + 1) = some (.inl (D.1 100, 169, .inl B))) (hBb : ∀ q, q < n * n → B q = nI (b q)) (hb : ∀ q, q < n * n → b q ≤ 2) (hsd : sd = 1 ∨ sd = 2) (p : Nat) (hp : p ≤ n * n) (RG RW : Nat → Int32) (gn : Nat → Nat) (g e : Nat) (hG : gr_N n (gl_k b sd) 0 p RG gn g) :
    xa_X l D H0 M_Ref_divide R (xa_Zr D H0 0 0 (fun v' h' sz' => v' = none ∧ gr_DQ D h r n v (gl_k b sd) h' ∧ sz' = sz)) 0 0 (xD_h D h r n v RG g RW e) sz 30 [(0, .ref r), (1, .int (nI sd)), (2, .int (nI p))] [] := by
  have hN : n * n ≤ 169 := Nat.mul_le_mul hn.2 hn.2
  have q0 : xD_h D h r n v RG g RW e r = some (xR_o r n (xh_up (xh_up v 7 g) 5 e)) := xD_0
  have qb : xD_h D h r n v RG g RW e (r + 1) = some (.inl (D.1 100, 169, .inl B)) := (xD_n (by omega) (by omega) (by omega)).trans hB
  have hgp : g ≤ p := by rw [hG.2.2.2]; exact gb_cnt_le _
  have hkb : ∀ q, q < n * n → gl_k b sd q ≤ 2 := fun q _ => by have := gl_k_le b sd q; omega
  refine xa_iload_n d_Ref_divide_30 rfl ?_
  refine xa_aload_n d_Ref_divide_31 rfl ?_
  refine xa_getf f_Ref_62 d_Ref_divide_32 (by assumption) (by rfl) ?_
  refine xa_icmp_geN (tgt := 80) d_Ref_divide_35 (by decide) (by omega) (by omega) (fun hb4 => ?_) (fun hb4 => ?_)
  · have hpe : p = n * n := by omega
    subst hpe
    exact xa_return d_Ref_divide_80 rfl (by omega) (by omega) ⟨rfl, ⟨RG, RW, gn, g, e, hG, rfl⟩, rfl⟩
  · have hbp := hb p hb4
    have skip : ∀ lsx, gl_k b sd p ≠ 0 ∨ gr_dn n (gl_k b sd) 0 p p → xa_lk lsx 0 = some (.ref r) → xa_lk lsx 1 = some (.int (nI sd)) → xa_lk lsx 2 = some (.int (nI p)) → xa_X l D H0 M_Ref_divide R (xa_Zr D H0 0 0 (fun v' h' sz' => v' = none ∧ gr_DQ D h r n v (gl_k b sd) h' ∧ sz' = sz)) 0 0 (xD_h D h r n v RG g RW e) sz 74 lsx [] := by
      intro lsx hno l0 l1 l2
      refine xa_ls (ls' := [(0, .ref r), (1, .int (nI sd)), (2, .int (nI p))]) ⟨l0, l1, l2, trivial⟩ ?_
      refine xa_iincN d_Ref_divide_74 rfl rfl rfl ?_
      refine xa_goto (tgt := 30) d_Ref_divide_77 (by decide) ?_
      refine xa_ls ?_ (w_div2 hR hn hB hBb hb hsd (p + 1) (by omega) RG RW gn g e (gr_N_skip hG hkb hb4 hno))
      exact ⟨rfl, rfl, rfl, trivial⟩
    refine xa_aload_n d_Ref_divide_38 rfl ?_
    refine xa_getf f_Ref_7 d_Ref_divide_39 (by assumption) (by rfl) ?_
    refine xa_iload_n d_Ref_divide_42 rfl ?_
    refine xa_ialdE d_Ref_divide_43 qb rfl (show p < 169 by omega) (by omega) (hBb p hb4) ?_
    refine xa_iload_n d_Ref_divide_44 rfl ?_
    refine xa_icmp_eqN (tgt := 74) d_Ref_divide_45 (by decide) (by omega) (by omega) (fun hz => ?_) (fun hz => ?_)
    · exact skip _ (Or.inl (by rw [gl_k_1 hz]; omega)) rfl rfl rfl
    ·
      refine xa_aload_n d_Ref_divide_48 rfl ?_
      refine xa_getf f_Ref_44 d_Ref_divide_49 (by assumption) (by rfl) ?_
      refine xa_iload_n d_Ref_divide_52 rfl ?_
      refine xa_ialdE d_Ref_divide_53 xD_10 rfl (show p < 169 by omega) (by omega) rfl ?_
      refine xa_iconst (v := -1) d_Ref_divide_54 rfl ?_
      refine xa_icmp_ne (tgt := 74) d_Ref_divide_55 (by decide) (fun hz2 => ?_) (fun hz2 => ?_)
      · exact skip _ (Or.inr (Classical.byContradiction fun z => hz2 ((hG.1 p hb4).2 z))) rfl rfl rfl
      · have hnd : ¬ gr_dn n (gl_k b sd) 0 p p := fun z => by
          obtain ⟨z1, z2⟩ := (hG.1 p hb4).1 z
          exact gb_m1 (by omega) (z1.symm.trans hz2)
        have hkp := gl_k_0 (sd := sd) hz
        have h00 : ∀ q, gb_conn n (fun q => nI (gl_k b sd q)) p q → RG q = -1 := fun q hc => (hG.1 q (gb_conn_lt hb4 hc)).2 (fun ⟨_, x, hx, hcx⟩ => hnd ⟨hkp, x, hx, gb_conn_tr hc hcx⟩)
        refine xa_aload_n d_Ref_divide_58 rfl ?_
        refine xa_iload_n d_Ref_divide_59 rfl ?_
        refine xa_iload_n d_Ref_divide_60 rfl ?_
        refine xa_callV (As := [.int (nI p), .int (nI sd)]) (st := []) d_Ref_divide_61 k_Ref_152 q0 (c_Ref_spread (g := g) q0 rfl qb xD_8 xD_10 hn hBb hb hsd hb4 hz (by omega) h00) rfl rfl (Nat.le_of_ble_eq_true rfl) ⟨hR.1, hR.2⟩ (by omega) (by omega) (fun v' h' sz' hq => ?_)
        obtain ⟨e1, ⟨RG', RW', e', hG', e2⟩, e3⟩ := hq
        rw [e1, e2, e3, xD_D]
        obtain ⟨gn', hN'⟩ := gr_N_add (GR' := RG') hG hkb hb4 hkp hnd hG'
        have q1 : xD_h D h r n v RG' g RW' e' r = some (xR_o r n (xh_up (xh_up v 7 g) 5 e')) := xD_0
        refine xa_aload_n d_Ref_divide_64 rfl ?_
        refine xa_dup d_Ref_divide_65 rfl ?_
        refine xa_getf f_Ref_149 d_Ref_divide_66 (by assumption) (by rfl) ?_
        refine xa_int (y := nI g) rfl ?_
        refine xa_iconst (v := nI 1) d_Ref_divide_69 rfl ?_
        refine xa_iaddN d_Ref_divide_70 ?_
        refine xa_putf f_Ref_149 d_Ref_divide_71 q1 (Nat.le_of_ble_eq_true rfl) rfl rfl ?_
        refine xa_heap (xD_ug (g + 1)) ?_
        refine xa_iincN d_Ref_divide_74 rfl rfl rfl ?_
        refine xa_goto (tgt := 30) d_Ref_divide_77 (by decide) ?_
        refine xa_ls ?_ (w_div2 hR hn hB hBb hb hsd (p + 1) (by omega) RG' RW' gn' (g + 1) e' hN')
        exact ⟨rfl, rfl, rfl, trivial⟩
termination_by n * n - p
decreasing_by all_goals omega
theorem w_div1 {e : Nat} {B RW : Nat → Int32} (hR : 2 ≤ R.frames ∧ 49 ≤ R.locals) (hn : 2 ≤ n ∧ n ≤ 13) (hB : h (r + 1) = some (.inl (D.1 100, 169, .inl B))) (hBb : ∀ q, q < n * n → B q = nI (b q)) (hb : ∀ q, q < n * n → b q ≤ 2) (hsd : sd = 1 ∨ sd = 2) (p : Nat) (hp : p ≤ n * n) (RG : Nat → Int32) (hG : ∀ q, q < p → RG q = -1) :
    xa_X l D H0 M_Ref_divide R (xa_Zr D H0 0 0 (fun v' h' sz' => v' = none ∧ gr_DQ D h r n v (gl_k b sd) h' ∧ sz' = sz)) 0 0 (xD_h D h r n v RG 0 RW e) sz 7 [(0, .ref r), (1, .int (nI sd)), (2, .int (nI p))] [] := by
  have hN : n * n ≤ 169 := Nat.mul_le_mul hn.2 hn.2
  have q0 : xD_h D h r n v RG 0 RW e r = some (xR_o r n (xh_up (xh_up v 7 0) 5 e)) := xD_0
  refine xa_iload_n d_Ref_divide_7 rfl ?_
  refine xa_aload_n d_Ref_divide_8 rfl ?_
  refine xa_getf f_Ref_62 d_Ref_divide_9 (by assumption) (by rfl) ?_
  refine xa_icmp_geN (tgt := 28) d_Ref_divide_12 (by decide) (by omega) (by omega) (fun hb4 => ?_) (fun hb4 => ?_)
  · have hpe : p = n * n := by omega
    subst hpe
    refine xa_iconst (v := nI 0) d_Ref_divide_28 rfl ?_
    refine xa_istore_n d_Ref_divide_29 rfl rfl ?_
    refine xa_ls ?_ (w_div2 hR hn hB hBb hb hsd 0 (by omega) RG RW _ 0 e (gr_N_0 hG))
    exact ⟨rfl, rfl, rfl, trivial⟩
  ·
    refine xa_aload_n d_Ref_divide_15 rfl ?_
    refine xa_getf f_Ref_44 d_Ref_divide_16 (by assumption) (by rfl) ?_
    refine xa_iload_n d_Ref_divide_19 rfl ?_
    refine xa_iconst (v := -1) d_Ref_divide_20 rfl ?_
    refine xa_iastE d_Ref_divide_21 xD_10 rfl (show p < 169 by omega) (by omega) ?_
    refine xa_heap (xD_u10 _) ?_
    refine xa_iincN d_Ref_divide_22 rfl rfl rfl ?_
    refine xa_goto (tgt := 7) d_Ref_divide_25 (by decide) ?_
    refine xa_ls ?_ (w_div1 hR hn hB hBb hb hsd (p + 1) (by omega) _ (fun q hq => ?_))
    · exact ⟨rfl, rfl, rfl, trivial⟩
    · by_cases he : q = p
      · rw [he]; exact if_pos rfl
      · have hu : upd RG p (-1) q = RG q := if_neg he
        rw [hu]
        exact hG q (by omega)
termination_by n * n - p
decreasing_by omega
theorem c_Ref_divide {B RW RG : Nat → Int32} (h0 : h r = some (xR_o r n v)) (hB : h (r + 1) = some (.inl (D.1 100, 169, .inl B))) (h8 : h (r + 8) = some (.inl (D.1 100, 169, .inl RW))) (h10 : h (r + 10) = some (.inl (D.1 100, 169, .inl RG))) (hn : 2 ≤ n ∧ n ≤ 13) (hBb : ∀ q, q < n * n → B q = nI (b q)) (hb : ∀ q, q < n * n → b q ≤ 2) (hsd : sd = 1 ∨ sd = 2) :
    xa_M l D H0 M_Ref_divide 2 49 0 0 [.ref r, .int (nI sd)] h sz (fun v' h' sz' => v' = none ∧ gr_DQ D h r n v (gl_k b sd) h' ∧ sz' = sz) := by
  refine xa_enter (by decide) rfl rfl ?_
  refine xa_heap (xD_s h0 h8 h10).symm ?_
  have q0 : xD_h D h r n v RG (v 7) RW (v 5) r = some (xR_o r n (xh_up (xh_up v 7 (v 7)) 5 (v 5))) := xD_0
  refine xa_aload_n d_Ref_divide_0 rfl ?_
  refine xa_iconst (v := nI 0) d_Ref_divide_1 rfl ?_
  refine xa_putf f_Ref_149 d_Ref_divide_2 q0 (Nat.le_of_ble_eq_true rfl) rfl rfl ?_
  refine xa_heap (xD_ug 0) ?_
  refine xa_iconst (v := nI 0) d_Ref_divide_5 rfl ?_
  refine xa_istore_n d_Ref_divide_6 rfl rfl ?_
  refine xa_ls ?_ (w_div1 ⟨by decide, by decide⟩ hn hB hBb hb hsd 0 (by omega) RG (fun q hq => absurd hq (Nat.not_lt_zero _)))
  exact ⟨rfl, rfl, rfl, trivial⟩
end SP
