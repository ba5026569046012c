/-! The reference: beside, gather. -/
abbrev xR_o (r n : Nat) (v : Nat → Nat) : va_E := .inr (8, [.int (nI (v 0)), .int (nI n), .int (nI (n * n)), .ref (r + 1), .ref (r + 2), .int (nI (v 1)), .int (nI (v 2)), .ref (r + 3), .ref (r + 4), .ref (r + 5), .ref (r + 6), .int (nI (v 3)), .int (nI (v 4)), .ref (r + 7), .ref (r + 8), .int (nI (v 5)), .ref (r + 9), .ref (r + 10), .ref (r + 11), .ref (r + 12), .int (nI (v 6)), .int (nI (v 7)), .ref (r + 13), .ref (r + 14)])
def xG_h (D : va_G) (h : xa_H) (r n : Nat) (v : Nat → Nat) (IN RW : Nat → Int32) (e : Nat) : xa_H := xa_u (xa_u (xa_u h (r + 7) (.inl (D.1 102, 169, .inl IN))) (r + 8) (.inl (D.1 100, 169, .inl RW))) r (xR_o r n (xh_up v 5 e))
section GH
variable {D : va_G} {h : xa_H} {r n : Nat} {v : Nat → Nat} {IN RW : Nat → Int32} {e : Nat}
theorem xG_n {q : Nat} (h1 : q ≠ r) (h2 : q ≠ r + 7) (h3 : q ≠ r + 8) : xG_h D h r n v IN RW e q = h q := xa_u_ne (xa_u_ne (xa_u_ne rfl h2) h3) h1
theorem xG_0 : xG_h D h r n v IN RW e r = some (xR_o r n (xh_up v 5 e)) := xa_u_eq _ _ _
theorem xG_7 : xG_h D h r n v IN RW e (r + 7) = some (.inl (D.1 102, 169, .inl IN)) := xa_u_ne (xa_u_ne (xa_u_eq _ _ _) (by omega)) (by omega)
theorem xG_8 : xG_h D h r n v IN RW e (r + 8) = some (.inl (D.1 100, 169, .inl RW)) := xa_u_ne (xa_u_eq _ _ _) (by omega)
theorem xG_u0 (e' : Nat) : xa_u (xG_h D h r n v IN RW e) r (xR_o r n (xh_up v 5 e')) = xG_h D h r n v IN RW e' := xa_uu _ _ _ _
theorem xG_u7 (X : Nat → Int32) : xa_u (xG_h D h r n v IN RW e) (r + 7) (.inl (D.1 102, 169, .inl X)) = xG_h D h r n v X RW e := by
  unfold xG_h
  rw [xa_sw _ (show r ≠ r + 7 by omega), xa_uc _ (show r + 7 ≠ r + 8 by omega)]
theorem xG_u8 (X : Nat → Int32) : xa_u (xG_h D h r n v IN RW e) (r + 8) (.inl (D.1 100, 169, .inl X)) = xG_h D h r n v IN X e := xa_uc _ (by omega) _ _ _
theorem xG_s (h0 : h r = some (xR_o r n v)) (h7 : h (r + 7) = some (.inl (D.1 102, 169, .inl IN))) (h8 : h (r + 8) = some (.inl (D.1 100, 169, .inl RW))) : xG_h D h r n v IN RW (v 5) = h := by
  unfold xG_h
  rw [xa_us _ h7, xa_us _ h8]
  have e : xR_o r n (xh_up v 5 (v 5)) = xR_o r n v := by
    have hv : xh_up v 5 (v 5) = v := by
      funext i
      unfold xh_up
      split
      · rename_i hi; rw [hi]
      · rfl
    rw [hv]
  rw [e]
  exact xa_us _ h0
end GH
/-- what a gathering leaves -/
def gr_G (n : Nat) (K : Nat → Int32) (p : Nat) (IN RW : Nat → Int32) (rr : Nat → Nat) (e : Nat) : Prop :=
  (∀ q, q < n * n → (IN q = 1 ↔ gb_conn n K p q)) ∧ (∀ q, q < n * n → IN q = 0 ∨ IN q = 1) ∧ (∀ j, j < e → RW j = nI (rr j) ∧ rr j < n * n) ∧ (∀ q, gb_conn n K p q ↔ ∃ j, j < e ∧ rr j = q) ∧ (∀ i j, i < e → j < e → rr i = rr j → i = j) ∧ e = gb_cnt (gb_conn n K p) (n * n)
section GA
variable {l : Launch} {D : va_G} {H0 : Heap} {h : xa_H} {sz : Nat} {R : Room} {r n : Nat} {v : Nat → Nat}
theorem c_Ref_beside {p w : Nat} (h0 : h r = some (xR_o r n v)) (hn : 2 ≤ n ∧ n ≤ 13) (hp : p < n * n) (hw : w < 4) :
    xa_M l D H0 M_Ref_beside 0 0 0 0 [.ref r, .int (nI p), .int (nI w)] h sz (fun v h' sz' => v = some (.int (gb_oi (gb_nb n p (gr_w w)))) ∧ h' = h ∧ sz' = sz) := by
  have hN : n * n ≤ 169 := Nat.mul_le_mul hn.2 hn.2
  obtain ⟨rr, c, hr, hc, hpe, d1, d2⟩ := gb_rc hp
  have hnr : 0 < rr → n ≤ n * rr := fun h0 => Nat.le_mul_of_pos_right n h0
  refine xa_enter (by decide) rfl rfl ?_
  refine xa_iload_n d_Ref_beside_0 rfl ?_
  refine xa_aload_n d_Ref_beside_1 rfl ?_
  refine xa_getf f_Ref_59 d_Ref_beside_2 (by assumption) (by rfl) ?_
  refine xa_idivN d_Ref_beside_5 (by omega) (by omega) (by omega) ?_
  refine xa_istore_n d_Ref_beside_6 rfl rfl ?_
  refine xa_iload_n d_Ref_beside_7 rfl ?_
  refine xa_aload_n d_Ref_beside_8 rfl ?_
  refine xa_getf f_Ref_59 d_Ref_beside_9 (by assumption) (by rfl) ?_
  refine xa_iremN d_Ref_beside_12 (by omega) (by omega) (by omega) ?_
  rw [d1, d2]
  refine xa_istore d_Ref_beside_13 rfl rfl ?_
  refine xa_iload_n d_Ref_beside_15 rfl ?_
  rcases (show w = 0 ∨ w = 1 ∨ w = 2 ∨ w = 3 by omega) with e | e | e | e <;> subst e
  · refine xa_tableIn (off := 28) (tgt := 44) d_Ref_beside_16 (by decide) (by decide) (by decide) (by decide) ?_
    have e0 : gb_nb n p (gr_w 0) = if 0 < rr then some (p - n) else none := by unfold gb_nb; rw [d1]; rfl
    rw [e0]
    refine xa_iload_n d_Ref_beside_44 rfl ?_
    refine xa_if_leN (tgt := 57) d_Ref_beside_45 (by decide) (by omega) (fun hz => ?_) (fun hz => ?_)
    ·
      refine xa_iconst (v := -1) d_Ref_beside_57 rfl ?_
      exact xa_ireturn d_Ref_beside_58 rfl (by decide) (by decide) ⟨by rw [if_neg (by omega)]; rfl, rfl, rfl⟩
    · have := hnr hz
      refine xa_iload_n d_Ref_beside_48 rfl ?_
      refine xa_aload_n d_Ref_beside_49 rfl ?_
      refine xa_getf f_Ref_59 d_Ref_beside_50 (by assumption) (by rfl) ?_
      refine xa_isubN d_Ref_beside_53 (by omega) ?_
      refine xa_goto (tgt := 58) d_Ref_beside_54 (by decide) ?_
      exact xa_ireturn d_Ref_beside_58 rfl (by decide) (by decide) ⟨by rw [if_pos hz]; rfl, rfl, rfl⟩
  · refine xa_tableIn (off := 43) (tgt := 59) d_Ref_beside_16 (by decide) (by decide) (by decide) (by decide) ?_
    have e0 : gb_nb n p (gr_w 1) = if rr < n - 1 then some (p + n) else none := by unfold gb_nb; rw [d1]; rfl
    rw [e0]
    refine xa_iload_n d_Ref_beside_59 rfl ?_
    refine xa_aload_n d_Ref_beside_60 rfl ?_
    refine xa_getf f_Ref_59 d_Ref_beside_61 (by assumption) (by rfl) ?_
    refine xa_iconst (v := nI 1) d_Ref_beside_64 rfl ?_
    refine xa_isubN d_Ref_beside_65 (by omega) ?_
    refine xa_icmp_geN (tgt := 78) d_Ref_beside_66 (by decide) (by omega) (by omega) (fun hz => ?_) (fun hz => ?_)
    ·
      refine xa_iconst (v := -1) d_Ref_beside_78 rfl ?_
      exact xa_ireturn d_Ref_beside_79 rfl (by decide) (by decide) ⟨by rw [if_neg (by omega)]; rfl, rfl, rfl⟩
    ·
      refine xa_iload_n d_Ref_beside_69 rfl ?_
      refine xa_aload_n d_Ref_beside_70 rfl ?_
      refine xa_getf f_Ref_59 d_Ref_beside_71 (by assumption) (by rfl) ?_
      refine xa_iaddN d_Ref_beside_74 ?_
      refine xa_goto (tgt := 79) d_Ref_beside_75 (by decide) ?_
      exact xa_ireturn d_Ref_beside_79 rfl (by decide) (by decide) ⟨by rw [if_pos hz]; rfl, rfl, rfl⟩
  · refine xa_tableIn (off := 64) (tgt := 80) d_Ref_beside_16 (by decide) (by decide) (by decide) (by decide) ?_
    have e0 : gb_nb n p (gr_w 2) = if 0 < c then some (p - 1) else none := by unfold gb_nb; rw [d2]; rfl
    rw [e0]
    refine xa_iload d_Ref_beside_80 rfl ?_
    refine xa_if_leN (tgt := 91) d_Ref_beside_82 (by decide) (by omega) (fun hz => ?_) (fun hz => ?_)
    ·
      refine xa_iconst (v := -1) d_Ref_beside_91 rfl ?_
      exact xa_ireturn d_Ref_beside_92 rfl (by decide) (by decide) ⟨by rw [if_neg (by omega)]; rfl, rfl, rfl⟩
    ·
      refine xa_iload_n d_Ref_beside_85 rfl ?_
      refine xa_iconst (v := nI 1) d_Ref_beside_86 rfl ?_
      refine xa_isubN d_Ref_beside_87 (by omega) ?_
      refine xa_goto (tgt := 92) d_Ref_beside_88 (by decide) ?_
      exact xa_ireturn d_Ref_beside_92 rfl (by decide) (by decide) ⟨by rw [if_pos hz]; rfl, rfl, rfl⟩
  · refine xa_tableOut (tgt := 93) d_Ref_beside_16 (Or.inr (by decide)) (by decide) ?_
    have e0 : gb_nb n p (gr_w 3) = if c < n - 1 then some (p + 1) else none := by unfold gb_nb; rw [d2]; rfl
    rw [e0]
    refine xa_iload d_Ref_beside_93 rfl ?_
    refine xa_aload_n d_Ref_beside_95 rfl ?_
    refine xa_getf f_Ref_59 d_Ref_beside_96 (by assumption) (by rfl) ?_
    refine xa_iconst (v := nI 1) d_Ref_beside_99 rfl ?_
    refine xa_isubN d_Ref_beside_100 (by omega) ?_
    refine xa_icmp_geN (tgt := 110) d_Ref_beside_101 (by decide) (by omega) (by omega) (fun hz => ?_) (fun hz => ?_)
    ·
      refine xa_iconst (v := -1) d_Ref_beside_110 rfl ?_
      exact xa_ireturn d_Ref_beside_111 rfl (by decide) (by decide) ⟨by rw [if_neg (by omega)]; rfl, rfl, rfl⟩
    ·
      refine xa_iload_n d_Ref_beside_104 rfl ?_
      refine xa_iconst (v := nI 1) d_Ref_beside_105 rfl ?_
      refine xa_iaddN d_Ref_beside_106 ?_
      refine xa_goto (tgt := 111) d_Ref_beside_107 (by decide) ?_
      exact xa_ireturn d_Ref_beside_111 rfl (by decide) (by decide) ⟨by rw [if_pos hz]; rfl, rfl, rfl⟩
/-- the flood under way -/
def gr_I (n : Nat) (b : Nat → Nat) (p : Nat) (IN RW : Nat → Int32) (V : Nat → Prop) (rr : Nat → Nat) (e : Nat) : Prop :=
  gb_FI n (fun q => nI (b q)) p V rr e ∧ (∀ q, q < n * n → (IN q = 1 ↔ V q)) ∧ (∀ q, q < n * n → IN q = 0 ∨ IN q = 1) ∧ ∀ j, j < e → RW j = nI (rr j)
theorem w_gather_in {Z : xa_Z} {p ab i : Nat} {b : Nat → Nat} {B : Nat → Int32} (hR : 1 ≤ R.frames ∧ 24 ≤ R.locals) (hn : 2 ≤ n ∧ n ≤ 13) (hab : ab = r + 1 ∨ ab = r + 2) (hB : h ab = some (.inl (D.1 100, 169, .inl B))) (hBb : ∀ q, q < n * n → B q = nI (b q)) (hp : p < n * n)
    (kont : ∀ (IN RW : Nat → Int32) (V : Nat → Prop) (rr : Nat → Nat) (e : Nat), gr_I n b p IN RW V rr e → gr_FC n (fun q => nI (b q)) V rr i 4 → i < e → e ≤ n * n → xa_X l D H0 M_Ref_gather R Z 0 0 (xG_h D h r n v IN RW e) sz 135 [(0, .ref r), (1, .ref ab), (2, .int (nI p)), (3, .int (nI i))] [])
    (w : Nat) (IN RW : Nat → Int32) (V : Nat → Prop) (rr : Nat → Nat) (e : Nat) (hw : w ≤ 4) (hI : gr_I n b p IN RW V rr e) (hF : gr_FC n (fun q => nI (b q)) V rr i w) (hie : i < e) (heN : e ≤ n * n) :
    xa_X l D H0 M_Ref_gather R Z 0 0 (xG_h D h r n v IN RW e) sz 55 [(0, .ref r), (1, .ref ab), (2, .int (nI p)), (3, .int (nI i)), (4, .int (nI w))] [] := by
  have hN : n * n ≤ 169 := Nat.mul_le_mul hn.2 hn.2
  have q0 : xG_h D h r n v IN RW e r = some (xR_o r n (xh_up v 5 e)) := xG_0
  have qb : xG_h D h r n v IN RW e ab = some (.inl (D.1 100, 169, .inl B)) := (xG_n (by omega) (by omega) (by omega)).trans hB
  have hri : rr i < n * n := gb_conn_lt hp (hI.1.2.2.1 i hie)
  have hki : nI (b (rr i)) = nI (b p) := gb_conn_k (k := fun q => nI (b q)) (hI.1.2.2.1 i hie)
  refine xa_iload d_Ref_gather_55 rfl ?_
  refine xa_iconst (v := nI 4) d_Ref_gather_57 rfl ?_
  refine xa_icmp_geN (tgt := 135) d_Ref_gather_58 (by decide) (by omega) (by omega) (fun hb4 => ?_) (fun hb4 => ?_)
  · have hw4 : w = 4 := by omega
    subst hw4
    refine xa_ls ?_ (kont IN RW V rr e hI hF hie heN)
    exact ⟨rfl, rfl, rfl, rfl, trivial⟩
  ·
    refine xa_aload_n d_Ref_gather_61 rfl ?_
    refine xa_aload_n d_Ref_gather_62 rfl ?_
    refine xa_getf f_Ref_38 d_Ref_gather_63 (by assumption) (by rfl) ?_
    refine xa_iload_n d_Ref_gather_66 rfl ?_
    refine xa_ialdE d_Ref_gather_67 xG_8 rfl (by omega) (by omega) (hI.2.2.2 i hie) ?_
    refine xa_iload d_Ref_gather_68 rfl ?_
    refine xa_callVr (As := [.int (nI (rr i)), .int (nI w)]) (st := []) d_Ref_gather_70 k_Ref_71 q0 (c_Ref_beside q0 hn hri hb4) rfl rfl (Nat.le_of_ble_eq_true rfl) ⟨hR.1, hR.2⟩ (by omega) (by omega) ?_
    have again : (∀ y, gb_nb n (rr i) (gr_w w) = some y → nI (b y) = nI (b (rr i)) → V y) → ∀ z : Int32, xa_X l D H0 M_Ref_gather R Z 0 0 (xG_h D h r n v IN RW e) sz 129 [(0, .ref r), (1, .ref ab), (2, .int (nI p)), (3, .int (nI i)), (4, .int (nI w)), (5, .int z)] [] := by
      intro hs z
      refine xa_iincN d_Ref_gather_129 rfl rfl rfl ?_
      refine xa_goto (tgt := 55) d_Ref_gather_132 (by decide) ?_
      refine xa_ls ?_ (w_gather_in hR hn hab hB hBb hp kont (w + 1) IN RW V rr e (by omega) hI (gr_FC_skip hF hs) hie heN)
      exact ⟨rfl, rfl, rfl, rfl, rfl, trivial⟩
    cases hnb : gb_nb n (rr i) (gr_w w) with
    | none =>
      rw [hnb] at again
      refine xa_int (y := -1) rfl ?_
      refine xa_istore d_Ref_gather_73 rfl rfl ?_
      refine xa_iload d_Ref_gather_75 rfl ?_
      refine xa_if_lt (tgt := 129) d_Ref_gather_77 (by decide) (fun hz => ?_) (fun hz => ?_)
      · exact again (fun y hy => by cases hy) (-1)
      · exact absurd (by decide) hz
    | some y =>
      rw [hnb] at again
      have hy := gb_nb_lt hri (gr_w_lt w) hnb
      refine xa_int (y := nI y) rfl ?_
      refine xa_istore d_Ref_gather_73 rfl rfl ?_
      refine xa_iload d_Ref_gather_75 rfl ?_
      refine xa_if_lt (tgt := 129) d_Ref_gather_77 (by decide) (fun hz => ?_) (fun hz => ?_)
      · exact absurd hz (nI_pos (by omega))
      ·
        refine xa_aload_n d_Ref_gather_80 rfl ?_
        refine xa_getf f_Ref_34 d_Ref_gather_81 (by assumption) (by rfl) ?_
        refine xa_iload d_Ref_gather_84 rfl ?_
        refine xa_zaldE d_Ref_gather_86 xG_7 rfl (show y < 169 by omega) (by omega) rfl ?_
        refine xa_if_ne (tgt := 129) d_Ref_gather_87 (by decide) (fun hz2 => ?_) (fun hz2 => ?_)
        · exact again (fun y' hy' hk => by cases hy'; exact (hI.2.1 y hy).mp ((hI.2.2.1 y hy).resolve_left hz2)) (nI y)
        ·
          refine xa_aload_n d_Ref_gather_90 rfl ?_
          refine xa_iload d_Ref_gather_91 rfl ?_
          refine xa_ialdE d_Ref_gather_93 qb rfl (show y < 169 by omega) (by omega) (hBb y hy) ?_
          refine xa_aload_n d_Ref_gather_94 rfl ?_
          refine xa_iload_n d_Ref_gather_95 rfl ?_
          refine xa_ialdE d_Ref_gather_96 qb rfl (show p < 169 by omega) (by omega) (hBb p hp) ?_
          refine xa_icmp_ne (tgt := 129) d_Ref_gather_97 (by decide) (fun hz3 => ?_) (fun hz3 => ?_)
          · exact again (fun y' hy' hk => by cases hy'; exact absurd (hk.trans hki) hz3) (nI y)
          · have hvy : ¬ V y := fun z => by
              have := (hI.2.1 y hy).mpr z
              rw [hz2] at this
              exact absurd this (by decide)
            have hkk : (fun q => nI (b q)) y = (fun q => nI (b q)) (rr i) := hz3.trans hki.symm
            have hroom : e < n * n := gb_fit1 (x := y) (f := rr) (fun j hj => gb_conn_lt hp (hI.1.2.2.1 j hj)) hI.1.2.2.2.1 hy (fun j hj z => hvy ((hI.1.2.2.2.2 y).mpr ⟨j, hj, z⟩))
            refine xa_aload_n d_Ref_gather_100 rfl ?_
            refine xa_getf f_Ref_34 d_Ref_gather_101 (by assumption) (by rfl) ?_
            refine xa_iload d_Ref_gather_104 rfl ?_
            refine xa_iconst (v := nI 1) d_Ref_gather_106 rfl ?_
            refine xa_zast d_Ref_gather_107 xG_7 (show y < 169 by omega) rfl (by omega) ?_
            refine xa_heap (xG_u7 _) ?_
            have q1 : xG_h D h r n v (upd IN y (vp_nar .boolean (nI 1))) RW e r = some (xR_o r n (xh_up v 5 e)) := xG_0
            refine xa_aload_n d_Ref_gather_108 rfl ?_
            refine xa_getf f_Ref_38 d_Ref_gather_109 (by assumption) (by rfl) ?_
            refine xa_aload_n d_Ref_gather_112 rfl ?_
            refine xa_getf f_Ref_68 d_Ref_gather_113 (by assumption) (by rfl) ?_
            refine xa_int (y := nI e) rfl ?_
            refine xa_iload d_Ref_gather_116 rfl ?_
            refine xa_iastE d_Ref_gather_118 xG_8 rfl (show e < 169 by omega) (by omega) ?_
            refine xa_heap (xG_u8 _) ?_
            have q2 : xG_h D h r n v (upd IN y (vp_nar .boolean (nI 1))) (upd RW e (nI y)) e r = some (xR_o r n (xh_up v 5 e)) := xG_0
            refine xa_aload_n d_Ref_gather_119 rfl ?_
            refine xa_dup d_Ref_gather_120 rfl ?_
            refine xa_getf f_Ref_68 d_Ref_gather_121 (by assumption) (by rfl) ?_
            refine xa_int (y := nI e) rfl ?_
            refine xa_iconst (v := nI 1) d_Ref_gather_124 rfl ?_
            refine xa_iaddN d_Ref_gather_125 ?_
            refine xa_putf f_Ref_68 d_Ref_gather_126 q2 (Nat.le_of_ble_eq_true rfl) rfl rfl ?_
            refine xa_heap (xG_u0 (e + 1)) ?_
            refine xa_iincN d_Ref_gather_129 rfl rfl rfl ?_
            refine xa_goto (tgt := 55) d_Ref_gather_132 (by decide) ?_
            refine xa_ls ?_ (w_gather_in hR hn hab hB hBb hp kont (w + 1) _ _ _ _ (e + 1) (by omega) ⟨gb_FI_add hI.1 hie (gr_w_lt w) hnb hkk hvy, fun q hq => ?_, fun q hq => ?_, fun j hj => ?_⟩ (gr_FC_add hF hie hnb) (by omega) (by omega))
            · exact ⟨rfl, rfl, rfl, rfl, rfl, trivial⟩
            · by_cases hqy : q = y
              · rw [hqy]
                exact ⟨fun _ => Or.inr rfl, fun _ => if_pos rfl⟩
              · have hu : upd IN y (vp_nar .boolean (nI 1)) q = IN q := if_neg hqy
                rw [hu]
                exact ⟨fun z => Or.inl ((hI.2.1 q hq).mp z), fun z => z.elim (fun z => (hI.2.1 q hq).mpr z) (fun z => absurd z hqy)⟩
            · by_cases hqy : q = y
              · rw [hqy]; exact Or.inr (if_pos rfl)
              · have hu : upd IN y (vp_nar .boolean (nI 1)) q = IN q := if_neg hqy
                rw [hu]
                exact hI.2.2.1 q hq
            · by_cases hje : j = e
              · rw [if_pos hje, hje]; exact if_pos rfl
              · rw [if_neg hje]
                have hu : upd RW e (nI y) j = RW j := if_neg hje
                rw [hu]
                exact hI.2.2.2 j (by omega)
termination_by 4 - w
decreasing_by all_goals omega
theorem w_gather_out {p ab : Nat} {b : Nat → Nat} {B : Nat → Int32} (hR : 1 ≤ R.frames ∧ 24 ≤ R.locals) (hn : 2 ≤ n ∧ n ≤ 13) (hab : ab = r + 1 ∨ ab = r + 2) (hB : h ab = some (.inl (D.1 100, 169, .inl B))) (hBb : ∀ q, q < n * n → B q = nI (b q)) (hp : p < n * n)
    (i : Nat) (IN RW : Nat → Int32) (V : Nat → Prop) (rr : Nat → Nat) (e : Nat) (hI : gr_I n b p IN RW V rr e) (hF : gr_FC n (fun q => nI (b q)) V rr i 0) (hie : i ≤ e) (heN : e ≤ n * n) :
    xa_X l D H0 M_Ref_gather R (xa_Zr D H0 0 0 (fun v' h' sz' => ∃ (IN RW : Nat → Int32) (rr : Nat → Nat) (e : Nat), gr_G n (fun q => nI (b q)) p IN RW rr e ∧ v' = none ∧ h' = xG_h D h r n v IN RW e ∧ sz' = sz)) 0 0 (xG_h D h r n v IN RW e) sz 44 [(0, .ref r), (1, .ref ab), (2, .int (nI p)), (3, .int (nI i))] [] := by
  have hN : n * n ≤ 169 := Nat.mul_le_mul hn.2 hn.2
  have q0 : xG_h D h r n v IN RW e r = some (xR_o r n (xh_up v 5 e)) := xG_0
  refine xa_iload_n d_Ref_gather_44 rfl ?_
  refine xa_aload_n d_Ref_gather_45 rfl ?_
  refine xa_getf f_Ref_68 d_Ref_gather_46 (by assumption) (by rfl) ?_
  refine xa_int (y := nI e) rfl ?_
  refine xa_icmp_geN (tgt := 141) d_Ref_gather_49 (by decide) (by omega) (by omega) (fun hb => ?_) (fun hb => ?_)
  · have hie' : i = e := by omega
    subst hie'
    have hV := gb_FI_end hI.1 (gr_FC_gb hF)
    refine xa_return d_Ref_gather_141 rfl (by omega) (by omega) ⟨IN, RW, rr, i, ⟨fun q hq => (hI.2.1 q hq).trans (hV q), hI.2.2.1, fun j hj => ⟨hI.2.2.2 j hj, gb_conn_lt hp (hI.1.2.2.1 j hj)⟩, fun q => (hV q).symm.trans (hI.1.2.2.2.2 q), hI.1.2.2.2.1, (gb_FI_len hp hI.1 (gr_FC_gb hF)).symm⟩, rfl, rfl, rfl⟩
  ·
    refine xa_iconst (v := nI 0) d_Ref_gather_52 rfl ?_
    refine xa_istore d_Ref_gather_53 rfl rfl ?_
    refine xa_ls ?_ (w_gather_in hR hn hab hB hBb hp (fun IN' RW' V' rr' e' hI' hF' hie' heN' => ?_) 0 IN RW V rr e (by omega) hI hF hb heN)
    · exact ⟨rfl, rfl, rfl, rfl, rfl, trivial⟩
    ·
      refine xa_iincN d_Ref_gather_135 rfl rfl rfl ?_
      refine xa_goto (tgt := 44) d_Ref_gather_138 (by decide) ?_
      refine xa_ls ?_ (w_gather_out hR hn hab hB hBb hp (i + 1) IN' RW' V' rr' e' hI' (gr_FC_next hF') (by omega) heN')
      exact ⟨rfl, rfl, rfl, rfl, trivial⟩
termination_by n * n - i
decreasing_by omega
theorem w_gather_cl {p ab : Nat} {b : Nat → Nat} {B IN0 RW : Nat → Int32} {e0 : Nat} (hR : 1 ≤ R.frames ∧ 24 ≤ R.locals) (hn : 2 ≤ n ∧ n ≤ 13) (hab : ab = r + 1 ∨ ab = r + 2) (hB : h ab = some (.inl (D.1 100, 169, .inl B))) (hBb : ∀ q, q < n * n → B q = nI (b q)) (hp : p < n * n) (k : Nat) (hk : k ≤ n * n) :
    xa_X l D H0 M_Ref_gather R (xa_Zr D H0 0 0 (fun v' h' sz' => ∃ (IN RW : Nat → Int32) (rr : Nat → Nat) (e : Nat), gr_G n (fun q => nI (b q)) p IN RW rr e ∧ v' = none ∧ h' = xG_h D h r n v IN RW e ∧ sz' = sz)) 0 0 (xG_h D h r n v (fun q => if q < k then 0 else IN0 q) RW e0) sz 2 [(0, .ref r), (1, .ref ab), (2, .int (nI p)), (3, .int (nI k))] [] := by
  have hN : n * n ≤ 169 := Nat.mul_le_mul hn.2 hn.2
  have q0 : xG_h D h r n v (fun q => if q < k then 0 else IN0 q) RW e0 r = some (xR_o r n (xh_up v 5 e0)) := xG_0
  refine xa_iload_n d_Ref_gather_2 rfl ?_
  refine xa_aload_n d_Ref_gather_3 rfl ?_
  refine xa_getf f_Ref_62 d_Ref_gather_4 (by assumption) (by rfl) ?_
  refine xa_icmp_geN (tgt := 23) d_Ref_gather_7 (by decide) (by omega) (by omega) (fun hb => ?_) (fun hb => ?_)
  · have hke : k = n * n := by omega
    subst hke
    refine xa_aload_n d_Ref_gather_23 rfl ?_
    refine xa_getf f_Ref_34 d_Ref_gather_24 (by assumption) (by rfl) ?_
    refine xa_iload_n d_Ref_gather_27 rfl ?_
    refine xa_iconst (v := nI 1) d_Ref_gather_28 rfl ?_
    refine xa_zast d_Ref_gather_29 xG_7 (show p < 169 by omega) rfl (by omega) ?_
    refine xa_heap (xG_u7 _) ?_
    have q1 : xG_h D h r n v (upd (fun q => if q < n * n then 0 else IN0 q) p (vp_nar .boolean (nI 1))) RW e0 r = some (xR_o r n (xh_up v 5 e0)) := xG_0
    refine xa_aload_n d_Ref_gather_30 rfl ?_
    refine xa_getf f_Ref_38 d_Ref_gather_31 (by assumption) (by rfl) ?_
    refine xa_iconst (v := nI 0) d_Ref_gather_34 rfl ?_
    refine xa_iload_n d_Ref_gather_35 rfl ?_
    refine xa_iastE (j := 0) d_Ref_gather_36 xG_8 rfl (by omega) (by omega) ?_
    refine xa_heap (xG_u8 _) ?_
    have q2 : xG_h D h r n v (upd (fun q => if q < n * n then 0 else IN0 q) p (vp_nar .boolean (nI 1))) (upd RW 0 (nI p)) e0 r = some (xR_o r n (xh_up v 5 e0)) := xG_0
    refine xa_aload_n d_Ref_gather_37 rfl ?_
    refine xa_iconst (v := nI 1) d_Ref_gather_38 rfl ?_
    refine xa_putf f_Ref_68 d_Ref_gather_39 q2 (Nat.le_of_ble_eq_true rfl) rfl rfl ?_
    refine xa_heap (xG_u0 1) ?_
    refine xa_iconst (v := nI 0) d_Ref_gather_42 rfl ?_
    refine xa_istore_n d_Ref_gather_43 rfl rfl ?_
    refine xa_ls ?_ (w_gather_out hR hn hab hB hBb hp 0 _ _ (fun q => q = p) (fun _ => p) 1 ⟨gb_FI_0 rfl, fun q hq => ?_, fun q hq => ?_, fun j hj => ?_⟩ gr_FC_0 (by omega) (by omega))
    · exact ⟨rfl, rfl, rfl, rfl, trivial⟩
    · by_cases hqp : q = p
      · exact ⟨fun _ => hqp, fun _ => if_pos hqp⟩
      · have hu : upd (fun q => if q < n * n then 0 else IN0 q) p (vp_nar .boolean (nI 1)) q = 0 := (if_neg hqp).trans (if_pos hq)
        rw [hu]
        exact ⟨fun z => absurd z (by decide), fun z => absurd z hqp⟩
    · by_cases hqp : q = p
      · exact Or.inr (if_pos hqp)
      · exact Or.inl ((if_neg hqp).trans (if_pos hq))
    · have hj0 : j = 0 := by omega
      rw [hj0]
      exact if_pos rfl
  ·
    refine xa_aload_n d_Ref_gather_10 rfl ?_
    refine xa_getf f_Ref_34 d_Ref_gather_11 (by assumption) (by rfl) ?_
    refine xa_iload_n d_Ref_gather_14 rfl ?_
    refine xa_iconst (v := nI 0) d_Ref_gather_15 rfl ?_
    refine xa_zast d_Ref_gather_16 xG_7 (show k < 169 by omega) rfl (by omega) ?_
    refine xa_heap (xG_u7 _) ?_
    have hu : upd (fun q => if q < k then 0 else IN0 q) k (vp_nar .boolean (nI 0)) = fun q => if q < k + 1 then 0 else IN0 q := by
      funext q
      show (if q = k then (0 : Int32) else (if q < k then 0 else IN0 q)) = _
      by_cases hqk : q = k
      · rw [if_pos hqk, if_pos (by omega)]
      · rw [if_neg hqk]
        by_cases hq2 : q < k
        · rw [if_pos hq2, if_pos (by omega)]
        · rw [if_neg hq2, if_neg (by omega)]
    rw [hu]
    refine xa_iincN d_Ref_gather_17 rfl rfl rfl ?_
    refine xa_goto (tgt := 2) d_Ref_gather_20 (by decide) ?_
    refine xa_ls ?_ (w_gather_cl (IN0 := IN0) hR hn hab hB hBb hp (k + 1) (by omega))
    exact ⟨rfl, rfl, rfl, rfl, trivial⟩
termination_by n * n - k
decreasing_by omega
theorem c_Ref_gather {p ab : Nat} {b : Nat → Nat} {B IN RW : Nat → Int32} (h0 : h r = some (xR_o r n v)) (h7 : h (r + 7) = some (.inl (D.1 102, 169, .inl IN))) (h8 : h (r + 8) = some (.inl (D.1 100, 169, .inl RW))) (hn : 2 ≤ n ∧ n ≤ 13) (hab : ab = r + 1 ∨ ab = r + 2) (hB : h ab = some (.inl (D.1 100, 169, .inl B))) (hBb : ∀ q, q < n * n → B q = nI (b q)) (hp : p < n * n) :
    xa_M l D H0 M_Ref_gather 1 24 0 0 [.ref r, .ref ab, .int (nI p)] h sz (fun v' h' sz' => ∃ (IN RW : Nat → Int32) (rr : Nat → Nat) (e : Nat), gr_G n (fun q => nI (b q)) p IN RW rr e ∧ v' = none ∧ h' = xG_h D h r n v IN RW e ∧ sz' = sz) := by
  refine xa_enter (by decide) rfl rfl ?_
  refine xa_iconst (v := nI 0) d_Ref_gather_0 rfl ?_
  refine xa_istore_n d_Ref_gather_1 rfl rfl ?_
  refine xa_heap (h' := xG_h D h r n v (fun q => if q < 0 then 0 else IN q) RW (v 5)) ?_ ?_
  · have e : (fun q => if q < 0 then 0 else IN q) = IN := by
      funext q
      exact if_neg (Nat.not_lt_zero _)
    rw [e]
    exact (xG_s h0 h7 h8).symm
  · refine xa_ls ?_ (w_gather_cl (IN0 := IN) ⟨by decide, by decide⟩ hn hab hB hBb hp 0 (by omega))
    exact ⟨rfl, rfl, rfl, rfl, trivial⟩
end GA
