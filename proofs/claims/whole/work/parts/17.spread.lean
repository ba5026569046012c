/-! Areas.spread: the flood. -/
def xs_h (D : va_G) (h : xa_H) (aA aO N : Nat) (A O : Nat → Int32) : xa_H := xa_u (xa_u h aA (.inl (D.1 100, N, .inl A))) aO (.inl (D.1 100, N, .inl O))
theorem xs_hA {D : va_G} {h : xa_H} {aA aO N : Nat} {A O : Nat → Int32} (hab : aA ≠ aO) (A' : Nat → Int32) : xa_u (xs_h D h aA aO N A O) aA (.inl (D.1 100, N, .inl A')) = xs_h D h aA aO N A' O := xa_uc h hab _ _ _
theorem xs_hO {D : va_G} {h : xa_H} {aA aO N : Nat} {A O : Nat → Int32} (O' : Nat → Int32) : xa_u (xs_h D h aA aO N A O) aO (.inl (D.1 100, N, .inl O')) = xs_h D h aA aO N A O' := xa_uu _ _ _ _
theorem xs_hn {D : va_G} {h : xa_H} {aA aO N : Nat} {A O : Nat → Int32} {q : Nat} {e : Option va_E} (hq : h q = e) (h1 : q ≠ aA) (h2 : q ≠ aO) : xs_h D h aA aO N A O q = e := xa_u_ne (xa_u_ne hq h1) h2
theorem xs_ha {D : va_G} {h : xa_H} {aA aO N : Nat} {A O : Nat → Int32} (hab : aA ≠ aO) : xs_h D h aA aO N A O aA = some (.inl (D.1 100, N, .inl A)) := xa_u_ne (xa_u_eq _ _ _) hab
theorem xs_ho {D : va_G} {h : xa_H} {aA aO N : Nat} {A O : Nat → Int32} : xs_h D h aA aO N A O aO = some (.inl (D.1 100, N, .inl O)) := xa_u_eq _ _ _
theorem gb_m1 {a : Nat} (ha : a < 2 ^ 31) : nI a ≠ -1 := by
  intro z
  have h1 := nI_toInt ha
  rw [z] at h1
  have h2 : (-1 : Int32).toInt = -1 := by decide
  omega
section SP
variable {l : Launch} {D : va_G} {H0 : Heap} {h : xa_H} {sz : Nat} {R : Room} {Z : xa_Z}
theorem w_spread_in {n a g ar aA aO aS aK b p c x : Nat} {f K A0 O0 : Nat → Int32} {o : Nat → Nat} (hR : 1 ≤ R.frames ∧ 22 ≤ R.locals)
    (ha : h a = some (.inr (1, [.int (nI c), .ref g, .ref aA, .ref aO, .ref aS]))) (hg : h g = some (.inr (3, [.int (nI (n * n)), .ref ar]))) (har : h ar = some (.inl (D.1 100, 4 * (n * n), .inl f))) (hK : h aK = some (.inl (D.1 100, n * n, .inl K)))
    (hne : aA ≠ aO ∧ a ≠ aA ∧ a ≠ aO ∧ g ≠ aA ∧ g ≠ aO ∧ ar ≠ aA ∧ ar ≠ aO ∧ aK ≠ aA ∧ aK ≠ aO) (hN : n * n < 1000) (hf : ∀ q w, q < n * n → w < 4 → f (4 * q + w) = gb_oi (gb_nb n q w)) (hc : c < 1000) (hp : gs_pre n K A0 o b p)
    (kont : ∀ (V : Nat → Prop) (r : Nat → Nat) (e : Nat) (A O : Nat → Int32), gs_in n K A0 O0 b p c V r e A O → gb_FC n K V r x 4 → x < e → b + e ≤ n * n → xa_X l D H0 M_Areas_spread R Z 0 0 (xs_h D h aA aO (n * n) A O) sz 127 [(0, .ref a), (1, .int (nI p)), (2, .int (nI b)), (3, .ref aK), (4, .int (nI (b + e))), (5, .int (nI (b + x)))] [])
    (w : Nat) (V : Nat → Prop) (r : Nat → Nat) (e : Nat) (A O : Nat → Int32) (hw : w ≤ 4) (hI : gs_in n K A0 O0 b p c V r e A O) (hF : gb_FC n K V r x w) (hx : x < e) (he : b + e ≤ n * n) :
    xa_X l D H0 M_Areas_spread R Z 0 0 (xs_h D h aA aO (n * n) A O) sz 47 [(0, .ref a), (1, .int (nI p)), (2, .int (nI b)), (3, .ref aK), (4, .int (nI (b + e))), (5, .int (nI (b + x))), (6, .int (nI w))] [] := by
  have ha' : xs_h D h aA aO (n * n) A O a = some (.inr (1, [.int (nI c), .ref g, .ref aA, .ref aO, .ref aS])) := xs_hn ha (by omega) (by omega)
  have hg' : xs_h D h aA aO (n * n) A O g = some (.inr (3, [.int (nI (n * n)), .ref ar])) := xs_hn hg (by omega) (by omega)
  have har' : xs_h D h aA aO (n * n) A O ar = some (.inl (D.1 100, 4 * (n * n), .inl f)) := xs_hn har (by omega) (by omega)
  have hK' : xs_h D h aA aO (n * n) A O aK = some (.inl (D.1 100, n * n, .inl K)) := xs_hn hK (by omega) (by omega)
  have hA' : xs_h D h aA aO (n * n) A O aA = some (.inl (D.1 100, n * n, .inl A)) := xs_ha hne.1
  have hO' : xs_h D h aA aO (n * n) A O aO = some (.inl (D.1 100, n * n, .inl O)) := xs_ho
  have hr : r x < n * n := gb_conn_lt hp.1 (hI.1.2.2.1 x hx)
  have hkx : K (r x) = K p := gb_conn_k (hI.1.2.2.1 x hx)
  have hpN := hp.1
  refine xa_iload d_Areas_spread_47 rfl ?_
  refine xa_iconst (v := nI 4) d_Areas_spread_49 rfl ?_
  refine xa_icmp_geN (tgt := 127) d_Areas_spread_50 (by decide) (by omega) (by omega) (fun hb => ?_) (fun hb => ?_)
  · have hw4 : w = 4 := by omega
    subst hw4
    refine xa_ls ?_ (kont V r e A O hI hF hx he)
    exact ⟨rfl, rfl, rfl, rfl, rfl, rfl, trivial⟩
  ·
    refine xa_aload_n d_Areas_spread_53 rfl ?_
    refine xa_getf f_Areas_9 d_Areas_spread_54 (by assumption) (by rfl) ?_
    refine xa_aload_n d_Areas_spread_57 rfl ?_
    refine xa_getf f_Areas_25 d_Areas_spread_58 (by assumption) (by rfl) ?_
    refine xa_iload d_Areas_spread_61 rfl ?_
    refine xa_ialdE d_Areas_spread_63 hO' rfl (by omega) (by omega) (hI.2.2.2.1 x hx) ?_
    refine xa_iload d_Areas_spread_64 rfl ?_
    refine xa_callVr (As := [.int (nI (r x)), .int (nI w)]) (st := []) d_Areas_spread_66 k_Areas_42 hg' (c_Grid_neighbour hg' har' hN hr hb) rfl rfl (by decide) ⟨hR.1, hR.2⟩ (by omega) (by omega) ?_
    have again : (∀ y, gb_nb n (r x) w = some y → K y = K (r x) → V y) → ∀ z : Int32, xa_X l D H0 M_Areas_spread R Z 0 0 (xs_h D h aA aO (n * n) A O) sz 121 [(0, .ref a), (1, .int (nI p)), (2, .int (nI b)), (3, .ref aK), (4, .int (nI (b + e))), (5, .int (nI (b + x))), (6, .int (nI w)), (7, .int z)] [] := by
      intro hs z
      refine xa_iincN d_Areas_spread_121 rfl rfl rfl ?_
      refine xa_goto (tgt := 47) d_Areas_spread_124 (by decide) ?_
      refine xa_ls ?_ (w_spread_in hR ha hg har hK hne hN hf hc hp kont (w + 1) V r e A O (by omega) hI (gb_FC_skip hF hs) hx he)
      exact ⟨rfl, rfl, rfl, rfl, rfl, rfl, rfl, trivial⟩
    have hv := hf (r x) w hr hb
    cases hnb : gb_nb n (r x) w with
    | none =>
      rw [hnb] at hv again
      refine xa_int (show f (4 * r x + w) = -1 from hv) ?_
      refine xa_istore d_Areas_spread_69 rfl rfl ?_
      refine xa_iload d_Areas_spread_71 rfl ?_
      refine xa_iconst (v := -1) d_Areas_spread_73 rfl ?_
      refine xa_icmp_eq (tgt := 121) d_Areas_spread_74 (by decide) (fun hz => ?_) (fun hz => ?_)
      · exact again (fun y hy => by cases hy) (-1)
      · exact absurd rfl hz
    | some y =>
      rw [hnb] at hv again
      have hy := gb_nb_lt hr hb hnb
      refine xa_int (show f (4 * r x + w) = nI y from hv) ?_
      refine xa_istore d_Areas_spread_69 rfl rfl ?_
      refine xa_iload d_Areas_spread_71 rfl ?_
      refine xa_iconst (v := -1) d_Areas_spread_73 rfl ?_
      refine xa_icmp_eq (tgt := 121) d_Areas_spread_74 (by decide) (fun hz => ?_) (fun hz => ?_)
      · exact absurd hz (gb_m1 (by omega))
      ·
        refine xa_aload_n d_Areas_spread_77 rfl ?_
        refine xa_getf f_Areas_21 d_Areas_spread_78 (by assumption) (by rfl) ?_
        refine xa_iload d_Areas_spread_81 rfl ?_
        refine xa_ialdE d_Areas_spread_83 (by assumption) rfl (by omega) (by omega) (by rfl) ?_
        refine xa_iconst (v := -1) d_Areas_spread_84 rfl ?_
        refine xa_icmp_ne (tgt := 121) d_Areas_spread_85 (by decide) (fun hz2 => ?_) (fun hz2 => ?_)
        · exact again (fun y' hy' hk => by cases hy'; exact gs_skip hp hI hx hb hnb hz2 hk) (nI y)
        ·
          refine xa_aload_n d_Areas_spread_88 rfl ?_
          refine xa_iload d_Areas_spread_89 rfl ?_
          refine xa_ialdE d_Areas_spread_91 (by assumption) rfl (by omega) (by omega) (by rfl) ?_
          refine xa_aload_n d_Areas_spread_92 rfl ?_
          refine xa_iload_n d_Areas_spread_93 rfl ?_
          refine xa_ialdE d_Areas_spread_94 (by assumption) rfl (by omega) (by omega) (by rfl) ?_
          refine xa_icmp_ne (tgt := 121) d_Areas_spread_95 (by decide) (fun hz3 => ?_) (fun hz3 => ?_)
          · exact again (fun y' hy' hk => by cases hy'; exact absurd (hk.trans hkx) hz3) (nI y)
          · have hvy : ¬ V y := gs_free hI (gb_m1 (by omega)) hz2
            have hroom : b + e < n * n := gs_room hp hI.1.2.2.1 hI.1.2.2.2.1 (gb_conn_st (hI.1.2.2.1 x hx) hb hnb (hz3.trans hkx.symm)) (fun j hj z => hvy ((hI.1.2.2.2.2 y).mpr ⟨j, hj, z⟩))
            refine xa_aload_n d_Areas_spread_98 rfl ?_
            refine xa_getf f_Areas_21 d_Areas_spread_99 (by assumption) (by rfl) ?_
            refine xa_iload d_Areas_spread_102 rfl ?_
            refine xa_aload_n d_Areas_spread_104 rfl ?_
            refine xa_getf f_Areas_37 d_Areas_spread_105 (by assumption) (by rfl) ?_
            refine xa_iastE d_Areas_spread_108 hA' rfl hy (by omega) ?_
            rw [xs_hA hne.1]
            have ha2 : xs_h D h aA aO (n * n) (upd A y (nI c)) O a = some (.inr (1, [.int (nI c), .ref g, .ref aA, .ref aO, .ref aS])) := xs_hn ha (by omega) (by omega)
            refine xa_aload_n d_Areas_spread_109 rfl ?_
            refine xa_getf f_Areas_25 d_Areas_spread_110 (by assumption) (by rfl) ?_
            refine xa_iload d_Areas_spread_113 rfl ?_
            refine xa_iload d_Areas_spread_115 rfl ?_
            refine xa_iastE d_Areas_spread_117 xs_ho rfl hroom (by omega) ?_
            rw [xs_hO]
            refine xa_iincN d_Areas_spread_118 rfl rfl rfl ?_
            refine xa_iincN d_Areas_spread_121 rfl rfl rfl ?_
            refine xa_goto (tgt := 47) d_Areas_spread_124 (by decide) ?_
            refine xa_ls ?_ (w_spread_in hR ha hg har hK hne hN hf hc hp kont (w + 1) _ _ (e + 1) _ _ (by omega) (gs_add hI hx hb hnb (hz3.trans hkx.symm) hvy) (gb_FC_add hF hx hnb) (by omega) (by omega))
            exact ⟨rfl, rfl, rfl, rfl, rfl, rfl, rfl, trivial⟩
termination_by 4 - w
decreasing_by all_goals omega
end SP
