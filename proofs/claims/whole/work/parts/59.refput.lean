/-! The reference: areBreathing, put, string. -/
section RB
variable {l : Launch} {D : va_G} {H0 : Heap} {h : xa_H} {sz : Nat} {R : Room} {r n fs : Nat} {b : Nat → Nat} {m : Nat} {bd : Nat → Nat → Nat} {pt : Nat → Int32} {tb tw : Nat → Nat} {cd : Nat}
theorem w_areB {ab : Nat} {v : Nat → Nat} {B : Nat → Int32} (hR : 3 ≤ R.frames ∧ 72 ≤ R.locals) (hn : 2 ≤ n ∧ n ≤ 13) (hab : ab = r + 1 ∨ ab = r + 2) (hB : h ab = some (.inl (D.1 100, 169, .inl B))) (hBb : ∀ q, q < n * n → B q = nI (b q)) (hb : ∀ q, q < n * n → b q ≤ 2) (p : Nat) (hp : p ≤ n * n) (x : Nat) (hx : (x = 1 ∧ ∀ q, q < p → b q ≠ 0 → gb_cnt (gt_br n (fun q => nI (b q)) q) (n * n) ≠ 0) ∨ (x = 0 ∧ ∃ q, q < n * n ∧ b q ≠ 0 ∧ gb_cnt (gt_br n (fun q => nI (b q)) q) (n * n) = 0)) (IN RW : Nat → Int32) (e : Nat) :
    xa_X l D H0 M_Ref_areBreathing R (xa_Zr D H0 0 0 (fun v' h' sz' => (∃ (IN RW : Nat → Int32) (e : Nat), h' = xG_h D h r n v IN RW e) ∧ ((v' = some (.int 1) ∧ gx_br n b) ∨ (v' = some (.int 0) ∧ ¬ gx_br n b)) ∧ sz' = sz)) 0 0 (xG_h D h r n v IN RW e) sz 4 [(0, .ref r), (1, .ref ab), (2, .int (nI x)), (3, .int (nI p))] [] := by
  have hN : n * n ≤ 169 := Nat.mul_le_mul hn.2 hn.2
  have q0 : xG_h D h r n v IN RW e r = some (xR_o r n (xh_up v 5 e)) := xG_0
  have qb : xG_h D h r n v IN RW e ab = some (.inl (D.1 100, 169, .inl B)) := (xG_n (by omega) (by omega) (by omega)).trans hB
  have fin : p = n * n ∨ x = 0 → ∀ lsx, xa_lk lsx 2 = some (.int (nI x)) → xa_X l D H0 M_Ref_areBreathing R (xa_Zr D H0 0 0 (fun v' h' sz' => (∃ (IN RW : Nat → Int32) (e : Nat), h' = xG_h D h r n v IN RW e) ∧ ((v' = some (.int 1) ∧ gx_br n b) ∨ (v' = some (.int 0) ∧ ¬ gx_br n b)) ∧ sz' = sz)) 0 0 (xG_h D h r n v IN RW e) sz 48 lsx [] := by
    intro hor lsx l2
    refine xa_iload_n d_Ref_areBreathing_48 l2 ?_
    rcases hx with ⟨e, hall⟩ | ⟨e, q, hq, hq0, hne⟩
    · subst e
      have hpe : p = n * n := by omega
      exact xa_zreturn (v := nI 1) d_Ref_areBreathing_49 rfl (by decide) (by omega) (by omega) ⟨⟨IN, RW, _, rfl⟩, Or.inl ⟨rfl, fun q hq => hall q (by omega)⟩, rfl⟩
    · subst e
      exact xa_zreturn (v := nI 0) d_Ref_areBreathing_49 rfl (by decide) (by omega) (by omega) ⟨⟨IN, RW, _, rfl⟩, Or.inr ⟨rfl, fun z => z q hq hq0 hne⟩, rfl⟩
  refine xa_iload_n d_Ref_areBreathing_4 rfl ?_
  refine xa_aload_n d_Ref_areBreathing_5 rfl ?_
  refine xa_getf f_Ref_62 d_Ref_areBreathing_6 (by assumption) (by rfl) ?_
  refine xa_icmp_geN (tgt := 48) d_Ref_areBreathing_9 (by decide) (by omega) (by omega) (fun hb4 => ?_) (fun hb4 => ?_)
  · exact fin (Or.inl (by omega)) _ rfl
  · have hx1 : x ≤ 1 := by omega
    refine xa_iload_n d_Ref_areBreathing_12 rfl ?_
    refine xa_if_eqN (tgt := 48) d_Ref_areBreathing_13 (by decide) (by omega) (fun hz => ?_) (fun hz => ?_)
    · exact fin (Or.inr hz) _ rfl
    · have hxx := (hx.resolve_right (fun z => by omega)).2
      have hx1 : x = 1 := by omega
      subst hx1
      have hbp := hb p hb4
      refine xa_aload_n d_Ref_areBreathing_16 rfl ?_
      refine xa_iload_n d_Ref_areBreathing_17 rfl ?_
      refine xa_ialdE d_Ref_areBreathing_18 qb rfl (show p < 169 by omega) (by omega) (hBb p hb4) ?_
      refine xa_if_eqN (tgt := 42) d_Ref_areBreathing_19 (by decide) (by omega) (fun hz1 => ?_) (fun hz1 => ?_)
      ·
        refine xa_iincN d_Ref_areBreathing_42 rfl rfl rfl ?_
        refine xa_goto (tgt := 4) d_Ref_areBreathing_45 (by decide) ?_
        refine xa_ls ?_ (w_areB hR hn hab hB hBb hb (p + 1) (by omega) 1 (Or.inl ⟨rfl, fun q hq hq0 => ?_⟩) IN RW e)
        · exact ⟨rfl, rfl, rfl, rfl, trivial⟩
        · by_cases he : q = p
          · rw [he] at hq0; exact absurd hz1 hq0
          · exact hxx q (by omega) hq0
      ·
        refine xa_aload_n d_Ref_areBreathing_22 rfl ?_
        refine xa_aload_n d_Ref_areBreathing_23 rfl ?_
        refine xa_iload_n d_Ref_areBreathing_24 rfl ?_
        refine xa_callV (As := [.ref ab, .int (nI p)]) (st := []) d_Ref_areBreathing_25 k_Ref_82 q0 (c_Ref_gather q0 xG_7 xG_8 hn hab qb hBb hb4) rfl rfl (Nat.le_of_ble_eq_true rfl) ⟨by have := hR.1; show 1 + 1 ≤ _; omega, by have := hR.2; show 8 + (6 + 11) + 24 ≤ _; omega⟩ (by omega) (by omega) (fun v' h' sz' hq => ?_)
        obtain ⟨IN', RW', rr, e', hG, e1, e2, e3⟩ := hq
        rw [e1, e2, e3, xG_G]
        obtain ⟨g1, g2, g3, g4, g5, g6⟩ := id hG
        have q1 : xG_h D h r n v IN' RW' e' r = some (xR_o r n (xh_up v 5 e')) := xG_0
        have qb1 : xG_h D h r n v IN' RW' e' ab = some (.inl (D.1 100, 169, .inl B)) := (xG_n (by omega) (by omega) (by omega)).trans hB
        have hcl := gb_cnt_le (P := gt_br n (fun q => nI (b q)) p) (n * n)
        refine xa_aload_n d_Ref_areBreathing_28 rfl ?_
        refine xa_aload_n d_Ref_areBreathing_29 rfl ?_
        refine xa_callVr (As := [.ref ab]) (st := []) d_Ref_areBreathing_30 k_Ref_86 q1 (c_Ref_breaths (x := p) q1 xG_7 hn qb1 hBb hb g1 g2) rfl rfl (Nat.le_of_ble_eq_true rfl) ⟨hR.1, hR.2⟩ (by omega) (by omega) ?_
        refine xa_if_leN (tgt := 40) d_Ref_areBreathing_33 (by decide) (by omega) (fun hz2 => ?_) (fun hz2 => ?_)
        ·
          refine xa_iconst (v := nI 0) d_Ref_areBreathing_40 rfl ?_
          refine xa_istore_n d_Ref_areBreathing_41 rfl rfl ?_
          refine xa_iincN d_Ref_areBreathing_42 rfl rfl rfl ?_
          refine xa_goto (tgt := 4) d_Ref_areBreathing_45 (by decide) ?_
          refine xa_ls ?_ (w_areB hR hn hab hB hBb hb (p + 1) (by omega) 0 (Or.inr ⟨rfl, p, hb4, by omega, hz2⟩) IN' RW' e')
          exact ⟨rfl, rfl, rfl, rfl, trivial⟩
        ·
          refine xa_iconst (v := nI 1) d_Ref_areBreathing_36 rfl ?_
          refine xa_goto (tgt := 41) d_Ref_areBreathing_37 (by decide) ?_
          refine xa_istore_n d_Ref_areBreathing_41 rfl rfl ?_
          refine xa_iincN d_Ref_areBreathing_42 rfl rfl rfl ?_
          refine xa_goto (tgt := 4) d_Ref_areBreathing_45 (by decide) ?_
          refine xa_ls ?_ (w_areB hR hn hab hB hBb hb (p + 1) (by omega) 1 (Or.inl ⟨rfl, fun q hq hq0 => ?_⟩) IN' RW' e')
          · exact ⟨rfl, rfl, rfl, rfl, trivial⟩
          · by_cases he : q = p
            · rw [he]; omega
            · exact hxx q (by omega) hq0
termination_by n * n - p
decreasing_by all_goals omega
theorem c_Ref_areBreathing {ab : Nat} {v : Nat → Nat} {B IN RW : Nat → Int32} (h0 : h r = some (xR_o r n v)) (h7 : h (r + 7) = some (.inl (D.1 102, 169, .inl IN))) (h8 : h (r + 8) = some (.inl (D.1 100, 169, .inl RW))) (hn : 2 ≤ n ∧ n ≤ 13) (hab : ab = r + 1 ∨ ab = r + 2) (hB : h ab = some (.inl (D.1 100, 169, .inl B))) (hBb : ∀ q, q < n * n → B q = nI (b q)) (hb : ∀ q, q < n * n → b q ≤ 2) :
    xa_M l D H0 M_Ref_areBreathing 3 72 0 0 [.ref r, .ref ab] h sz (fun v' h' sz' => (∃ (IN RW : Nat → Int32) (e : Nat), h' = xG_h D h r n v IN RW e) ∧ ((v' = some (.int 1) ∧ gx_br n b) ∨ (v' = some (.int 0) ∧ ¬ gx_br n b)) ∧ sz' = sz) := by
  refine xa_enter (by decide) rfl rfl ?_
  refine xa_iconst (v := nI 1) d_Ref_areBreathing_0 rfl ?_
  refine xa_istore_n d_Ref_areBreathing_1 rfl rfl ?_
  refine xa_iconst (v := nI 0) d_Ref_areBreathing_2 rfl ?_
  refine xa_istore_n d_Ref_areBreathing_3 rfl rfl ?_
  refine xa_heap (xG_s h0 h7 h8).symm ?_
  refine xa_ls ?_ (w_areB ⟨by decide, by decide⟩ hn hab hB hBb hb 0 (by omega) 1 (Or.inl ⟨rfl, fun q hq => absurd hq (Nat.not_lt_zero _)⟩) IN RW (v 5))
  exact ⟨rfl, rfl, rfl, rfl, trivial⟩
theorem c_Ref_put {p k : Nat} (hS : xR_S D h r n fs b 0 bd pt tb tw cd) (hZ : xZ_I n fs b 0 bd pt tb tw) (hp : p < n * n) (hk : k ≤ 2) :
    xa_M l D H0 M_Ref_put 4 95 0 0 [.ref r, .int (nI p), .int (nI k)] h sz (fun v h' sz' => ((v = some (.int 1) ∧ gx_br n (fun q => if q = p then k else b q) ∧ xR_S D h' r n fs (fun q => if q = p then k else b q) 0 (xh_up bd 0 (fun x => if x = p then k else bd 0 x)) (xh_up pt 0 (-2)) (xh_up tb 0 0) (xh_up tw 0 0) 0) ∨ (v = some (.int 0) ∧ ¬ gx_br n (fun q => if q = p then k else b q) ∧ xR_S D h' r n fs b 0 bd pt tb tw 0)) ∧ xR_F h h' r ∧ sz' = sz) := by
  have hn := hZ.1.1
  have hN : n * n ≤ 169 := Nat.mul_le_mul hn.2 hn.2
  obtain ⟨v0, h0, -⟩ := hS.code
  refine xa_enter (by decide) rfl rfl ?_
  refine xa_aload_n d_Ref_put_0 rfl ?_
  refine xa_iload_n d_Ref_put_1 rfl ?_
  refine xa_callV (As := [.int (nI p)]) (st := []) d_Ref_put_2 k_Ref_118 h0 (c_Ref_noPoint hS hZ.1.1 hp) rfl rfl (Nat.le_of_ble_eq_true rfl) ⟨by decide, by decide⟩ (by decide) (by decide) (fun v' h1 sz' hq => ?_)
  obtain ⟨e1, hS1, hF1, e2⟩ := hq
  rw [e1, e2]
  refine xa_if_eqN (tgt := 10) d_Ref_put_5 (by decide) (by omega) (fun hz => ?_) (fun hz => ?_)
  · obtain ⟨v, B, SD, MV, TB, TW, hA, ⟨f0, f3, f4⟩, hI⟩ := id hS1
    have g0 := hA.1
    refine xa_aload_n d_Ref_put_10 rfl ?_
    refine xa_iload_n d_Ref_put_11 rfl ?_
    refine xa_if_lt (tgt := 20) d_Ref_put_12 (by decide) (fun hz1 => ?_) (fun hz1 => ?_)
    · exact absurd hz1 (nI_pos (by omega))
    ·
      refine xa_iload_n d_Ref_put_15 rfl ?_
      refine xa_iconst (v := nI 2) d_Ref_put_16 rfl ?_
      refine xa_icmp_leN (tgt := 24) d_Ref_put_17 (by decide) (by omega) (by omega) (fun hz2 => ?_) (fun hz2 => ?_)
      ·
        refine xa_aload_n d_Ref_put_24 rfl ?_
        refine xa_getf f_Ref_96 d_Ref_put_25 (by assumption) (by rfl) ?_
        refine xa_int (y := nI 0) (by rw [f3]) ?_
        refine xa_if_leN (tgt := 35) d_Ref_put_28 (by decide) (by omega) (fun hz3 => ?_) (fun hz3 => ?_)
        ·
          refine xa_iconst (v := nI 0) d_Ref_put_35 rfl ?_
          have hA1 := hA.o (xh_up v 0 0)
          refine xa_putf f_Ref_65 d_Ref_put_36 hA.1 (Nat.le_of_ble_eq_true rfl) rfl rfl ?_
          refine xa_heap (h' := xa_u h1 r (xR_o r n (xh_up v 0 0))) rfl ?_
          have q0 := hA1.1
          have hFa : ∀ q, q < r ∨ r + 15 ≤ q → xa_u h1 r (xR_o r n (xh_up v 0 0)) q = h q := fun q hq => xa_u_ne (hF1 q hq) (by omega)
          have w3 : (xh_up v 0 0) 3 = 0 := f3
          have w0 : (xh_up v 0 0) 0 = 0 := rfl
          have w4 : (xh_up v 0 0) 4 = fs := f4
          refine xa_aload_n d_Ref_put_39 rfl ?_
          refine xa_getf f_Ref_65 d_Ref_put_40 (by assumption) (by rfl) ?_
          refine xa_int (y := nI 0) rfl ?_
          generalize xh_up v 0 0 = w at *
          generalize hHe : xa_u h1 r (xR_o r n w) = h2 at *
          clear hHe
          refine xa_if_leN (tgt := 48) d_Ref_put_43 (by decide) (by omega) (fun hz4 => ?_) (fun hz4 => ?_)
          ·
            refine xa_aload_n d_Ref_put_48 rfl ?_
            refine xa_getf f_Ref_7 d_Ref_put_49 (by assumption) (by rfl) ?_
            refine xa_iload_n d_Ref_put_52 rfl ?_
            refine xa_ialdE d_Ref_put_53 hA1.2.1 rfl (show p < 169 by omega) (by omega) (hI.1 p hp) ?_
            refine xa_istore_n d_Ref_put_54 rfl rfl ?_
            refine xa_aload_n d_Ref_put_55 rfl ?_
            refine xa_getf f_Ref_7 d_Ref_put_56 (by assumption) (by rfl) ?_
            refine xa_iload_n d_Ref_put_59 rfl ?_
            refine xa_iload_n d_Ref_put_60 rfl ?_
            refine xa_iastE d_Ref_put_61 hA1.2.1 rfl (show p < 169 by omega) (by omega) ?_
            have hA2 := hA1.uB (upd B p (nI k))
            have hB2 : ∀ q, q < n * n → upd B p (nI k) q = nI ((fun q => if q = p then k else b q) q) := fun q hq => by
              by_cases he : q = p
              · have hu : upd B p (nI k) q = nI k := if_pos he
                rw [hu]
                show nI k = nI (if q = p then k else b q)
                rw [if_pos he]
              · have hu : upd B p (nI k) q = B q := if_neg he
                rw [hu, hI.1 q hq]
                show nI (b q) = nI (if q = p then k else b q)
                rw [if_neg he]
            have hb2 : ∀ q, q < n * n → (fun q => if q = p then k else b q) q ≤ 2 := fun q hq => by
              show (if q = p then k else b q) ≤ 2
              split
              · exact hk
              · exact hZ.b2 q hq
            have hFb : ∀ q, q < r ∨ r + 15 ≤ q → xa_u h2 (r + 1) (.inl (D.1 100, 169, .inl (upd B p (nI k)))) q = h q := fun q hq => xa_u_ne (hFa q hq) (by omega)
            generalize hHe : xa_u h2 (r + 1) (.inl (D.1 100, 169, .inl (upd B p (nI k)))) = h3 at *
            clear hHe
            obtain ⟨q1, qb, -, -, -, -, TR, IN, RW, -, -, -, -, -, -, -, a7, a8, -⟩ := id hA2
            refine xa_aload_n d_Ref_put_62 rfl ?_
            refine xa_aload_n d_Ref_put_63 rfl ?_
            refine xa_getf f_Ref_7 d_Ref_put_64 (by assumption) (by rfl) ?_
            refine xa_callV (As := [.ref (r + 1)]) (st := []) d_Ref_put_67 k_Ref_121 q1 (c_Ref_areBreathing (b := (fun q => if q = p then k else b q)) q1 a7 a8 hn (Or.inl rfl) qb hB2 hb2) rfl rfl (Nat.le_of_ble_eq_true rfl) ⟨by decide, by decide⟩ (by decide) (by decide) (fun v' h' sz' hq => ?_)
            obtain ⟨⟨IN', RW', e', e1⟩, hv, e3⟩ := hq
            rw [e1, e3]
            have hA3 := hA2.G (IN := IN') (RW := RW') (e := e')
            have hFc : ∀ q, q < r ∨ r + 15 ≤ q → xG_h D h3 r n w IN' RW' e' q = h q := fun q hq => (xG_n (by omega) (by omega) (by omega)).trans (hFb q hq)
            have w3' : (xh_up w 5 e') 3 = 0 := w3
            have w0' : (xh_up w 5 e') 0 = 0 := w0
            have w4' : (xh_up w 5 e') 4 = fs := w4
            generalize xh_up w 5 e' = w' at *
            generalize hHe : xG_h D h3 r n w IN' RW' e' = h4 at *
            clear hHe
            have q2 := hA3.1
            -- the end, told once
            have fin : ∀ (x : Nat) (b' : Nat → Nat) (bd' : Nat → Nat → Nat) (pt' : Nat → Int32) (tb' tw' : Nat → Nat) (B' : Nat → Int32), (∀ q, q < n * n → B' q = nI (b' q)) → (∀ q, q < n * n → b' q ≤ 2) → (∀ q, q < n * n → bd' 0 q = b' q) → x ≤ 1 → (∀ h', xR_S D h' r n fs b' 0 bd' pt' tb' tw' 0 → ((some (Value.int (nI x)) = some (.int 1) ∧ gx_br n (fun q => if q = p then k else b q) ∧ xR_S D h' r n fs (fun q => if q = p then k else b q) 0 (xh_up bd 0 (fun x => if x = p then k else bd 0 x)) (xh_up pt 0 (-2)) (xh_up tb 0 0) (xh_up tw 0 0) 0) ∨ (some (Value.int (nI x)) = some (.int 0) ∧ ¬ gx_br n (fun q => if q = p then k else b q) ∧ xR_S D h' r n fs b 0 bd pt tb tw 0))) → xa_X l D H0 M_Ref_put (xa_rm 4 0 0 95) (xa_Zr D H0 0 0 (fun v h' sz' => ((v = some (.int 1) ∧ gx_br n (fun q => if q = p then k else b q) ∧ xR_S D h' r n fs (fun q => if q = p then k else b q) 0 (xh_up bd 0 (fun x => if x = p then k else bd 0 x)) (xh_up pt 0 (-2)) (xh_up tb 0 0) (xh_up tw 0 0) 0) ∨ (v = some (.int 0) ∧ ¬ gx_br n (fun q => if q = p then k else b q) ∧ xR_S D h' r n fs b 0 bd pt tb tw 0)) ∧ xR_F h h' r ∧ sz' = sz)) 0 0 (xa_u h4 (r + 1) (.inl (D.1 100, 169, .inl B'))) sz 88 [(0, .ref r), (4, .int (nI x))] [] := by
              intro x b' bd' pt' tb' tw' B' hB' hb' hbd hx1 hfin
              have hA4 := hA3.uB B'
              have q3 := hA4.1
              refine xa_aload_n d_Ref_put_88 rfl ?_
              refine xa_iconst (v := nI 0) d_Ref_put_89 rfl ?_
              refine xa_callV (As := [.int (nI 0)]) (st := []) d_Ref_put_90 k_Ref_125 q3 (c_Ref_keep (k := 0) (b := b') q3 hA4.2.1 hA4.2.2.1 hn (by omega) hB' hb') rfl rfl (Nat.le_of_ble_eq_true rfl) ⟨by decide, by decide⟩ (by decide) (by decide) (fun v' h' sz' hq => ?_)
              obtain ⟨SD', s1, s2, e1, e2, e3⟩ := hq
              rw [e1, e2, e3]
              have hA5 := hA4.uS SD'
              refine xa_iload d_Ref_put_93 rfl ?_
              refine xa_zreturn (v := nI x) d_Ref_put_95 rfl (by rcases (show x = 0 ∨ x = 1 by omega) with e | e <;> subst e <;> decide) (by decide) (by decide) ⟨hfin _ ⟨w', B', SD', MV, TB, TW, hA5, ⟨w0', w3', w4'⟩, hB', fun i hi q hq => ?_, fun i hi => by omega, fun i hi => by omega, fun i hi => by omega⟩, fun q hq => xa_u_ne (xa_u_ne (hFc q hq) (by omega)) (by omega), rfl⟩
              have hi0 : i = 0 := by omega
              subst hi0
              rw [s1 q hq, hbd q hq]
            rcases hv with ⟨hv, hbr⟩ | ⟨hv, hbr⟩
            · rw [hv]
              refine xa_int (y := nI 1) rfl ?_
              refine xa_istore d_Ref_put_70 rfl rfl ?_
              refine xa_aload_n d_Ref_put_72 rfl ?_
              refine xa_getf f_Ref_7 d_Ref_put_73 (by assumption) (by rfl) ?_
              refine xa_iload_n d_Ref_put_76 rfl ?_
              refine xa_iload d_Ref_put_77 rfl ?_
              refine xa_if_eqN (tgt := 86) d_Ref_put_79 (by decide) (by omega) (fun hz5 => ?_) (fun hz5 => ?_)
              · omega
              ·
                refine xa_iload_n d_Ref_put_82 rfl ?_
                refine xa_goto (tgt := 87) d_Ref_put_83 (by decide) ?_
                refine xa_iastE d_Ref_put_87 hA3.2.1 rfl (show p < 169 by omega) (by omega) ?_
                refine xa_ls ?_ (fin 1 (fun q => if q = p then k else b q) _ _ _ _ _ (fun q hq => ?_) hb2 (fun q hq => ?_) (by omega) (fun h' hS' => Or.inl ⟨rfl, hbr, hS'⟩))
                · exact ⟨rfl, rfl, trivial⟩
                · by_cases he : q = p
                  · have hu : upd (upd B p (nI k)) p (nI k) q = nI k := if_pos he
                    rw [hu]
                    show nI k = nI (if q = p then k else b q)
                    rw [if_pos he]
                  · have hu : upd (upd B p (nI k)) p (nI k) q = upd B p (nI k) q := if_neg he
                    rw [hu]
                    exact hB2 q hq
                · rw [xh_up_eq]
                  show (if q = p then k else bd 0 q) = (if q = p then k else b q)
                  rw [hZ.2.1 q hq]
            · rw [hv]
              refine xa_int (y := nI 0) rfl ?_
              refine xa_istore d_Ref_put_70 rfl rfl ?_
              refine xa_aload_n d_Ref_put_72 rfl ?_
              refine xa_getf f_Ref_7 d_Ref_put_73 (by assumption) (by rfl) ?_
              refine xa_iload_n d_Ref_put_76 rfl ?_
              refine xa_iload d_Ref_put_77 rfl ?_
              refine xa_if_eqN (tgt := 86) d_Ref_put_79 (by decide) (by omega) (fun hz5 => ?_) (fun hz5 => ?_)
              ·
                refine xa_iload_n d_Ref_put_86 rfl ?_
                refine xa_iastE d_Ref_put_87 hA3.2.1 rfl (show p < 169 by omega) (by omega) ?_
                refine xa_ls ?_ (fin 0 b bd pt tb tw _ (fun q hq => ?_) hZ.b2 hZ.2.1 (by omega) (fun h' hS' => Or.inr ⟨rfl, hbr, hS'⟩))
                · exact ⟨rfl, rfl, trivial⟩
                · by_cases he : q = p
                  · have hu : upd (upd B p (nI k)) p (nI (b p)) q = nI (b p) := if_pos he
                    rw [hu, he]
                  · have hu : upd (upd B p (nI k)) p (nI (b p)) q = upd B p (nI k) q := if_neg he
                    have hu2 : upd B p (nI k) q = B q := if_neg he
                    rw [hu, hu2]
                    exact hI.1 q hq
              · omega
          · omega
        · omega
      · omega
  · omega
theorem c_Ref_putX {x y : Int32} (hS : xR_S D h r n fs b m bd pt tb tw cd) (hx : x < 0 ∨ nI (n * n) ≤ x) :
    xa_M l D H0 M_Ref_put 4 95 0 0 [.ref r, .int x, .int y] h sz (fun v h' sz' => v = some (.int (nI 0)) ∧ xR_S D h' r n fs b m bd pt tb tw 1 ∧ xR_F h h' r ∧ sz' = sz) := by
  obtain ⟨v, h0, e0, e3, e4, hc⟩ := hS.code
  refine xa_enter (by decide) rfl rfl ?_
  refine xa_aload_n d_Ref_put_0 rfl ?_
  refine xa_iload_n d_Ref_put_1 rfl ?_
  refine xa_callV (As := [.int x]) (st := []) d_Ref_put_2 k_Ref_118 h0 (c_Ref_noPointX hS hx) rfl rfl (Nat.le_of_ble_eq_true rfl) ⟨by decide, by decide⟩ (by decide) (by decide) (fun v' h1 sz' hq => ?_)
  obtain ⟨e1, hS1, hF1, e2⟩ := hq
  rw [e1, e2]
  refine xa_if_eqN (tgt := 10) d_Ref_put_5 (by decide) (by omega) (fun hz => ?_) (fun hz => ?_)
  · omega
  ·
    refine xa_iconst (v := nI 0) d_Ref_put_8 rfl ?_
    exact xa_zreturn (v := nI 0) d_Ref_put_9 rfl (by decide) (by decide) (by decide) ⟨rfl, hS1, hF1, rfl⟩
theorem c_Ref_putY {p : Nat} {y : Int32} (hS : xR_S D h r n fs b m bd pt tb tw cd) (hZ : xZ_I n fs b m bd pt tb tw) (hp : p < n * n) (hy : y < 0 ∨ nI 2 < y) :
    xa_M l D H0 M_Ref_put 4 95 0 0 [.ref r, .int (nI p), .int y] h sz (fun v h' sz' => v = some (.int (nI 0)) ∧ xR_S D h' r n fs b m bd pt tb tw 2 ∧ xR_F h h' r ∧ sz' = sz) := by
  obtain ⟨v0, h0, -⟩ := hS.code
  refine xa_enter (by decide) rfl rfl ?_
  refine xa_aload_n d_Ref_put_0 rfl ?_
  refine xa_iload_n d_Ref_put_1 rfl ?_
  refine xa_callV (As := [.int (nI p)]) (st := []) d_Ref_put_2 k_Ref_118 h0 (c_Ref_noPoint hS hZ.1.1 hp) rfl rfl (Nat.le_of_ble_eq_true rfl) ⟨by decide, by decide⟩ (by decide) (by decide) (fun v' h1 sz' hq => ?_)
  obtain ⟨e1, hS1, hF1, e2⟩ := hq
  rw [e1, e2]
  refine xa_if_eqN (tgt := 10) d_Ref_put_5 (by decide) (by omega) (fun hz => ?_) (fun hz => ?_)
  · obtain ⟨v, g0, -, f3, -, hc⟩ := hS1.code
    have go : xa_X l D H0 M_Ref_put (xa_rm 4 0 0 95) (xa_Zr D H0 0 0 (fun v h' sz' => v = some (.int (nI 0)) ∧ xR_S D h' r n fs b m bd pt tb tw 2 ∧ xR_F h h' r ∧ sz' = sz)) 0 0 h1 sz 20 [(0, .ref r)] [.ref r] := by
      refine xa_iconst (v := nI 2) d_Ref_put_20 rfl ?_
      refine xa_goto (tgt := 36) d_Ref_put_21 (by decide) ?_
      refine xa_putf f_Ref_65 d_Ref_put_36 g0 (Nat.le_of_ble_eq_true rfl) rfl rfl ?_
      refine xa_heap (h' := xa_u h1 r (xR_o r n (xh_up v 0 2))) rfl ?_
      have q0 : xa_u h1 r (xR_o r n (xh_up v 0 2)) r = some (xR_o r n (xh_up v 0 2)) := xa_u_eq _ _ _
      refine xa_aload_n d_Ref_put_39 rfl ?_
      refine xa_getf f_Ref_65 d_Ref_put_40 (by assumption) (by rfl) ?_
      refine xa_int (y := nI 2) rfl ?_
      refine xa_if_leN (tgt := 48) d_Ref_put_43 (by decide) (by omega) (fun hz4 => ?_) (fun hz4 => ?_)
      · omega
      ·
        refine xa_iconst (v := nI 0) d_Ref_put_46 rfl ?_
        exact xa_zreturn (v := nI 0) d_Ref_put_47 rfl (by decide) (by decide) (by decide) ⟨rfl, hc 2, fun q hq => xa_u_ne (hF1 q hq) (by omega), rfl⟩
    refine xa_aload_n d_Ref_put_10 rfl ?_
    refine xa_iload_n d_Ref_put_11 rfl ?_
    refine xa_if_lt (tgt := 20) d_Ref_put_12 (by decide) (fun hz1 => ?_) (fun hz1 => ?_)
    · exact xa_sl go ⟨rfl, trivial⟩
    ·
      refine xa_iload_n d_Ref_put_15 rfl ?_
      refine xa_iconst (v := nI 2) d_Ref_put_16 rfl ?_
      refine xa_icmp_le (tgt := 24) d_Ref_put_17 (by decide) (fun hz2 => ?_) (fun hz2 => ?_)
      · exact absurd hz2 (fun z => by
          rcases hy with hx | hx
          · exact hz1 hx
          · rw [i32_lt] at hx
            rw [Int32.le_iff_toInt_le] at z
            omega)
      · exact xa_sl go ⟨rfl, trivial⟩
  · omega
theorem c_Ref_putW {p k : Nat} (hS : xR_S D h r n fs b m bd pt tb tw cd) (hZ : xZ_I n fs b m bd pt tb tw) (hp : p < n * n) (hk : k ≤ 2) (hm : m ≠ 0) :
    xa_M l D H0 M_Ref_put 4 95 0 0 [.ref r, .int (nI p), .int (nI k)] h sz (fun v h' sz' => v = some (.int (nI 0)) ∧ xR_S D h' r n fs b m bd pt tb tw 3 ∧ xR_F h h' r ∧ sz' = sz) := by
  obtain ⟨v0, h0, -⟩ := hS.code
  have hm2 := hZ.1.2.2
  refine xa_enter (by decide) rfl rfl ?_
  refine xa_aload_n d_Ref_put_0 rfl ?_
  refine xa_iload_n d_Ref_put_1 rfl ?_
  refine xa_callV (As := [.int (nI p)]) (st := []) d_Ref_put_2 k_Ref_118 h0 (c_Ref_noPoint hS hZ.1.1 hp) rfl rfl (Nat.le_of_ble_eq_true rfl) ⟨by decide, by decide⟩ (by decide) (by decide) (fun v' h1 sz' hq => ?_)
  obtain ⟨e1, hS1, hF1, e2⟩ := hq
  rw [e1, e2]
  refine xa_if_eqN (tgt := 10) d_Ref_put_5 (by decide) (by omega) (fun hz => ?_) (fun hz => ?_)
  · obtain ⟨v, g0, -, f3, -, hc⟩ := hS1.code
    refine xa_aload_n d_Ref_put_10 rfl ?_
    refine xa_iload_n d_Ref_put_11 rfl ?_
    refine xa_if_lt (tgt := 20) d_Ref_put_12 (by decide) (fun hz1 => ?_) (fun hz1 => ?_)
    · exact absurd hz1 (nI_pos (by omega))
    ·
      refine xa_iload_n d_Ref_put_15 rfl ?_
      refine xa_iconst (v := nI 2) d_Ref_put_16 rfl ?_
      refine xa_icmp_leN (tgt := 24) d_Ref_put_17 (by decide) (by omega) (by omega) (fun hz2 => ?_) (fun hz2 => ?_)
      ·
        refine xa_aload_n d_Ref_put_24 rfl ?_
        refine xa_getf f_Ref_96 d_Ref_put_25 (by assumption) (by rfl) ?_
        refine xa_int (y := nI m) (by rw [f3]) ?_
        refine xa_if_leN (tgt := 35) d_Ref_put_28 (by decide) (by omega) (fun hz3 => ?_) (fun hz3 => ?_)
        · omega
        ·
          refine xa_iconst (v := nI 3) d_Ref_put_31 rfl ?_
          refine xa_goto (tgt := 36) d_Ref_put_32 (by decide) ?_
          refine xa_putf f_Ref_65 d_Ref_put_36 g0 (Nat.le_of_ble_eq_true rfl) rfl rfl ?_
          refine xa_heap (h' := xa_u h1 r (xR_o r n (xh_up v 0 3))) rfl ?_
          have q0 : xa_u h1 r (xR_o r n (xh_up v 0 3)) r = some (xR_o r n (xh_up v 0 3)) := xa_u_eq _ _ _
          refine xa_aload_n d_Ref_put_39 rfl ?_
          refine xa_getf f_Ref_65 d_Ref_put_40 (by assumption) (by rfl) ?_
          refine xa_int (y := nI 3) rfl ?_
          refine xa_if_leN (tgt := 48) d_Ref_put_43 (by decide) (by omega) (fun hz4 => ?_) (fun hz4 => ?_)
          · omega
          ·
            refine xa_iconst (v := nI 0) d_Ref_put_46 rfl ?_
            exact xa_zreturn (v := nI 0) d_Ref_put_47 rfl (by decide) (by decide) (by decide) ⟨rfl, hc 3, fun q hq => xa_u_ne (hF1 q hq) (by omega), rfl⟩
      · omega
  · omega
theorem w_Ref_string {Z : xa_Z} {p w : Nat} {v : Nat → Nat} {B IN : Nat → Int32} {F : Nat → Prop} {y : Nat} (hR : 3 ≤ R.frames ∧ 72 ≤ R.locals) (h0 : h r = some (xR_o r n v)) (h1 : h (r + 1) = some (.inl (D.1 100, 169, .inl B))) (h7 : h (r + 7) = some (.inl (D.1 102, 169, .inl IN))) (hn : 2 ≤ n ∧ n ≤ 13) (hBb : ∀ q, q < n * n → B q = nI (b q)) (hb : ∀ q, q < n * n → b q ≤ 2) (hI : ∀ q, q < n * n → (IN q = 1 ↔ gb_conn n (fun q => nI (b q)) p q)) (hI2 : ∀ q, q < n * n → IN q = 0 ∨ IN q = 1) (hw : w = 2 ∨ w = 3) (hF2 : w = 2 → ∀ q, F q ↔ gb_conn n (fun q => nI (b q)) p q) (hF3 : w = 3 → ∀ q, F q ↔ gt_br n (fun q => nI (b q)) p q) (hy : y < n * n ∧ F y)
    (kont : ∀ k, k < n * n → F k → (∀ q, q < k → ¬ F q) → xa_X l D H0 M_Ref_string R Z 0 0 h sz 117 [(3, .int (nI k))] []) (k : Nat) (hk : k ≤ y) (hno : ∀ q, q < k → ¬ F q) :
    xa_X l D H0 M_Ref_string R Z 0 0 h sz 82 [(0, .ref r), (2, .int (nI w)), (3, .int (nI k))] [] := by
  have hN : n * n ≤ 169 := Nat.mul_le_mul hn.2 hn.2
  have again : ¬ F k → xa_X l D H0 M_Ref_string R Z 0 0 h sz 111 [(0, .ref r), (2, .int (nI w)), (3, .int (nI k))] [] := fun hnF => by
    have hky : k ≠ y := fun z => hnF (by rw [z]; exact hy.2)
    refine xa_iincN d_Ref_string_111 rfl rfl rfl ?_
    refine xa_goto (tgt := 82) d_Ref_string_114 (by decide) ?_
    refine xa_ls ?_ (w_Ref_string hR h0 h1 h7 hn hBb hb hI hI2 hw hF2 hF3 hy kont (k + 1) (by omega) (fun q hq => ?_))
    · exact ⟨rfl, rfl, rfl, trivial⟩
    · by_cases he : q = k
      · rw [he]; exact hnF
      · exact hno q (by omega)
  refine xa_iload_n d_Ref_string_82 rfl ?_
  refine xa_iconst (v := nI 2) d_Ref_string_83 rfl ?_
  refine xa_icmp_neN (tgt := 99) d_Ref_string_84 (by decide) (by omega) (by omega) (fun hz => ?_) (fun hz => ?_)
  · have hw3 : w = 3 := by omega
    refine xa_aload_n d_Ref_string_99 rfl ?_
    refine xa_aload_n d_Ref_string_100 rfl ?_
    refine xa_getf f_Ref_7 d_Ref_string_101 (by assumption) (by rfl) ?_
    refine xa_iload_n d_Ref_string_104 rfl ?_
    refine xa_callV (As := [.ref (r + 1), .int (nI k)]) (st := []) d_Ref_string_105 k_Ref_75 h0 (c_Ref_isBreath (p := k) (x := p) h0 h7 hn h1 hBb hb (by omega) hI hI2) rfl rfl (Nat.le_of_ble_eq_true rfl) ⟨by have := hR.1; show 1 + 1 ≤ _; omega, by have := hR.2; show 8 + (6 + 11) + 24 ≤ _; omega⟩ (by omega) (by omega) (fun v' h' sz' hq => ?_)
    obtain ⟨hv, e2, e3⟩ := hq
    rw [e2, e3]
    rcases hv with ⟨hv, hbr⟩ | ⟨hv, hbr⟩
    · rw [hv]
      refine xa_int (y := nI 1) rfl ?_
      refine xa_if_neN (tgt := 117) d_Ref_string_108 (by decide) (by omega) (fun hz2 => ?_) (fun hz2 => ?_)
      · exact xa_sl (kont k (by omega) ((hF3 hw3 k).mpr hbr) hno) ⟨rfl, trivial⟩
      · omega
    · rw [hv]
      refine xa_int (y := nI 0) rfl ?_
      refine xa_if_neN (tgt := 117) d_Ref_string_108 (by decide) (by omega) (fun hz2 => ?_) (fun hz2 => ?_)
      · omega
      · exact again (fun z => hbr ((hF3 hw3 k).mp z))
  ·
    refine xa_aload_n d_Ref_string_87 rfl ?_
    refine xa_getf f_Ref_34 d_Ref_string_88 (by assumption) (by rfl) ?_
    refine xa_iload_n d_Ref_string_91 rfl ?_
    refine xa_zaldE d_Ref_string_92 h7 rfl (show k < 169 by omega) (by omega) rfl ?_
    refine xa_if_ne (tgt := 117) d_Ref_string_93 (by decide) (fun hz2 => ?_) (fun hz2 => ?_)
    · exact xa_sl (kont k (by omega) ((hF2 hz k).mpr ((hI k (by omega)).mp ((hI2 k (by omega)).resolve_left hz2))) hno) ⟨rfl, trivial⟩
    ·
      refine xa_goto (tgt := 111) d_Ref_string_96 (by decide) ?_
      refine again (fun z => ?_)
      have := (hI k (by omega)).mpr ((hF2 hz k).mp z)
      rw [hz2] at this
      exact absurd this (by decide)
termination_by y - k
decreasing_by omega
theorem c_Ref_string {p w : Nat} (hS : xR_S D h r n fs b m bd pt tb tw cd) (hZ : xZ_I n fs b m bd pt tb tw) (hp : p < n * n) (hw : w ≤ 3) :
    xa_M l D H0 M_Ref_string 3 72 0 0 [.ref r, .int (nI p), .int (nI w)] h sz (fun v h' sz' => (∃ x, v = some (.int x) ∧ gx_str n b p w x) ∧ xR_S D h' r n fs b m bd pt tb tw 0 ∧ xR_F h h' r ∧ sz' = sz) := by
  have hn := hZ.1.1
  have hN : n * n ≤ 169 := Nat.mul_le_mul hn.2 hn.2
  have hb := hZ.b2
  obtain ⟨v0, h0, -⟩ := hS.code
  refine xa_enter (by decide) rfl rfl ?_
  refine xa_aload_n d_Ref_string_0 rfl ?_
  refine xa_iload_n d_Ref_string_1 rfl ?_
  refine xa_callV (As := [.int (nI p)]) (st := []) d_Ref_string_2 k_Ref_118 h0 (c_Ref_noPoint hS hZ.1.1 hp) rfl rfl (Nat.le_of_ble_eq_true rfl) ⟨by decide, by decide⟩ (by decide) (by decide) (fun v' h1 sz' hq => ?_)
  obtain ⟨e1, hS1, hF1, e2⟩ := hq
  rw [e1, e2]
  refine xa_if_eqN (tgt := 10) d_Ref_string_5 (by decide) (by omega) (fun hz => ?_) (fun hz => ?_)
  · obtain ⟨v, B, SD, MV, TB, TW, hA, ⟨f0, f3, f4⟩, hI⟩ := id hS1
    have g0 := hA.1
    refine xa_aload_n d_Ref_string_10 rfl ?_
    refine xa_iload_n d_Ref_string_11 rfl ?_
    refine xa_if_lt (tgt := 20) d_Ref_string_12 (by decide) (fun hz1 => ?_) (fun hz1 => ?_)
    · exact absurd hz1 (nI_pos (by omega))
    ·
      refine xa_iload_n d_Ref_string_15 rfl ?_
      refine xa_iconst (v := nI 3) d_Ref_string_16 rfl ?_
      refine xa_icmp_leN (tgt := 24) d_Ref_string_17 (by decide) (by omega) (by omega) (fun hz2 => ?_) (fun hz2 => ?_)
      ·
        refine xa_iconst (v := nI 0) d_Ref_string_24 rfl ?_
        have hA1 := hA.o (xh_up v 0 0)
        refine xa_putf f_Ref_65 d_Ref_string_25 hA.1 (Nat.le_of_ble_eq_true rfl) rfl rfl ?_
        refine xa_heap (h' := xa_u h1 r (xR_o r n (xh_up v 0 0))) rfl ?_
        have q0 := hA1.1
        have hFa : ∀ q, q < r ∨ r + 15 ≤ q → xa_u h1 r (xR_o r n (xh_up v 0 0)) q = h q := fun q hq => xa_u_ne (hF1 q hq) (by omega)
        have w3 : (xh_up v 0 0) 3 = m := f3
        have w0 : (xh_up v 0 0) 0 = 0 := rfl
        have w4 : (xh_up v 0 0) 4 = fs := f4
        refine xa_aload_n d_Ref_string_28 rfl ?_
        refine xa_getf f_Ref_65 d_Ref_string_29 (by assumption) (by rfl) ?_
        refine xa_int (y := nI 0) rfl ?_
        generalize xh_up v 0 0 = x at *
        generalize hHe : xa_u h1 r (xR_o r n x) = h2 at *
        clear hHe
        refine xa_if_leN (tgt := 37) d_Ref_string_32 (by decide) (by omega) (fun hz4 => ?_) (fun hz4 => ?_)
        ·
          refine xa_aload_n d_Ref_string_37 rfl ?_
          refine xa_getf f_Ref_7 d_Ref_string_38 (by assumption) (by rfl) ?_
          refine xa_iload_n d_Ref_string_41 rfl ?_
          refine xa_ialdE d_Ref_string_42 hA1.2.1 rfl (show p < 169 by omega) (by omega) (hI.1 p hp) ?_
          have hbp := hb p hp
          refine xa_if_neN (tgt := 48) d_Ref_string_43 (by decide) (by omega) (fun hz5 => ?_) (fun hz5 => ?_)
          · obtain ⟨-, qb, -, -, -, -, TR, IN, RW, -, -, -, -, -, -, -, a7, a8, -⟩ := id hA1
            refine xa_aload_n d_Ref_string_48 rfl ?_
            refine xa_aload_n d_Ref_string_49 rfl ?_
            refine xa_getf f_Ref_7 d_Ref_string_50 (by assumption) (by rfl) ?_
            refine xa_iload_n d_Ref_string_53 rfl ?_
            refine xa_callV (As := [.ref (r + 1), .int (nI p)]) (st := []) d_Ref_string_54 k_Ref_82 q0 (c_Ref_gather q0 a7 a8 hn (Or.inl rfl) qb hI.1 hp) rfl rfl (Nat.le_of_ble_eq_true rfl) ⟨by decide, by decide⟩ (by decide) (by decide) (fun v' h' sz' hq => ?_)
            obtain ⟨IN', RW', rr, e', hG, e1, e2, e3⟩ := hq
            rw [e1, e2, e3]
            obtain ⟨g1, g2, g3, g4, g5, g6⟩ := id hG
            have hA2 := hA1.G (IN := IN') (RW := RW') (e := e')
            have q7 : xG_h D h2 r n x IN' RW' e' (r + 7) = some (.inl (D.1 102, 169, .inl IN')) := xG_7
            have q1 : xG_h D h2 r n x IN' RW' e' r = some (xR_o r n (xh_up x 5 e')) := xG_0
            have hS2 : xR_S D (xG_h D h2 r n x IN' RW' e') r n fs b m bd pt tb tw 0 := ⟨xh_up x 5 e', B, SD, MV, TB, TW, hA2, ⟨w0, w3, w4⟩, hI⟩
            have hFc : ∀ q, q < r ∨ r + 15 ≤ q → xG_h D h2 r n x IN' RW' e' q = h q := fun q hq => (xG_n (by omega) (by omega) (by omega)).trans (hFa q hq)
            have hbp0 : b p ≠ 0 := by omega
            refine xa_iload_n d_Ref_string_57 rfl ?_
            refine xa_if_neN (tgt := 66) d_Ref_string_58 (by decide) (by omega) (fun hw0 => ?_) (fun hw0 => ?_)
            ·
              refine xa_iload_n d_Ref_string_66 rfl ?_
              refine xa_iconst (v := nI 1) d_Ref_string_67 rfl ?_
              refine xa_icmp_neN (tgt := 80) d_Ref_string_68 (by decide) (by omega) (by omega) (fun hw1 => ?_) (fun hw1 => ?_)
              ·
                refine xa_iconst (v := nI 0) d_Ref_string_80 rfl ?_
                refine xa_istore_n d_Ref_string_81 rfl rfl ?_
                have hconn : ∃ y, y < n * n ∧ gb_conn n (fun q => nI (b q)) p y := ⟨p, hp, gb_conn_rf⟩
                have hbrt : ∃ y, y < n * n ∧ gt_br n (fun q => nI (b q)) p y := gb_cnt_ex (hZ.br p hp hbp0)
                by_cases hw2 : w = 2
                · obtain ⟨y, hy⟩ := hconn
                  refine xa_ls ?_ (w_Ref_string (b := b) (p := p) (F := gb_conn n (fun q => nI (b q)) p) ⟨by decide, by decide⟩ q1 hA2.2.1 q7 hn hI.1 hb g1 g2 (Or.inl hw2) (fun _ q => Iff.rfl) (fun z => by omega) hy (fun k hk hF hno => ?_) 0 (by omega) (fun q hq => absurd hq (Nat.not_lt_zero _)))
                  · exact ⟨rfl, rfl, rfl, trivial⟩
                  ·
                    refine xa_iload_n d_Ref_string_117 rfl ?_
                    exact xa_ireturn d_Ref_string_118 rfl (by decide) (by decide) ⟨⟨_, rfl, Or.inr ⟨hbp0, Or.inr (Or.inr (Or.inl ⟨hw2, k, rfl, by omega, fun q hq => Nat.le_of_not_lt (fun z => hno q z hq), fun _ => hF⟩))⟩⟩, hS2, hFc, rfl⟩
                · obtain ⟨y, hy⟩ := hbrt
                  have hw3 : w = 3 := by omega
                  refine xa_ls ?_ (w_Ref_string (b := b) (p := p) (F := gt_br n (fun q => nI (b q)) p) ⟨by decide, by decide⟩ q1 hA2.2.1 q7 hn hI.1 hb g1 g2 (Or.inr hw3) (fun z => by omega) (fun _ q => Iff.rfl) hy (fun k hk hF hno => ?_) 0 (by omega) (fun q hq => absurd hq (Nat.not_lt_zero _)))
                  · exact ⟨rfl, rfl, rfl, trivial⟩
                  ·
                    refine xa_iload_n d_Ref_string_117 rfl ?_
                    exact xa_ireturn d_Ref_string_118 rfl (by decide) (by decide) ⟨⟨_, rfl, Or.inr ⟨hbp0, Or.inr (Or.inr (Or.inr ⟨hw3, k, rfl, by omega, fun q hq => Nat.le_of_not_lt (fun z => hno q z hq), fun _ => hF⟩))⟩⟩, hS2, hFc, rfl⟩
              ·
                refine xa_aload_n d_Ref_string_71 rfl ?_
                refine xa_aload_n d_Ref_string_72 rfl ?_
                refine xa_getf f_Ref_7 d_Ref_string_73 (by assumption) (by rfl) ?_
                refine xa_callVr (As := [.ref (r + 1)]) (st := []) d_Ref_string_76 k_Ref_86 q1 (c_Ref_breaths (x := p) q1 q7 hn hA2.2.1 hI.1 hb g1 g2) rfl rfl (Nat.le_of_ble_eq_true rfl) ⟨by decide, by decide⟩ (by decide) (by decide) ?_
                exact xa_ireturn d_Ref_string_79 rfl (by decide) (by decide) ⟨⟨_, rfl, Or.inr ⟨hbp0, Or.inr (Or.inl ⟨hw1, rfl⟩)⟩⟩, hS2, hFc, rfl⟩
            ·
              refine xa_aload_n d_Ref_string_61 rfl ?_
              refine xa_getf f_Ref_68 d_Ref_string_62 (by assumption) (by rfl) ?_
              refine xa_int (y := nI e') rfl ?_
              exact xa_ireturn d_Ref_string_65 rfl (by decide) (by decide) ⟨⟨_, rfl, Or.inr ⟨hbp0, Or.inl ⟨hw0, by rw [g6]⟩⟩⟩, hS2, hFc, rfl⟩
          ·
            refine xa_iconst (v := -1) d_Ref_string_46 rfl ?_
            exact xa_ireturn d_Ref_string_47 rfl (by decide) (by decide) ⟨⟨_, rfl, Or.inl ⟨hz5, rfl⟩⟩, ⟨x, B, SD, MV, TB, TW, hA1, ⟨w0, w3, w4⟩, hI⟩, hFa, rfl⟩
        · omega
      · omega
  · omega
theorem c_Ref_stringX {x y : Int32} (hS : xR_S D h r n fs b m bd pt tb tw cd) (hx : x < 0 ∨ nI (n * n) ≤ x) :
    xa_M l D H0 M_Ref_string 3 72 0 0 [.ref r, .int x, .int y] h sz (fun v h' sz' => v = some (.int (nI 0)) ∧ xR_S D h' r n fs b m bd pt tb tw 1 ∧ xR_F h h' r ∧ sz' = sz) := by
  obtain ⟨v, h0, e0, e3, e4, hc⟩ := hS.code
  refine xa_enter (by decide) rfl rfl ?_
  refine xa_aload_n d_Ref_string_0 rfl ?_
  refine xa_iload_n d_Ref_string_1 rfl ?_
  refine xa_callV (As := [.int x]) (st := []) d_Ref_string_2 k_Ref_118 h0 (c_Ref_noPointX hS hx) rfl rfl (Nat.le_of_ble_eq_true rfl) ⟨by decide, by decide⟩ (by decide) (by decide) (fun v' h1 sz' hq => ?_)
  obtain ⟨e1, hS1, hF1, e2⟩ := hq
  rw [e1, e2]
  refine xa_if_eqN (tgt := 10) d_Ref_string_5 (by decide) (by omega) (fun hz => ?_) (fun hz => ?_)
  · omega
  ·
    refine xa_iconst (v := nI 0) d_Ref_string_8 rfl ?_
    exact xa_ireturn d_Ref_string_9 rfl (by decide) (by decide) ⟨rfl, hS1, hF1, rfl⟩
theorem c_Ref_stringY {p : Nat} {y : Int32} (hS : xR_S D h r n fs b m bd pt tb tw cd) (hZ : xZ_I n fs b m bd pt tb tw) (hp : p < n * n) (hy : y < 0 ∨ nI 3 < y) :
    xa_M l D H0 M_Ref_string 3 72 0 0 [.ref r, .int (nI p), .int y] h sz (fun v h' sz' => v = some (.int (nI 0)) ∧ xR_S D h' r n fs b m bd pt tb tw 2 ∧ xR_F h h' r ∧ sz' = sz) := by
  obtain ⟨v0, h0, -⟩ := hS.code
  refine xa_enter (by decide) rfl rfl ?_
  refine xa_aload_n d_Ref_string_0 rfl ?_
  refine xa_iload_n d_Ref_string_1 rfl ?_
  refine xa_callV (As := [.int (nI p)]) (st := []) d_Ref_string_2 k_Ref_118 h0 (c_Ref_noPoint hS hZ.1.1 hp) rfl rfl (Nat.le_of_ble_eq_true rfl) ⟨by decide, by decide⟩ (by decide) (by decide) (fun v' h1 sz' hq => ?_)
  obtain ⟨e1, hS1, hF1, e2⟩ := hq
  rw [e1, e2]
  refine xa_if_eqN (tgt := 10) d_Ref_string_5 (by decide) (by omega) (fun hz => ?_) (fun hz => ?_)
  · obtain ⟨v, g0, -, f3, -, hc⟩ := hS1.code
    have go : xa_X l D H0 M_Ref_string (xa_rm 3 0 0 72) (xa_Zr D H0 0 0 (fun v h' sz' => v = some (.int (nI 0)) ∧ xR_S D h' r n fs b m bd pt tb tw 2 ∧ xR_F h h' r ∧ sz' = sz)) 0 0 h1 sz 20 [(0, .ref r)] [.ref r] := by
      refine xa_iconst (v := nI 2) d_Ref_string_20 rfl ?_
      refine xa_goto (tgt := 25) d_Ref_string_21 (by decide) ?_
      refine xa_putf f_Ref_65 d_Ref_string_25 g0 (Nat.le_of_ble_eq_true rfl) rfl rfl ?_
      refine xa_heap (h' := xa_u h1 r (xR_o r n (xh_up v 0 2))) rfl ?_
      have q0 : xa_u h1 r (xR_o r n (xh_up v 0 2)) r = some (xR_o r n (xh_up v 0 2)) := xa_u_eq _ _ _
      refine xa_aload_n d_Ref_string_28 rfl ?_
      refine xa_getf f_Ref_65 d_Ref_string_29 (by assumption) (by rfl) ?_
      refine xa_int (y := nI 2) rfl ?_
      refine xa_if_leN (tgt := 37) d_Ref_string_32 (by decide) (by omega) (fun hz4 => ?_) (fun hz4 => ?_)
      · omega
      ·
        refine xa_iconst (v := nI 0) d_Ref_string_35 rfl ?_
        exact xa_ireturn d_Ref_string_36 rfl (by decide) (by decide) ⟨rfl, hc 2, fun q hq => xa_u_ne (hF1 q hq) (by omega), rfl⟩
    refine xa_aload_n d_Ref_string_10 rfl ?_
    refine xa_iload_n d_Ref_string_11 rfl ?_
    refine xa_if_lt (tgt := 20) d_Ref_string_12 (by decide) (fun hz1 => ?_) (fun hz1 => ?_)
    · exact xa_sl go ⟨rfl, trivial⟩
    ·
      refine xa_iload_n d_Ref_string_15 rfl ?_
      refine xa_iconst (v := nI 3) d_Ref_string_16 rfl ?_
      refine xa_icmp_le (tgt := 24) d_Ref_string_17 (by decide) (fun hz2 => ?_) (fun hz2 => ?_)
      · exact absurd hz2 (fun z => by
          rcases hy with hx | hx
          · exact hz1 hx
          · rw [i32_lt] at hx
            rw [Int32.le_iff_toInt_le] at z
            omega)
      · exact xa_sl go ⟨rfl, trivial⟩
  · omega
end RB
