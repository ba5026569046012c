/-! Chart.draw. -/
def xd_h (D : va_G) (h : xa_H) (ch g N c : Nat) (A O S BR LB HO CB : Nat → Int32) : xa_H := xa_u (xa_u (xa_u (xa_u (xt_h D h (ch + 1) g (ch + 2) (ch + 3) (ch + 4) N c A O S) (ch + 5) (.inl (D.1 100, N, .inl BR))) (ch + 6) (.inl (D.1 100, N, .inl LB))) (ch + 7) (.inl (D.1 100, N, .inl HO))) (ch + 8) (.inl (D.1 100, N, .inl CB))
section DH
variable {D : va_G} {h : xa_H} {ch g N c : Nat} {A O S BR LB HO CB : Nat → Int32}
theorem xd_hn {q : Nat} {e : Option va_E} (hq : h q = e) (h1 : q ≤ ch ∨ ch + 9 ≤ q) : xd_h D h ch g N c A O S BR LB HO CB q = e := xa_u_ne (xa_u_ne (xa_u_ne (xa_u_ne (xt_hn hq (by omega) (by omega) (by omega) (by omega)) (by omega)) (by omega)) (by omega)) (by omega)
theorem xd_h8 : xd_h D h ch g N c A O S BR LB HO CB (ch + 8) = some (.inl (D.1 100, N, .inl CB)) := xa_u_eq _ _ _
theorem xd_h7 : xd_h D h ch g N c A O S BR LB HO CB (ch + 7) = some (.inl (D.1 100, N, .inl HO)) := xa_u_ne (xa_u_eq _ _ _) (by omega)
theorem xd_h6 : xd_h D h ch g N c A O S BR LB HO CB (ch + 6) = some (.inl (D.1 100, N, .inl LB)) := xa_u_ne (xa_u_ne (xa_u_eq _ _ _) (by omega)) (by omega)
theorem xd_h5 : xd_h D h ch g N c A O S BR LB HO CB (ch + 5) = some (.inl (D.1 100, N, .inl BR)) := xa_u_ne (xa_u_ne (xa_u_ne (xa_u_eq _ _ _) (by omega)) (by omega)) (by omega)
theorem xd_hx {q : Nat} {e : Option va_E} (hq : xt_h D h (ch + 1) g (ch + 2) (ch + 3) (ch + 4) N c A O S q = e) (h1 : q ≤ ch + 4) : xd_h D h ch g N c A O S BR LB HO CB q = e := xa_u_ne (xa_u_ne (xa_u_ne (xa_u_ne hq (by omega)) (by omega)) (by omega)) (by omega)
theorem xd_uH (HO' : Nat → Int32) : xa_u (xd_h D h ch g N c A O S BR LB HO CB) (ch + 7) (.inl (D.1 100, N, .inl HO')) = xd_h D h ch g N c A O S BR LB HO' CB := xa_uc _ (by omega) _ _ _
theorem xd_uB (CB' BR' LB' : Nat → Int32) : xc_h D (xd_h D h ch g N c A O S BR LB HO CB) N ch CB' BR' LB' = xd_h D h ch g N c A O S BR' LB' HO CB' := by
  funext q
  unfold xc_h xd_h xa_u
  by_cases k1 : q = ch + 8
  · subst k1; simp
  · by_cases k2 : q = ch + 5
    · subst k2; simp
    · by_cases k3 : q = ch + 6
      · subst k3; simp
      · simp [k1, k2, k3]
theorem xd_0 (h5 : h (ch + 5) = some (.inl (D.1 100, N, .inl BR))) (h6 : h (ch + 6) = some (.inl (D.1 100, N, .inl LB))) (h7 : h (ch + 7) = some (.inl (D.1 100, N, .inl HO))) : xa_u (xt_h D h (ch + 1) g (ch + 2) (ch + 3) (ch + 4) N c A O S) (ch + 8) (.inl (D.1 100, N, .inl CB)) = xd_h D h ch g N c A O S BR LB HO CB := by
  unfold xd_h
  rw [xa_us _ (xt_hn h5 (by omega) (by omega) (by omega) (by omega)), xa_us _ (xt_hn h6 (by omega) (by omega) (by omega) (by omega)), xa_us _ (xt_hn h7 (by omega) (by omega) (by omega) (by omega))]
end DH
/-- what is known of an area -/
def xd_A (n : Nat) (b : Nat → Nat) (o s : Nat → Nat) (BR LB HO : Nat → Int32) (a : Nat) : Prop :=
  (b (o (s a)) = 0 → HO a = nI (gc_hold n b (o (s a)))) ∧ (b (o (s a)) ≠ 0 → HO a = nI (b (o (s a))) ∧ BR a = nI (gb_cnt (gt_br n (fun q => nI (b q)) (o (s a))) (n * n)) ∧ ∃ m, LB a = nI m ∧ gc_least (n * n) (gt_br n (fun q => nI (b q)) (o (s a))) m)
section DR
variable {l : Launch} {D : va_G} {H0 : Heap} {h : xa_H} {sz : Nat} {R : Room}
theorem xd_R {n ch g aK c : Nat} {f A O S BR LB HO CB : Nat → Int32} {b : Nat → Nat} (hc : h ch = some (.inr (2, [.ref (ch + 1), .ref g, .ref aK, .ref (ch + 5), .ref (ch + 6), .ref (ch + 7), .ref (ch + 8)]))) (hg : h g = some (.inr (3, [.int (nI (n * n)), .ref (g + 1)]))) (hag : h (g + 1) = some (.inl (D.1 100, 4 * (n * n), .inl f))) (hK : h aK = some (.inl (D.1 100, n * n, .inl (fun q => nI (b q))))) (hlt : g + 1 < ch ∧ aK < ch) (hN : n * n < 1000) (hf : ∀ q w, q < n * n → w < 4 → f (4 * q + w) = gb_oi (gb_nb n q w)) (hb : ∀ q, q < n * n → b q ≤ 2) :
    xc_R D (xd_h D h ch g (n * n) c A O S BR LB HO CB) n ch g aK c f A O S b :=
  ⟨xd_hn hc (by omega), xd_hx xt_ha (by omega), xd_hx (xt_hA (by omega) (by omega) (by omega)) (by omega), xd_hx (xt_hO (by omega) (by omega)) (by omega), xd_hx (xt_hS (by omega)) (by omega), xd_hn hg (by omega), xd_hn hag (by omega), xd_hn hK (by omega), hN, hf, hb⟩
theorem w_draw {n ch g aK c : Nat} {f A O S : Nat → Int32} {b ar o s : Nat → Nat} (hR : 2 ≤ R.frames ∧ 48 ≤ R.locals) (hc : h ch = some (.inr (2, [.ref (ch + 1), .ref g, .ref aK, .ref (ch + 5), .ref (ch + 6), .ref (ch + 7), .ref (ch + 8)]))) (hg : h g = some (.inr (3, [.int (nI (n * n)), .ref (g + 1)]))) (hag : h (g + 1) = some (.inl (D.1 100, 4 * (n * n), .inl f))) (hK : h aK = some (.inl (D.1 100, n * n, .inl (fun q => nI (b q))))) (hlt : g + 1 < ch ∧ aK < ch) (hN : n * n < 1000) (hf : ∀ q w, q < n * n → w < 4 → f (4 * q + w) = gb_oi (gb_nb n q w)) (hb : ∀ q, q < n * n → b q ≤ 2)
    (hW : xt_W n (fun q => nI (b q)) c ar o s A O S) (q : Nat) (BR LB HO CB : Nat → Int32) (hq : q ≤ c) (hI : ∀ a, a < q → xd_A n b o s BR LB HO a) (hC : ∀ x, x < n * n → CB x = -1 ∨ ∃ a, a < q ∧ CB x = nI a) :
    xa_X l D H0 M_Chart_draw R (xa_Zr D H0 0 0 (fun v h' sz' => ∃ (c : Nat) (ar o s : Nat → Nat) (A O S BR LB HO CB : Nat → Int32), xt_W n (fun q => nI (b q)) c ar o s A O S ∧ (∀ a, a < c → xd_A n b o s BR LB HO a) ∧ v = none ∧ h' = xd_h D h ch g (n * n) c A O S BR LB HO CB ∧ sz' = sz)) 0 0 (xd_h D h ch g (n * n) c A O S BR LB HO CB) sz 21 [(0, .ref ch), (1, .int (nI q))] [] := by
  have hr : xc_R D (xd_h D h ch g (n * n) c A O S BR LB HO CB) n ch g aK c f A O S b := xd_R hc hg hag hK hlt hN hf hb
  obtain ⟨r1, r2, r3, r4, r5, r6, r7, r8, -⟩ := id hr
  obtain ⟨w1, w2, w3, w4⟩ := id hW
  have hcN : c ≤ n * n := w1.2.2.2.2.2.2.2.2.2.2
  refine xa_iload_n d_Chart_draw_21 rfl ?_
  refine xa_aload_n d_Chart_draw_22 rfl ?_
  refine xa_getf f_Chart_24 d_Chart_draw_23 (by assumption) (by rfl) ?_
  refine xa_getf f_Chart_59 d_Chart_draw_26 (by assumption) (by rfl) ?_
  refine xa_icmp_geN (tgt := 84) d_Chart_draw_29 (by decide) (by omega) (by omega) (fun hb4 => ?_) (fun hb4 => ?_)
  · have hqc : q = c := by omega
    subst hqc
    exact xa_return d_Chart_draw_84 rfl (by omega) (by omega) ⟨q, ar, o, s, A, O, S, BR, LB, HO, CB, hW, hI, rfl, rfl, rfl⟩
  · obtain ⟨a1, a2, a3, a4, a5⟩ := gs_W_area w1 hb4
    have hnext : ∀ (BR' LB' HO' CB' : Nat → Int32), (∀ a, a < q → BR' a = BR a ∧ LB' a = LB a ∧ HO' a = HO a) → xd_A n b o s BR' LB' HO' q → (∀ x, x < n * n → CB' x = CB x ∨ CB' x = nI q) → xa_X l D H0 M_Chart_draw R (xa_Zr D H0 0 0 (fun v h' sz' => ∃ (c : Nat) (ar o s : Nat → Nat) (A O S BR LB HO CB : Nat → Int32), xt_W n (fun q => nI (b q)) c ar o s A O S ∧ (∀ a, a < c → xd_A n b o s BR LB HO a) ∧ v = none ∧ h' = xd_h D h ch g (n * n) c A O S BR LB HO CB ∧ sz' = sz)) 0 0 (xd_h D h ch g (n * n) c A O S BR' LB' HO' CB') sz 78 [(0, .ref ch), (1, .int (nI q))] [] := by
      intro BR' LB' HO' CB' hs hA hC'
      refine xa_iincN d_Chart_draw_78 rfl rfl rfl ?_
      refine xa_goto (tgt := 21) d_Chart_draw_81 (by decide) ?_
      refine xa_ls ?_ (w_draw hR hc hg hag hK hlt hN hf hb hW (q + 1) BR' LB' HO' CB' (by omega) (fun a ha => ?_) (fun x hx => ?_))
      · exact ⟨rfl, rfl, trivial⟩
      · by_cases haq : a = q
        · rw [haq]; exact hA
        · obtain ⟨e1, e2, e3⟩ := hs a (by omega)
          have := hI a (by omega)
          unfold xd_A at this ⊢
          rw [e1, e2, e3]
          exact this
      · rcases hC' x hx with e | e
        · rw [e]
          rcases hC x hx with e1 | ⟨a, e1, e2⟩
          · exact Or.inl e1
          · exact Or.inr ⟨a, by omega, e2⟩
        · exact Or.inr ⟨q, by omega, e⟩
    refine xa_aload_n d_Chart_draw_32 rfl ?_
    refine xa_iload_n d_Chart_draw_33 rfl ?_
    refine xa_callVr (As := [.int (nI q)]) (st := []) d_Chart_draw_34 k_Chart_60 r1 (c_Chart_isFree hr hW hb4) rfl rfl (Nat.le_of_ble_eq_true rfl) ⟨hR.1, by have := hR.2; show 8 + (2 + 11) + 21 ≤ _; omega⟩ (by omega) (by omega) ?_
    by_cases h0 : b (o (s q)) = 0
    · refine xa_int (show (if b (o (s q)) = 0 then (1 : Int32) else 0) = nI 1 from by rw [if_pos h0]; rfl) ?_
      refine xa_if_eqN (tgt := 54) d_Chart_draw_37 (by decide) (by omega) (fun hz => ?_) (fun hz => ?_)
      · omega
      ·
        refine xa_aload_n d_Chart_draw_40 rfl ?_
        refine xa_getf f_Chart_40 d_Chart_draw_41 (by assumption) (by rfl) ?_
        refine xa_iload_n d_Chart_draw_44 rfl ?_
        refine xa_aload_n d_Chart_draw_45 rfl ?_
        refine xa_iload_n d_Chart_draw_46 rfl ?_
        refine xa_callVr (As := [.int (nI q)]) (st := [.int (nI q), .ref (ch + 7)]) d_Chart_draw_47 k_Chart_64 r1 (c_Chart_findHolder hr hW hb4) rfl rfl (Nat.le_of_ble_eq_true rfl) ⟨hR.1, by have := hR.2; show 8 + (6 + 11) + 22 ≤ _; omega⟩ (by omega) (by omega) ?_
        refine xa_iastE d_Chart_draw_50 xd_h7 rfl (by omega) (by omega) ?_
        rw [xd_uH]
        refine xa_goto (tgt := 78) d_Chart_draw_51 (by decide) ?_
        exact hnext BR LB _ CB (fun a ha => ⟨rfl, rfl, by simp only [upd, if_neg (show ¬ a = q by omega)]⟩) ⟨fun _ => by simp [upd], fun z => absurd h0 z⟩ (fun x hx => Or.inl rfl)
    · refine xa_int (show (if b (o (s q)) = 0 then (1 : Int32) else 0) = nI 0 from by rw [if_neg h0]; rfl) ?_
      refine xa_if_eqN (tgt := 54) d_Chart_draw_37 (by decide) (by omega) (fun hz => ?_) (fun hz => ?_)
      ·
        refine xa_aload_n d_Chart_draw_54 rfl ?_
        refine xa_getf f_Chart_40 d_Chart_draw_55 (by assumption) (by rfl) ?_
        refine xa_iload_n d_Chart_draw_58 rfl ?_
        refine xa_aload_n d_Chart_draw_59 rfl ?_
        refine xa_getf f_Chart_15 d_Chart_draw_60 (by assumption) (by rfl) ?_
        refine xa_aload_n d_Chart_draw_63 rfl ?_
        refine xa_getf f_Chart_24 d_Chart_draw_64 (by assumption) (by rfl) ?_
        refine xa_iload_n d_Chart_draw_67 rfl ?_
        refine xa_callVr (As := [.int (nI q)]) (st := [.ref aK, .int (nI q), .ref (ch + 7)]) d_Chart_draw_68 k_Chart_68 r2 (c_Areas_leastOf (o := o) (s := s) r2 r4 r5 hN (by omega) (w4 q (by omega)) a1 (w3 _ a1)) rfl rfl (Nat.le_of_ble_eq_true rfl) ⟨by have := hR.1; show 0 + 1 ≤ _; omega, by have := hR.2; show 8 + (2 + 11) + 0 ≤ _; omega⟩ (by omega) (by omega) ?_
        refine xa_ialdE (j := o (s q)) d_Chart_draw_71 r8 rfl a3 (by omega) rfl ?_
        refine xa_iastE d_Chart_draw_72 xd_h7 rfl (by omega) (by omega) ?_
        rw [xd_uH]
        have hr2 : xc_R D (xd_h D h ch g (n * n) c A O S BR LB (upd HO q (nI (b (o (s q))))) CB) n ch g aK c f A O S b := xd_R hc hg hag hK hlt hN hf hb
        refine xa_aload_n d_Chart_draw_73 rfl ?_
        refine xa_iload_n d_Chart_draw_74 rfl ?_
        refine xa_callV (As := [.int (nI q)]) (st := []) d_Chart_draw_75 k_Chart_71 hr2.1 (c_Chart_countBreaths hr2 hlt xd_h5 xd_h6 xd_h8 hW hb4 (fun x hx z => ?_)) rfl rfl (Nat.le_of_ble_eq_true rfl) ⟨by have := hR.1; show 1 + 1 ≤ _; omega, by have := hR.2; show 8 + (7 + 11) + 22 ≤ _; omega⟩ (by omega) (by omega) (fun v h' sz' hq' => ?_)
        · rcases hC x hx with e1 | ⟨a, e1, e2⟩
          · exact gb_m1 (show q < 2 ^ 31 by omega) (z.symm.trans e1)
          · have := (nI_eq (by omega) (by omega)).mp (z.symm.trans e2); omega
        · obtain ⟨CB', m, g1, g2, g3, g4, g5⟩ := hq'
          rw [g3, g4, g5, xd_uB]
          exact hnext _ _ _ CB' (fun a ha => ⟨by simp only [upd, if_neg (show ¬ a = q by omega)], by simp only [upd, if_neg (show ¬ a = q by omega)], by simp only [upd, if_neg (show ¬ a = q by omega)]⟩) ⟨fun z => absurd z h0, fun _ => ⟨by simp [upd], by simp [upd], m, by simp [upd], g2⟩⟩ g1
      · omega
termination_by c - q
decreasing_by omega
theorem c_Chart_draw {n ch g aK c : Nat} {f A O S BR LB HO CB : Nat → Int32} {b : Nat → Nat} (hc : h ch = some (.inr (2, [.ref (ch + 1), .ref g, .ref aK, .ref (ch + 5), .ref (ch + 6), .ref (ch + 7), .ref (ch + 8)]))) (ha : h (ch + 1) = some (.inr (1, [.int (nI c), .ref g, .ref (ch + 2), .ref (ch + 3), .ref (ch + 4)]))) (hA : h (ch + 2) = some (.inl (D.1 100, n * n, .inl A))) (hO : h (ch + 3) = some (.inl (D.1 100, n * n, .inl O))) (hS : h (ch + 4) = some (.inl (D.1 100, n * n + 1, .inl S))) (h5 : h (ch + 5) = some (.inl (D.1 100, n * n, .inl BR))) (h6 : h (ch + 6) = some (.inl (D.1 100, n * n, .inl LB))) (h7 : h (ch + 7) = some (.inl (D.1 100, n * n, .inl HO))) (h8 : h (ch + 8) = some (.inl (D.1 100, n * n, .inl CB)))
    (hg : h g = some (.inr (3, [.int (nI (n * n)), .ref (g + 1)]))) (hag : h (g + 1) = some (.inl (D.1 100, 4 * (n * n), .inl f))) (hK : h aK = some (.inl (D.1 100, n * n, .inl (fun q => nI (b q))))) (hlt : g + 1 < ch ∧ aK < ch) (hN : n * n < 1000) (hf : ∀ q w, q < n * n → w < 4 → f (4 * q + w) = gb_oi (gb_nb n q w)) (hb : ∀ q, q < n * n → b q ≤ 2) :
    xa_M l D H0 M_Chart_draw 3 72 0 0 [.ref ch] h sz (fun v h' sz' => ∃ (c : Nat) (ar o s : Nat → Nat) (A O S BR LB HO CB : Nat → Int32), xt_W n (fun q => nI (b q)) c ar o s A O S ∧ (∀ a, a < c → xd_A n b o s BR LB HO a) ∧ v = none ∧ h' = xd_h D h ch g (n * n) c A O S BR LB HO CB ∧ sz' = sz) := by
  refine xa_enter (by decide) rfl rfl ?_
  refine xa_aload_n d_Chart_draw_0 rfl ?_
  refine xa_getf f_Chart_24 d_Chart_draw_1 (by assumption) (by rfl) ?_
  refine xa_aload_n d_Chart_draw_4 rfl ?_
  refine xa_getf f_Chart_15 d_Chart_draw_5 (by assumption) (by rfl) ?_
  refine xa_callV (As := [.ref aK]) (st := []) d_Chart_draw_8 k_Chart_49 ha (c_Areas_split (a := ch + 1) ha hg hag hK hA hO hS (by omega) hN hf) rfl rfl (Nat.le_of_ble_eq_true rfl) ⟨by decide, by decide⟩ (by decide) (by decide) (fun v h' sz' hq => ?_)
  obtain ⟨c', ar, o, s, A', O', S', hW, hv, hh, hz⟩ := hq
  rw [hv, hh, hz]
  have r1 : xt_h D h (ch + 1) g (ch + 1 + 1) (ch + 1 + 2) (ch + 1 + 3) (n * n) c' A' O' S' ch = some (.inr (2, [.ref (ch + 1), .ref g, .ref aK, .ref (ch + 5), .ref (ch + 6), .ref (ch + 7), .ref (ch + 8)])) := xt_hn hc (by omega) (by omega) (by omega) (by omega)
  have r8 : xt_h D h (ch + 1) g (ch + 1 + 1) (ch + 1 + 2) (ch + 1 + 3) (n * n) c' A' O' S' (ch + 8) = some (.inl (D.1 100, n * n, .inl CB)) := xt_hn h8 (by omega) (by omega) (by omega) (by omega)
  refine xa_aload_n d_Chart_draw_11 rfl ?_
  refine xa_getf f_Chart_43 d_Chart_draw_12 (by assumption) (by rfl) ?_
  refine xa_iconst (v := -1) d_Chart_draw_15 rfl ?_
  refine xa_callSr (As := [.ref (ch + 8), .int (-1)]) (st := []) d_Chart_draw_16 k_Chart_53 (c_Arrays_fill r8 (by omega)) rfl rfl (Nat.le_of_ble_eq_true rfl) ⟨by decide, by decide⟩ (by decide) (by decide) ?_
  refine xa_heap (xd_0 (CB := fun _ => -1) h5 h6 h7) ?_
  refine xa_iconst (v := nI 0) d_Chart_draw_19 rfl ?_
  refine xa_istore_n d_Chart_draw_20 rfl rfl ?_
  refine xa_ls ?_ (w_draw ⟨by decide, by decide⟩ hc hg hag hK hlt hN hf hb hW 0 BR LB HO (fun _ => -1) (by omega) (fun a ha => absurd ha (Nat.not_lt_zero _)) (fun x hx => Or.inl rfl))
  exact ⟨rfl, rfl, trivial⟩
end DR
