/-! Areas(), Chart(), Trial(), Life(); the states of chart, trial and life. -/
theorem xa_sw (h : xa_H) {a b : Nat} (hab : a ≠ b) (e f : va_E) : xa_u (xa_u h a e) b f = xa_u (xa_u h b f) a e := by
  funext q
  unfold xa_u
  by_cases h1 : q = a
  · subst h1; rw [if_neg hab, if_pos rfl, if_pos rfl]
  · by_cases h2 : q = b
    · subst h2; rw [if_pos rfl, if_neg h1, if_pos rfl]
    · rw [if_neg h2, if_neg h1, if_neg h1, if_neg h2]
/-- the chart's cells, whatever they hold -/
def xC_sh (D : va_G) (h : xa_H) (n ch g aK : Nat) (b : Nat → Nat) : Prop :=
  ∃ (c : Nat) (f A O S BR LB HO CB : Nat → Int32), xc_R D h n ch g aK c f A O S b ∧ h (ch + 5) = some (.inl (D.1 100, n * n, .inl BR)) ∧ h (ch + 6) = some (.inl (D.1 100, n * n, .inl LB)) ∧ h (ch + 7) = some (.inl (D.1 100, n * n, .inl HO)) ∧ h (ch + 8) = some (.inl (D.1 100, n * n, .inl CB))
/-- the chart as drawn -/
def xC_S (D : va_G) (h : xa_H) (n ch g aK : Nat) (b : Nat → Nat) : Prop :=
  ∃ (c : Nat) (f A O S BR LB HO CB : Nat → Int32) (ar o s : Nat → Nat), xc_R D h n ch g aK c f A O S b ∧ h (ch + 5) = some (.inl (D.1 100, n * n, .inl BR)) ∧ h (ch + 6) = some (.inl (D.1 100, n * n, .inl LB)) ∧ h (ch + 7) = some (.inl (D.1 100, n * n, .inl HO)) ∧ h (ch + 8) = some (.inl (D.1 100, n * n, .inl CB)) ∧ xt_W n (fun q => nI (b q)) c ar o s A O S ∧ ∀ a, a < c → xd_A n b o s BR LB HO a
theorem xC_S.sh {D : va_G} {h : xa_H} {n ch g aK : Nat} {b : Nat → Nat} (hS : xC_S D h n ch g aK b) : xC_sh D h n ch g aK b := by
  obtain ⟨c, f, A, O, S, BR, LB, HO, CB, ar, o, s, h1, h2, h3, h4, h5, h6, h7⟩ := hS
  exact ⟨c, f, A, O, S, BR, LB, HO, CB, h1, h2, h3, h4, h5⟩
theorem xC_sh.put {D : va_G} {h : xa_H} {n ch g aK : Nat} {b b' : Nat → Nat} (hS : xC_sh D h n ch g aK b) (hlt : g + 1 < aK ∧ aK < ch) (hb' : ∀ q, q < n * n → b' q ≤ 2) : xC_sh D (xa_u h aK (.inl (D.1 100, n * n, .inl (fun q => nI (b' q))))) n ch g aK b' := by
  obtain ⟨c, f, A, O, S, BR, LB, HO, CB, ⟨r1, r2, r3, r4, r5, r6, r7, r8, hN, hf, hb⟩, h2, h3, h4, h5⟩ := hS
  exact ⟨c, f, A, O, S, BR, LB, HO, CB, ⟨xa_u_ne r1 (by omega), xa_u_ne r2 (by omega), xa_u_ne r3 (by omega), xa_u_ne r4 (by omega), xa_u_ne r5 (by omega), xa_u_ne r6 (by omega), xa_u_ne r7 (by omega), xa_u_eq _ _ _, hN, hf, hb'⟩, xa_u_ne h2 (by omega), xa_u_ne h3 (by omega), xa_u_ne h4 (by omega), xa_u_ne h5 (by omega)⟩
theorem xC_S.frame {D : va_G} {h h' : xa_H} {n ch g aK : Nat} {b : Nat → Nat} (hS : xC_S D h n ch g aK b) (hf : ∀ q, (q = g ∨ q = g + 1 ∨ q = aK ∨ (ch ≤ q ∧ q ≤ ch + 8)) → h' q = h q) : xC_S D h' n ch g aK b := by
  obtain ⟨c, f, A, O, S, BR, LB, HO, CB, ar, o, s, ⟨r1, r2, r3, r4, r5, r6, r7, r8, hx⟩, h2, h3, h4, h5, h6, h7⟩ := hS
  refine ⟨c, f, A, O, S, BR, LB, HO, CB, ar, o, s, ⟨?_, ?_, ?_, ?_, ?_, ?_, ?_, ?_, hx⟩, ?_, ?_, ?_, ?_, h6, h7⟩
  all_goals first | (rw [hf _ (by omega)]; assumption)
/-- the trial's cells -/
def xT_S (D : va_G) (h : xa_H) (tr g aK ch N : Nat) : Prop := ∃ (V : Nat → Nat) (k ls : Nat), h tr = some (.inr (7, [.ref (tr + 1), .int (nI k), .int (nI ls), .ref g, .ref aK, .ref ch])) ∧ h (tr + 1) = some (xp_c D N V)
/-- life's cells -/
def xL_S (D : va_G) (h : xa_H) (lf g aK N : Nat) : Prop := ∃ (c : Nat) (K A O S ST BT RG : Nat → Int32), h lf = some (.inr (5, [.ref g, .ref aK, .ref (lf + 1), .ref (lf + 2), .ref (lf + 6), .ref (lf + 7), .ref (lf + 8)])) ∧ h (lf + 1) = some (.inl (D.1 100, N, .inl K)) ∧ h (lf + 2) = some (.inr (1, [.int (nI c), .ref g, .ref (lf + 3), .ref (lf + 4), .ref (lf + 5)])) ∧ h (lf + 3) = some (.inl (D.1 100, N, .inl A)) ∧ h (lf + 4) = some (.inl (D.1 100, N, .inl O)) ∧ h (lf + 5) = some (.inl (D.1 100, N + 1, .inl S)) ∧ h (lf + 6) = some (.inl (D.1 102, N, .inl ST)) ∧ h (lf + 7) = some (.inl (D.1 100, 4 * N, .inl BT)) ∧ h (lf + 8) = some (.inl (D.1 100, N, .inl RG))
section IN
variable {l : Launch} {D : va_G} {H0 : Heap} {h : xa_H} {sz : Nat} {R : Room}
theorem xa_M_w {μ : xa_Mu} {fr lo mc ms : Nat} {av : List Value} {Q Q' : Option Value → xa_H → Nat → Prop} (hM : xa_M l D H0 μ fr lo mc ms av h sz Q) (hw : ∀ v h' sz', Q v h' sz' → Q' v h' sz') : xa_M l D H0 μ fr lo mc ms av h sz Q' := by
  intro p e ha hc hk s m args below hf hS hP hK
  obtain ⟨n, o, h1, h2, h3, ⟨v, h', sz', e1, e2, e3⟩, h5⟩ := hM p e ha hc hk s m args below hf hS hP hK
  exact ⟨n, o, h1, h2, h3, ⟨v, h', sz', e1, hw _ _ _ e2, e3⟩, h5⟩
theorem c_Areas_init {N a g : Nat} {v2 : Value} (ha : h a = some (.inr (1, [.int 0, .null, .null, .null, .null]))) (hg : h g = some (.inr (3, [.int (nI N), v2]))) (hga : g < a) (hs : sz = a + 1) (hN : N ≤ 169) :
    xa_M l D H0 M_Areas_init 1 20 3 508 [.ref a, .ref g] h sz (fun v h' sz' => v = none ∧ h' = xt_h D h a g (a + 1) (a + 2) (a + 3) N 0 (fun _ => 0) (fun _ => 0) (fun _ => 0) ∧ sz' = sz + 3) := by
  refine xa_enter (by decide) rfl rfl ?_
  subst hs
  refine xa_aload_n d_Areas_init_0 rfl ?_
  refine xa_objInit k_Areas_3 w_oi w_oc d_Areas_init_1 (by decide) (by decide) ?_
  refine xa_aload_n d_Areas_init_4 rfl ?_
  refine xa_aload_n d_Areas_init_5 rfl ?_
  refine xa_putF f_Areas_9 rfl (fun q hq => by cases hq; rfl) d_Areas_init_6 ha (Nat.le_of_ble_eq_true rfl) rfl rfl ?_
  have hg1 : ∀ e, xa_u h a e g = some (.inr (3, [.int (nI N), v2])) := fun e => xa_u_ne hg (by omega)
  refine xa_heap (h' := xa_u h a (.inr (1, [.int 0, .ref g, .null, .null, .null]))) rfl ?_
  refine xa_aload_n d_Areas_init_9 rfl ?_
  refine xa_aload_n d_Areas_init_10 rfl ?_
  refine xa_getf f_Areas_15 d_Areas_init_11 (hg1 _) (by rfl) ?_
  refine xa_newI (N := N) d_Areas_init_14 rfl (by omega) (Nat.le_of_ble_eq_true rfl) (show 0 + N ≤ 508 by omega) ?_
  refine xa_putF f_Areas_21 rfl (fun q hq => by cases hq; rfl) d_Areas_init_16 (xa_u_ne (xa_u_eq _ _ _) (by omega)) (Nat.le_of_ble_eq_true rfl) rfl rfl ?_
  refine xa_heap (h' := xa_u (xa_u h (a + 1) (.inl (D.1 100, N, .inl (fun _ => 0)))) a (.inr (1, [.int 0, .ref g, .ref (a + 1), .null, .null]))) (by show xa_u (xa_u (xa_u h a _) (a + 1) _) a _ = _; rw [xa_uc _ (by omega), xa_sw _ (by omega)]; rfl) ?_
  refine xa_aload_n d_Areas_init_19 rfl ?_
  refine xa_aload_n d_Areas_init_20 rfl ?_
  refine xa_getf f_Areas_15 d_Areas_init_21 (xa_u_ne (xa_u_ne hg (by omega)) (by omega)) (by rfl) ?_
  refine xa_newI (N := N) d_Areas_init_24 rfl (by omega) (Nat.le_of_ble_eq_true rfl) (show 0 + N + N ≤ 508 by omega) ?_
  refine xa_putF f_Areas_25 rfl (fun q hq => by cases hq; rfl) d_Areas_init_26 (xa_u_ne (xa_u_eq _ _ _) (by omega)) (Nat.le_of_ble_eq_true rfl) rfl rfl ?_
  refine xa_heap (h' := xa_u (xa_u (xa_u h (a + 1) (.inl (D.1 100, N, .inl (fun _ => 0)))) (a + 2) (.inl (D.1 100, N, .inl (fun _ => 0)))) a (.inr (1, [.int 0, .ref g, .ref (a + 1), .ref (a + 2), .null]))) (by show xa_u (xa_u (xa_u (xa_u h (a + 1) _) a _) (a + 2) _) a _ = _; rw [xa_uc _ (by omega), xa_sw _ (show a ≠ a + 2 by omega)]; rfl) ?_
  refine xa_aload_n d_Areas_init_29 rfl ?_
  refine xa_aload_n d_Areas_init_30 rfl ?_
  refine xa_getf f_Areas_15 d_Areas_init_31 (xa_u_ne (xa_u_ne (xa_u_ne hg (by omega)) (by omega)) (by omega)) (by rfl) ?_
  refine xa_iconst (v := nI 1) d_Areas_init_34 rfl ?_
  refine xa_iaddN d_Areas_init_35 ?_
  refine xa_newI (N := N + 1) d_Areas_init_36 rfl (by omega) (Nat.le_of_ble_eq_true rfl) (show 0 + N + N + (N + 1) ≤ 508 by omega) ?_
  refine xa_putF f_Areas_28 rfl (fun q hq => by cases hq; rfl) d_Areas_init_38 (xa_u_ne (xa_u_eq _ _ _) (by omega)) (Nat.le_of_ble_eq_true rfl) rfl rfl ?_
  refine xa_heap (h' := xt_h D h a g (a + 1) (a + 2) (a + 3) N 0 (fun _ => 0) (fun _ => 0) (fun _ => 0)) (by show xa_u (xa_u (xa_u (xa_u (xa_u h (a + 1) _) (a + 2) _) a _) (a + 3) _) a _ = _; rw [xa_uc _ (by omega), xa_sw _ (show a ≠ a + 3 by omega)]; rfl) ?_
  exact xa_return d_Areas_init_41 rfl (Nat.le_of_ble_eq_true rfl) (show 0 + N + N + (N + 1) ≤ 508 by omega) ⟨rfl, rfl, rfl⟩
theorem c_Chart_draw' {n ch g aK : Nat} {b : Nat → Nat} (hS : xC_sh D h n ch g aK b) (hlt : g + 1 < ch ∧ aK < ch) :
    xa_M l D H0 M_Chart_draw 3 72 0 0 [.ref ch] h sz (fun v h' sz' => v = none ∧ xC_S D h' n ch g aK b ∧ (∀ q, q ≤ ch ∨ ch + 9 ≤ q → h' q = h q) ∧ sz' = sz) := by
  obtain ⟨c, f, A, O, S, BR, LB, HO, CB, ⟨r1, r2, r3, r4, r5, r6, r7, r8, hN, hf, hb⟩, h2, h3, h4, h5⟩ := hS
  refine xa_M_w (c_Chart_draw r1 r2 r3 r4 r5 h2 h3 h4 h5 r6 r7 r8 hlt hN hf hb) (fun v h' sz' hq => ?_)
  obtain ⟨c, ar, o, s, A, O, S, BR, LB, HO, CB, hW, hA, e1, e2, e3⟩ := hq
  refine ⟨e1, ?_, fun q hq => by rw [e2]; exact xd_hn rfl hq, e3⟩
  rw [e2]
  exact ⟨c, f, A, O, S, BR, LB, HO, CB, ar, o, s, xd_R r1 r6 r7 r8 hlt hN hf hb, xd_h5, xd_h6, xd_h7, xd_h8, hW, hA⟩
theorem c_Chart_init {n ch g aK : Nat} {f : Nat → Int32} {b : Nat → Nat} (hc : h ch = some (.inr (2, [.null, .null, .null, .null, .null, .null, .null]))) (hg : h g = some (.inr (3, [.int (nI (n * n)), .ref (g + 1)]))) (hag : h (g + 1) = some (.inl (D.1 100, 4 * (n * n), .inl f))) (hK : h aK = some (.inl (D.1 100, n * n, .inl (fun q => nI (b q))))) (hlt : g + 1 < ch ∧ aK < ch) (hN : n * n ≤ 169) (hf : ∀ q w, q < n * n → w < 4 → f (4 * q + w) = gb_oi (gb_nb n q w)) (hb : ∀ q, q < n * n → b q ≤ 2) (hs : sz = ch + 1) :
    xa_M l D H0 M_Chart_init 4 93 8 1189 [.ref ch, .ref g, .ref aK] h sz (fun v h' sz' => v = none ∧ xC_S D h' n ch g aK b ∧ (∀ q, q < ch → h' q = h q) ∧ sz' = sz + 8) := by
  refine xa_enter (by decide) rfl rfl ?_
  subst hs
  refine xa_aload_n d_Chart_init_0 rfl ?_
  refine xa_objInit k_Chart_3 w_oi w_oc d_Chart_init_1 (by decide) (by decide) ?_
  refine xa_aload_n d_Chart_init_4 rfl ?_
  refine xa_aload_n d_Chart_init_5 rfl ?_
  refine xa_putF f_Chart_9 rfl (fun q hq => by cases hq; rfl) d_Chart_init_6 hc (Nat.le_of_ble_eq_true rfl) rfl rfl ?_
  refine xa_aload_n d_Chart_init_9 rfl ?_
  refine xa_aload_n d_Chart_init_10 rfl ?_
  refine xa_putF f_Chart_15 rfl (fun q hq => by cases hq; rfl) d_Chart_init_11 (xa_u_eq _ _ _) (Nat.le_of_ble_eq_true rfl) rfl rfl ?_
  rw [xa_uu]
  refine xa_heap (h' := xa_u h ch (.inr (2, [.null, .ref g, .ref aK, .null, .null, .null, .null]))) rfl ?_
  refine xa_aload_n d_Chart_init_14 rfl ?_
  refine xa_new n_Chart_19 d_Chart_init_15 (Nat.le_of_ble_eq_true rfl) (Nat.le_of_ble_eq_true rfl) ?_
  refine xa_dup d_Chart_init_18 rfl ?_
  refine xa_aload_n d_Chart_init_19 rfl ?_
  refine xa_callIr (As := [.ref g]) (st := [.ref (ch + 1), .ref ch]) d_Chart_init_20 k_Chart_21 (c_Areas_init (N := n * n) (xa_u_eq _ _ _) (xa_u_ne (xa_u_ne hg (by omega)) (by omega)) (by omega) rfl hN) rfl rfl (Nat.le_of_ble_eq_true rfl) ⟨by decide, by decide⟩ (Nat.le_of_ble_eq_true rfl) (Nat.le_of_ble_eq_true rfl) ?_
  generalize hg0 : xt_h D (xa_u (xa_u h ch (.inr (2, [.null, .ref g, .ref aK, .null, .null, .null, .null]))) (ch + 1) (.inr (1, [.int 0, .null, .null, .null, .null]))) (ch + 1) g (ch + 1 + 1) (ch + 1 + 2) (ch + 1 + 3) (n * n) 0 (fun _ => 0) (fun _ => 0) (fun _ => 0) = G
  have a0 : G ch = some (.inr (2, [.null, .ref g, .ref aK, .null, .null, .null, .null])) := by rw [← hg0]; exact xt_hn (xa_u_ne (xa_u_eq _ _ _) (by omega)) (by omega) (by omega) (by omega) (by omega)
  have a1 : G (ch + 1) = some (.inr (1, [.int (nI 0), .ref g, .ref (ch + 2), .ref (ch + 3), .ref (ch + 4)])) := by rw [← hg0]; exact xt_ha
  have a2 : G (ch + 2) = some (.inl (D.1 100, n * n, .inl (fun _ => 0))) := by rw [← hg0]; exact xt_hA (by omega) (by omega) (by omega)
  have a3 : G (ch + 3) = some (.inl (D.1 100, n * n, .inl (fun _ => 0))) := by rw [← hg0]; exact xt_hO (by omega) (by omega)
  have a4 : G (ch + 4) = some (.inl (D.1 100, n * n + 1, .inl (fun _ => 0))) := by rw [← hg0]; exact xt_hS (by omega)
  have a5 : ∀ q, q < ch → G q = h q := fun q hq => by rw [← hg0]; exact xt_hn (xa_u_ne (xa_u_ne rfl (by omega)) (by omega)) (by omega) (by omega) (by omega) (by omega)
  have a6 : G g = some (.inr (3, [.int (nI (n * n)), .ref (g + 1)])) := by rw [a5 g (by omega)]; exact hg
  refine xa_putF f_Chart_24 rfl (fun q hq => by cases hq; rfl) d_Chart_init_23 a0 (Nat.le_of_ble_eq_true rfl) rfl rfl ?_
  refine xa_heap (h' := xa_u G ch (.inr (2, [.ref (ch + 1), .ref g, .ref aK, .null, .null, .null, .null]))) rfl ?_
  refine xa_aload_n d_Chart_init_26 rfl ?_
  refine xa_aload_n d_Chart_init_27 rfl ?_
  refine xa_getf f_Chart_28 d_Chart_init_28 (xa_u_ne a6 (by omega)) (by rfl) ?_
  refine xa_newI (N := n * n) d_Chart_init_31 rfl (by omega) (Nat.le_of_ble_eq_true rfl) (show 0 + 5 + 508 + n * n ≤ 1189 by omega) ?_
  refine xa_putF f_Chart_34 rfl (fun q hq => by cases hq; rfl) d_Chart_init_33 (xa_u_ne (xa_u_eq _ _ _) (by omega)) (Nat.le_of_ble_eq_true rfl) rfl rfl ?_
  refine xa_heap (h' := xa_u (xa_u G (ch + 5) (.inl (D.1 100, n * n, .inl (fun _ => 0)))) ch (.inr (2, [.ref (ch + 1), .ref g, .ref aK, .ref (ch + 5), .null, .null, .null]))) (by show xa_u (xa_u (xa_u G ch _) (ch + 5) _) ch _ = _; rw [xa_uc _ (by omega), xa_sw _ (show ch ≠ ch + 5 by omega)]; rfl) ?_
  refine xa_aload_n d_Chart_init_36 rfl ?_
  refine xa_aload_n d_Chart_init_37 rfl ?_
  refine xa_getf f_Chart_28 d_Chart_init_38 (xa_u_ne (xa_u_ne a6 (by omega)) (by omega)) (by rfl) ?_
  refine xa_newI (N := n * n) d_Chart_init_41 rfl (by omega) (Nat.le_of_ble_eq_true rfl) (show 0 + 5 + 508 + n * n + n * n ≤ 1189 by omega) ?_
  refine xa_putF f_Chart_37 rfl (fun q hq => by cases hq; rfl) d_Chart_init_43 (xa_u_ne (xa_u_eq _ _ _) (by omega)) (Nat.le_of_ble_eq_true rfl) rfl rfl ?_
  refine xa_heap (h' := xa_u (xa_u (xa_u G (ch + 5) (.inl (D.1 100, n * n, .inl (fun _ => 0)))) (ch + 6) (.inl (D.1 100, n * n, .inl (fun _ => 0)))) ch (.inr (2, [.ref (ch + 1), .ref g, .ref aK, .ref (ch + 5), .ref (ch + 6), .null, .null]))) (by show xa_u (xa_u (xa_u (xa_u G (ch + 5) _) ch _) (ch + 6) _) ch _ = _; rw [xa_uc _ (by omega), xa_sw _ (show ch ≠ ch + 6 by omega)]; rfl) ?_
  refine xa_aload_n d_Chart_init_46 rfl ?_
  refine xa_aload_n d_Chart_init_47 rfl ?_
  refine xa_getf f_Chart_28 d_Chart_init_48 (xa_u_ne (xa_u_ne (xa_u_ne a6 (by omega)) (by omega)) (by omega)) (by rfl) ?_
  refine xa_newI (N := n * n) d_Chart_init_51 rfl (by omega) (Nat.le_of_ble_eq_true rfl) (show 0 + 5 + 508 + n * n + n * n + n * n ≤ 1189 by omega) ?_
  refine xa_putF f_Chart_40 rfl (fun q hq => by cases hq; rfl) d_Chart_init_53 (xa_u_ne (xa_u_eq _ _ _) (by omega)) (Nat.le_of_ble_eq_true rfl) rfl rfl ?_
  refine xa_heap (h' := xa_u (xa_u (xa_u (xa_u G (ch + 5) (.inl (D.1 100, n * n, .inl (fun _ => 0)))) (ch + 6) (.inl (D.1 100, n * n, .inl (fun _ => 0)))) (ch + 7) (.inl (D.1 100, n * n, .inl (fun _ => 0)))) ch (.inr (2, [.ref (ch + 1), .ref g, .ref aK, .ref (ch + 5), .ref (ch + 6), .ref (ch + 7), .null]))) (by show xa_u (xa_u (xa_u (xa_u (xa_u G (ch + 5) _) (ch + 6) _) ch _) (ch + 7) _) ch _ = _; rw [xa_uc _ (by omega), xa_sw _ (show ch ≠ ch + 7 by omega)]; rfl) ?_
  refine xa_aload_n d_Chart_init_56 rfl ?_
  refine xa_aload_n d_Chart_init_57 rfl ?_
  refine xa_getf f_Chart_28 d_Chart_init_58 (xa_u_ne (xa_u_ne (xa_u_ne (xa_u_ne a6 (by omega)) (by omega)) (by omega)) (by omega)) (by rfl) ?_
  refine xa_newI (N := n * n) d_Chart_init_61 rfl (by omega) (Nat.le_of_ble_eq_true rfl) (show 0 + 5 + 508 + n * n + n * n + n * n + n * n ≤ 1189 by omega) ?_
  refine xa_putF f_Chart_43 rfl (fun q hq => by cases hq; rfl) d_Chart_init_63 (xa_u_ne (xa_u_eq _ _ _) (by omega)) (Nat.le_of_ble_eq_true rfl) rfl rfl ?_
  refine xa_heap (h' := xa_u (xa_u (xa_u (xa_u (xa_u G (ch + 5) (.inl (D.1 100, n * n, .inl (fun _ => 0)))) (ch + 6) (.inl (D.1 100, n * n, .inl (fun _ => 0)))) (ch + 7) (.inl (D.1 100, n * n, .inl (fun _ => 0)))) (ch + 8) (.inl (D.1 100, n * n, .inl (fun _ => 0)))) ch (.inr (2, [.ref (ch + 1), .ref g, .ref aK, .ref (ch + 5), .ref (ch + 6), .ref (ch + 7), .ref (ch + 8)]))) (by show xa_u (xa_u (xa_u (xa_u (xa_u (xa_u G (ch + 5) _) (ch + 6) _) (ch + 7) _) ch _) (ch + 8) _) ch _ = _; rw [xa_uc _ (by omega), xa_sw _ (show ch ≠ ch + 8 by omega)]; rfl) ?_
  have fr : ∀ (E : va_E) (q : Nat), q ≠ ch → (q < ch + 5 ∨ ch + 9 ≤ q) → xa_u (xa_u (xa_u (xa_u (xa_u G (ch + 5) (.inl (D.1 100, n * n, .inl (fun _ => 0)))) (ch + 6) (.inl (D.1 100, n * n, .inl (fun _ => 0)))) (ch + 7) (.inl (D.1 100, n * n, .inl (fun _ => 0)))) (ch + 8) (.inl (D.1 100, n * n, .inl (fun _ => 0)))) ch E q = G q := fun E q h1 h2 => xa_u_ne (xa_u_ne (xa_u_ne (xa_u_ne (xa_u_ne rfl (by omega)) (by omega)) (by omega)) (by omega)) h1
  have hsh : xC_sh D (xa_u (xa_u (xa_u (xa_u (xa_u G (ch + 5) (.inl (D.1 100, n * n, .inl (fun _ => 0)))) (ch + 6) (.inl (D.1 100, n * n, .inl (fun _ => 0)))) (ch + 7) (.inl (D.1 100, n * n, .inl (fun _ => 0)))) (ch + 8) (.inl (D.1 100, n * n, .inl (fun _ => 0)))) ch (.inr (2, [.ref (ch + 1), .ref g, .ref aK, .ref (ch + 5), .ref (ch + 6), .ref (ch + 7), .ref (ch + 8)]))) n ch g aK b := by
    refine ⟨0, f, fun _ => 0, fun _ => 0, fun _ => 0, fun _ => 0, fun _ => 0, fun _ => 0, fun _ => 0, ⟨xa_u_eq _ _ _, ?_, ?_, ?_, ?_, ?_, ?_, ?_, by omega, hf, hb⟩, ?_, ?_, ?_, ?_⟩
    · rw [fr _ _ (by omega) (by omega)]; exact a1
    · rw [fr _ _ (by omega) (by omega)]; exact a2
    · rw [fr _ _ (by omega) (by omega)]; exact a3
    · rw [fr _ _ (by omega) (by omega)]; exact a4
    · rw [fr _ _ (by omega) (by omega)]; exact a6
    · rw [fr _ _ (by omega) (by omega), a5 _ (by omega)]; exact hag
    · rw [fr _ _ (by omega) (by omega), a5 _ (by omega)]; exact hK
    · exact xa_u_ne (xa_u_ne (xa_u_ne (xa_u_ne (xa_u_eq _ _ _) (by omega)) (by omega)) (by omega)) (by omega)
    · exact xa_u_ne (xa_u_ne (xa_u_ne (xa_u_eq _ _ _) (by omega)) (by omega)) (by omega)
    · exact xa_u_ne (xa_u_ne (xa_u_eq _ _ _) (by omega)) (by omega)
    · exact xa_u_ne (xa_u_eq _ _ _) (by omega)
  refine xa_aload_n d_Chart_init_66 rfl ?_
  refine xa_callV (As := []) (st := []) d_Chart_init_67 k_Chart_46 (xa_u_eq _ _ _) (c_Chart_draw' hsh hlt) rfl rfl (Nat.le_of_ble_eq_true rfl) ⟨by decide, by decide⟩ (Nat.le_of_ble_eq_true rfl) (show 0 + 5 + 508 + n * n + n * n + n * n + n * n + 0 ≤ 1189 by omega) (fun v h' sz' hq => ?_)
  obtain ⟨e1, e2, e3, e4⟩ := hq
  rw [e1]
  exact xa_return d_Chart_init_70 rfl (Nat.le_of_ble_eq_true rfl) (show 0 + 5 + 508 + n * n + n * n + n * n + n * n + 0 ≤ 1189 by omega) ⟨rfl, e2, fun q hq => by rw [e3 q (by omega), fr _ q (by omega) (by omega), a5 q hq], by rw [e4]⟩
theorem c_Trial_init {N tr g aK ch : Nat} {v2 : Value} (ht : h tr = some (.inr (7, [.null, .int 0, .int 0, .null, .null, .null]))) (hg : h g = some (.inr (3, [.int (nI N), v2]))) (hlt : g < tr) (hs : sz = tr + 1) (hN : N ≤ 169) :
    xa_M l D H0 M_Trial_init 1 20 1 6 [.ref tr, .ref g, .ref aK, .ref ch] h sz (fun v h' sz' => v = none ∧ xT_S D h' tr g aK ch N ∧ (∀ q, q < tr → h' q = h q) ∧ sz' = sz + 1) := by
  refine xa_enter (by decide) rfl rfl ?_
  subst hs
  refine xa_aload_n d_Trial_init_0 rfl ?_
  refine xa_objInit k_Trial_3 w_oi w_oc d_Trial_init_1 (by decide) (by decide) ?_
  refine xa_aload_n d_Trial_init_4 rfl ?_
  refine xa_aload_n d_Trial_init_5 rfl ?_
  refine xa_putF f_Trial_9 rfl (fun q hq => by cases hq; rfl) d_Trial_init_6 ht (Nat.le_of_ble_eq_true rfl) rfl rfl ?_
  refine xa_aload_n d_Trial_init_9 rfl ?_
  refine xa_aload_n d_Trial_init_10 rfl ?_
  refine xa_putF f_Trial_15 rfl (fun q hq => by cases hq; rfl) d_Trial_init_11 (xa_u_eq _ _ _) (Nat.le_of_ble_eq_true rfl) rfl rfl ?_
  rw [xa_uu]
  refine xa_aload_n d_Trial_init_14 rfl ?_
  refine xa_aload_n d_Trial_init_15 rfl ?_
  refine xa_putF f_Trial_19 rfl (fun q hq => by cases hq; rfl) d_Trial_init_16 (xa_u_eq _ _ _) (Nat.le_of_ble_eq_true rfl) rfl rfl ?_
  rw [xa_uu]
  refine xa_heap (h' := xa_u h tr (.inr (7, [.null, .int 0, .int 0, .ref g, .ref aK, .ref ch]))) rfl ?_
  refine xa_aload_n d_Trial_init_19 rfl ?_
  refine xa_aload_n d_Trial_init_20 rfl ?_
  refine xa_getf f_Trial_23 d_Trial_init_21 (xa_u_ne hg (by omega)) (by rfl) ?_
  refine xa_callSr (As := [.int (nI N)]) (st := [.ref tr]) d_Trial_init_24 k_Trial_29 (c_Packed_freeBoard hN) rfl rfl (Nat.le_of_ble_eq_true rfl) ⟨by decide, by decide⟩ (Nat.le_of_ble_eq_true rfl) (Nat.le_of_ble_eq_true rfl) ?_
  refine xa_putF f_Trial_35 rfl (fun q hq => by cases hq; rfl) d_Trial_init_27 (xa_u_ne (xa_u_eq _ _ _) (by omega)) (Nat.le_of_ble_eq_true rfl) rfl rfl ?_
  exact xa_return d_Trial_init_30 rfl (Nat.le_of_ble_eq_true rfl) (Nat.le_of_ble_eq_true rfl) ⟨rfl, ⟨fun _ => 0, 0, 0, xa_u_eq _ _ _, xa_u_ne (xa_u_eq _ _ _) (by omega)⟩, fun q hq => xa_u_ne (xa_u_ne (xa_u_ne rfl (by omega)) (by omega)) (by omega), rfl⟩
end IN
