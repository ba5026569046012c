/-! Areas.split. -/
def xt_h (D : va_G) (h : xa_H) (a g aA aO aS N c : Nat) (A O S : Nat → Int32) : xa_H := xa_u (xa_u (xs_h D h aA aO N A O) aS (.inl (D.1 100, N + 1, .inl S))) a (.inr (1, [.int (nI c), .ref g, .ref aA, .ref aO, .ref aS]))
section TH
variable {D : va_G} {h : xa_H} {a g aA aO aS N c : Nat} {A O S : Nat → Int32}
theorem xt_hn {q : Nat} {e : Option va_E} (hq : h q = e) (h1 : q ≠ aA) (h2 : q ≠ aO) (h3 : q ≠ aS) (h4 : q ≠ a) : xt_h D h a g aA aO aS N c A O S q = e := xa_u_ne (xa_u_ne (xs_hn hq h1 h2) h3) h4
theorem xt_ha : xt_h D h a g aA aO aS N c A O S a = some (.inr (1, [.int (nI c), .ref g, .ref aA, .ref aO, .ref aS])) := xa_u_eq _ _ _
theorem xt_hS (h1 : aS ≠ a) : xt_h D h a g aA aO aS N c A O S aS = some (.inl (D.1 100, N + 1, .inl S)) := xa_u_ne (xa_u_eq _ _ _) h1
theorem xt_hO (h1 : aO ≠ a) (h2 : aO ≠ aS) : xt_h D h a g aA aO aS N c A O S aO = some (.inl (D.1 100, N, .inl O)) := xa_u_ne (xa_u_ne xs_ho h2) h1
theorem xt_hA (h1 : aA ≠ a) (h2 : aA ≠ aS) (h3 : aA ≠ aO) : xt_h D h a g aA aO aS N c A O S aA = some (.inl (D.1 100, N, .inl A)) := xa_u_ne (xa_u_ne (xs_ha h3) h2) h1
theorem xt_uc (c' : Nat) : xa_u (xt_h D h a g aA aO aS N c A O S) a (.inr (1, [.int (nI c'), .ref g, .ref aA, .ref aO, .ref aS])) = xt_h D h a g aA aO aS N c' A O S := xa_uu _ _ _ _
theorem xt_uS (h1 : aS ≠ a) (S' : Nat → Int32) : xa_u (xt_h D h a g aA aO aS N c A O S) aS (.inl (D.1 100, N + 1, .inl S')) = xt_h D h a g aA aO aS N c A O S' := xa_uc _ h1 _ _ _
theorem xt_uA (h1 : aA ≠ a) (h2 : aA ≠ aS) (h3 : aA ≠ aO) (A' : Nat → Int32) : xa_u (xt_h D h a g aA aO aS N c A O S) aA (.inl (D.1 100, N, .inl A')) = xt_h D h a g aA aO aS N c A' O S := by
  funext q
  unfold xt_h xs_h xa_u
  by_cases k1 : q = aA
  · subst k1; simp [h1, h2, h3]
  · simp [k1]
theorem xt_us (h1 : aA ≠ a) (h2 : aA ≠ aS) (h3 : aA ≠ aO) (h4 : aO ≠ a) (h5 : aO ≠ aS) (A' O' : Nat → Int32) : xs_h D (xt_h D h a g aA aO aS N c A O S) aA aO N A' O' = xt_h D h a g aA aO aS N c A' O' S := by
  funext q
  unfold xt_h xs_h xa_u
  by_cases k1 : q = aA
  · subst k1; simp [h1, h2, h3]
  · by_cases k2 : q = aO
    · subst k2; simp [h4, h5]
    · simp [k1, k2]
theorem xt_0 {A O S : Nat → Int32} (ha : h a = some (.inr (1, [.int (nI c), .ref g, .ref aA, .ref aO, .ref aS]))) (hA : h aA = some (.inl (D.1 100, N, .inl A))) (hO : h aO = some (.inl (D.1 100, N, .inl O))) (hS : h aS = some (.inl (D.1 100, N + 1, .inl S))) : h = xt_h D h a g aA aO aS N c A O S := by
  unfold xt_h xs_h
  rw [xa_us h hA, xa_us h hO, xa_us h hS, xa_us h ha]
end TH
section SR
variable {l : Launch} {D : va_G} {H0 : Heap} {h : xa_H} {sz : Nat} {R : Room}
/-- what Areas.split leaves -/
def xt_W (n : Nat) (K : Nat → Int32) (c : Nat) (ar o s : Nat → Nat) (A O S : Nat → Int32) : Prop := gs_W n K c ar o s ∧ (∀ q, q < n * n → A q = nI (ar q)) ∧ (∀ i, i < n * n → O i = nI (o i)) ∧ ∀ q, q ≤ c → S q = nI (s q)
theorem w_split {n a g aK : Nat} {f K : Nat → Int32} (hR : 2 ≤ R.frames ∧ 49 ≤ R.locals)
    (hg : h g = some (.inr (3, [.int (nI (n * n)), .ref (g + 1)]))) (hag : h (g + 1) = some (.inl (D.1 100, 4 * (n * n), .inl f))) (hK : h aK = some (.inl (D.1 100, n * n, .inl K)))
    (hne : g + 1 < a ∧ aK < a) (hN : n * n < 1000) (hf : ∀ q w, q < n * n → w < 4 → f (4 * q + w) = gb_oi (gb_nb n q w))
    (p c e : Nat) (o s : Nat → Nat) (A O S : Nat → Int32) (hp : p ≤ n * n) (hI : gs_S n K p c e o s A O S) :
    xa_X l D H0 M_Areas_split R (xa_Zr D H0 0 0 (fun v h' sz' => ∃ (c : Nat) (ar o s : Nat → Nat) (A O S : Nat → Int32), xt_W n K c ar o s A O S ∧ v = none ∧ h' = xt_h D h a g (a + 1) (a + 2) (a + 3) (n * n) c A O S ∧ sz' = sz)) 0 0 (xt_h D h a g (a + 1) (a + 2) (a + 3) (n * n) c A O S) sz 17 [(0, .ref a), (1, .ref aK), (2, .int (nI e)), (3, .int (nI p))] [] := by
  have ha' : xt_h D h a g (a + 1) (a + 2) (a + 3) (n * n) c A O S a = some (.inr (1, [.int (nI c), .ref g, .ref (a + 1), .ref (a + 2), .ref (a + 3)])) := xt_ha
  have hg' : xt_h D h a g (a + 1) (a + 2) (a + 3) (n * n) c A O S g = some (.inr (3, [.int (nI (n * n)), .ref (g + 1)])) := xt_hn hg (by omega) (by omega) (by omega) (by omega)
  have hA' : xt_h D h a g (a + 1) (a + 2) (a + 3) (n * n) c A O S (a + 1) = some (.inl (D.1 100, n * n, .inl A)) := xt_hA (by omega) (by omega) (by omega)
  have hS' : xt_h D h a g (a + 1) (a + 2) (a + 3) (n * n) c A O S (a + 3) = some (.inl (D.1 100, n * n + 1, .inl S)) := xt_hS (by omega)
  obtain ⟨hle1, hle2, hle3⟩ := gs_S_le hI
  have hce : c ≤ e := by have h1 := hle1 c (Nat.le_refl c); rw [hI.2.2.2.2.2.2.2.2.2.1] at h1; exact h1
  refine xa_iload_n d_Areas_split_17 rfl ?_
  refine xa_aload_n d_Areas_split_18 rfl ?_
  refine xa_getf f_Areas_9 d_Areas_split_19 (by assumption) (by rfl) ?_
  refine xa_getf f_Areas_15 d_Areas_split_22 (by assumption) (by rfl) ?_
  refine xa_icmp_geN (tgt := 72) d_Areas_split_25 (by decide) (by omega) (by omega) (fun hb => ?_) (fun hb => ?_)
  · have hpe : p = n * n := by omega
    rw [hpe] at hI
    obtain ⟨he, ar, har, hW⟩ := gs_S_end (by omega) hI
    refine xa_aload_n d_Areas_split_72 rfl ?_
    refine xa_getf f_Areas_28 d_Areas_split_73 (by assumption) (by rfl) ?_
    refine xa_aload_n d_Areas_split_76 rfl ?_
    refine xa_getf f_Areas_37 d_Areas_split_77 (by assumption) (by rfl) ?_
    refine xa_iload_n d_Areas_split_80 rfl ?_
    refine xa_iastE d_Areas_split_81 hS' rfl (by omega) (by omega) ?_
    rw [xt_uS (by omega)]
    refine xa_return d_Areas_split_82 rfl (by omega) (by omega) ⟨c, ar, o, s, A, O, upd S c (nI e), ⟨hW, har, fun i hi => (hI.2.2.2.2.1 i (by omega)).2.2, fun q hq => ?_⟩, rfl, rfl, rfl⟩
    by_cases hqc : q = c
    · rw [hqc, hI.2.2.2.2.2.2.2.2.2.1]; simp [upd]
    · simp only [upd, if_neg hqc]; exact hI.2.2.2.2.2.2.2.1 q (by omega)
  ·
    refine xa_aload_n d_Areas_split_28 rfl ?_
    refine xa_getf f_Areas_21 d_Areas_split_29 (by assumption) (by rfl) ?_
    refine xa_iload_n d_Areas_split_32 rfl ?_
    refine xa_ialdE d_Areas_split_33 (by assumption) rfl (by omega) (by omega) (by rfl) ?_
    refine xa_iconst (v := -1) d_Areas_split_34 rfl ?_
    refine xa_icmp_ne (tgt := 66) d_Areas_split_35 (by decide) (fun hz => ?_) (fun hz => ?_)
    ·
      refine xa_iincN d_Areas_split_66 rfl rfl rfl ?_
      refine xa_goto (tgt := 17) d_Areas_split_69 (by decide) ?_
      refine xa_ls ?_ (w_split hR hg hag hK hne hN hf (p + 1) c e o s A O S (by omega) (gs_S_pass hI hz))
      exact ⟨rfl, rfl, rfl, rfl, trivial⟩
    ·
      refine xa_aload_n d_Areas_split_38 rfl ?_
      refine xa_getf f_Areas_28 d_Areas_split_39 (by assumption) (by rfl) ?_
      refine xa_aload_n d_Areas_split_42 rfl ?_
      refine xa_getf f_Areas_37 d_Areas_split_43 (by assumption) (by rfl) ?_
      refine xa_iload_n d_Areas_split_46 rfl ?_
      refine xa_iastE d_Areas_split_47 hS' rfl (by omega) (by omega) ?_
      rw [xt_uS (by omega)]
      have hcN : c < n * n := by
        have h1 := gs_S_pre hI hb hz
        have h2 : e + 0 < n * n := gs_room (r := fun _ => p) h1 (fun j hj => absurd hj (Nat.not_lt_zero _)) (fun i j hi => absurd hi (Nat.not_lt_zero _)) gb_conn_rf (fun j hj => absurd hj (Nat.not_lt_zero _))
        omega
      have ha2 : xt_h D h a g (a + 1) (a + 2) (a + 3) (n * n) c A O (upd S c (nI e)) a = some (.inr (1, [.int (nI c), .ref g, .ref (a + 1), .ref (a + 2), .ref (a + 3)])) := xt_ha
      refine xa_aload_n d_Areas_split_48 rfl ?_
      refine xa_iload_n d_Areas_split_49 rfl ?_
      refine xa_iload_n d_Areas_split_50 rfl ?_
      refine xa_aload_n d_Areas_split_51 rfl ?_
      refine xa_callV (As := [.int (nI p), .int (nI e), .ref aK]) (st := []) d_Areas_split_52 k_Areas_38 ha2 (c_Areas_spread (o := o) ha2 (xt_hn hg (by omega) (by omega) (by omega) (by omega)) (xt_hn hag (by omega) (by omega) (by omega) (by omega)) (xt_hn hK (by omega) (by omega) (by omega) (by omega)) (xt_hA (by omega) (by omega) (by omega)) (xt_hO (by omega) (by omega)) (by omega) hN hf (by omega) (gs_S_pre hI hb hz)) rfl rfl (by decide) ⟨hR.1, hR.2⟩ (by omega) (by omega) (fun v h' sz' hq => ?_)
      obtain ⟨r, m, A2, O2, hout, hem, hv, hh, hsz⟩ := hq
      rw [hv, hh, hsz, xt_us (by omega) (by omega) (by omega) (by omega) (by omega)]
      have ha3 : xt_h D h a g (a + 1) (a + 2) (a + 3) (n * n) c A2 O2 (upd S c (nI e)) a = some (.inr (1, [.int (nI c), .ref g, .ref (a + 1), .ref (a + 2), .ref (a + 3)])) := xt_ha
      refine xa_istore_n d_Areas_split_55 rfl rfl ?_
      refine xa_aload_n d_Areas_split_56 rfl ?_
      refine xa_dup d_Areas_split_57 rfl ?_
      refine xa_getf f_Areas_37 d_Areas_split_58 (by assumption) (by rfl) ?_
      refine xa_iconst (v := nI 1) d_Areas_split_61 rfl ?_
      refine xa_iaddN d_Areas_split_62 ?_
      refine xa_putf f_Areas_37 d_Areas_split_63 ha3 (Nat.le_of_ble_eq_true rfl) rfl rfl ?_
      refine xa_heap (xt_uc (c + 1)) ?_
      refine xa_iincN d_Areas_split_66 rfl rfl rfl ?_
      refine xa_goto (tgt := 17) d_Areas_split_69 (by decide) ?_
      refine xa_ls ?_ (w_split hR hg hag hK hne hN hf (p + 1) (c + 1) (e + m) _ _ A2 O2 (upd S c (nI e)) (by omega) (gs_S_add hI hb hz (fun x hx => gb_m1 (by omega)) (fun x hx z => by have := (nI_eq (by omega) (by omega)).mp z; omega) hout))
      exact ⟨rfl, rfl, rfl, rfl, trivial⟩
termination_by n * n - p
decreasing_by all_goals omega
theorem c_Areas_split {n a g aK : Nat} {f K A O S : Nat → Int32} {c : Nat} (ha : h a = some (.inr (1, [.int (nI c), .ref g, .ref (a + 1), .ref (a + 2), .ref (a + 3)])))
    (hg : h g = some (.inr (3, [.int (nI (n * n)), .ref (g + 1)]))) (hag : h (g + 1) = some (.inl (D.1 100, 4 * (n * n), .inl f))) (hK : h aK = some (.inl (D.1 100, n * n, .inl K))) (hA : h (a + 1) = some (.inl (D.1 100, n * n, .inl A))) (hO : h (a + 2) = some (.inl (D.1 100, n * n, .inl O))) (hS : h (a + 3) = some (.inl (D.1 100, n * n + 1, .inl S)))
    (hne : g + 1 < a ∧ aK < a) (hN : n * n < 1000) (hf : ∀ q w, q < n * n → w < 4 → f (4 * q + w) = gb_oi (gb_nb n q w)) :
    xa_M l D H0 M_Areas_split 2 49 0 0 [.ref a, .ref aK] h sz (fun v h' sz' => ∃ (c : Nat) (ar o s : Nat → Nat) (A O S : Nat → Int32), xt_W n K c ar o s A O S ∧ v = none ∧ h' = xt_h D h a g (a + 1) (a + 2) (a + 3) (n * n) c A O S ∧ sz' = sz) := by
  refine xa_enter (by decide) rfl rfl ?_
  refine xa_heap (xt_0 ha hA hO hS) ?_
  have ha' : xt_h D h a g (a + 1) (a + 2) (a + 3) (n * n) c A O S a = some (.inr (1, [.int (nI c), .ref g, .ref (a + 1), .ref (a + 2), .ref (a + 3)])) := xt_ha
  have hA' : xt_h D h a g (a + 1) (a + 2) (a + 3) (n * n) c A O S (a + 1) = some (.inl (D.1 100, n * n, .inl A)) := xt_hA (by omega) (by omega) (by omega)
  refine xa_aload_n d_Areas_split_0 rfl ?_
  refine xa_getf f_Areas_21 d_Areas_split_1 (by assumption) (by rfl) ?_
  refine xa_iconst (v := -1) d_Areas_split_4 rfl ?_
  refine xa_callSr (As := [.ref (a + 1), .int (-1)]) (st := []) d_Areas_split_5 k_Areas_31 (c_Arrays_fill hA' (by omega)) rfl rfl (by decide) ⟨by decide, by decide⟩ (by decide) (by decide) ?_
  rw [xt_uA (by omega) (by omega) (by omega)]
  have ha2 : xt_h D h a g (a + 1) (a + 2) (a + 3) (n * n) c (fun _ => -1) O S a = some (.inr (1, [.int (nI c), .ref g, .ref (a + 1), .ref (a + 2), .ref (a + 3)])) := xt_ha
  refine xa_aload_n d_Areas_split_8 rfl ?_
  refine xa_iconst (v := nI 0) d_Areas_split_9 rfl ?_
  refine xa_putf f_Areas_37 d_Areas_split_10 ha2 (Nat.le_of_ble_eq_true rfl) rfl rfl ?_
  refine xa_heap (xt_uc 0) ?_
  refine xa_iconst (v := nI 0) d_Areas_split_13 rfl ?_
  refine xa_istore_n d_Areas_split_14 rfl rfl ?_
  refine xa_iconst (v := nI 0) d_Areas_split_15 rfl ?_
  refine xa_istore_n d_Areas_split_16 rfl rfl ?_
  refine xa_ls ?_ (w_split ⟨by decide, by decide⟩ hg hag hK hne hN hf 0 0 0 (fun _ => 0) (fun _ => 0) (fun _ => -1) O S (by omega) (gs_S_0 (fun q hq => rfl) _))
  exact ⟨rfl, rfl, rfl, rfl, trivial⟩
end SR
