/-! Chart: hasStringWithoutBreath, countStrings, countGround; whose a point is (pure part first). -/
theorem gb_cnt_img {P : Nat → Prop} {f : Nat → Nat} {N : Nat} : ∀ c : Nat, (∀ a, a < c → P a → f a < N) → (∀ a a', a < c → a' < c → f a = f a' → a = a') → gb_cnt (fun p => ∃ a, a < c ∧ P a ∧ f a = p) N = gb_cnt P c := by
  intro c
  induction c with
  | zero => intro _ _; exact gb_cnt_0 _ (fun q _ ⟨a, h, _⟩ => by omega)
  | succ c ih =>
    intro h1 h2
    have ih' := ih (fun a ha => h1 a (by omega)) (fun a a' ha ha' => h2 a a' (by omega) (by omega))
    by_cases hP : P c
    · rw [gb_cnt_y hP, ← ih']
      refine gb_cnt_add (x := f c) (fun z => ?_) (fun q => ⟨?_, ?_⟩) N (h1 c (by omega) hP)
      · obtain ⟨a, ha, _, e⟩ := z
        have := h2 a c (by omega) (by omega) e
        omega
      · rintro ⟨a, ha, hp, e⟩
        by_cases hc : a = c
        · subst hc; exact Or.inr e.symm
        · exact Or.inl ⟨a, by omega, hp, e⟩
      · rintro (⟨a, ha, hp, e⟩ | e)
        · exact ⟨a, by omega, hp, e⟩
        · exact ⟨c, by omega, hP, e.symm⟩
    · rw [gb_cnt_n hP, ← ih']
      refine gb_cnt_eq _ (fun q _ => ⟨?_, ?_⟩)
      · rintro ⟨a, ha, hp, e⟩
        by_cases hc : a = c
        · subst hc; exact absurd hp hP
        · exact ⟨a, by omega, hp, e⟩
      · rintro ⟨a, ha, hp, e⟩
        exact ⟨a, by omega, hp, e⟩
/-- p is the least point of its area -/
def gx_lst (n : Nat) (K : Nat → Int32) (p : Nat) : Prop := ∀ q, gb_conn n K p q → p ≤ q
theorem gs_W_lst {n : Nat} {K : Nat → Int32} {c : Nat} {ar o s : Nat → Nat} (h : gs_W n K c ar o s) {p : Nat} (hp : p < n * n) : gx_lst n K p ↔ o (s (ar p)) = p := by
  obtain ⟨a1, a2, a3, a4, a5⟩ := gs_W_area h (h.1 p hp)
  have hc : gb_conn n K (o (s (ar p))) p := (h.2.1 _ _ a3 hp).mp a4
  have hle := h.2.2.2.2.2.2.2.2.2.1 (ar p) (h.1 p hp) p hp rfl
  constructor
  · intro hl
    have := hl _ (gb_conn_sy a3 hc)
    omega
  · intro e q hq
    have hqN := gb_conn_lt hp hq
    have h5 := h.2.2.2.2.2.2.2.2.2.1 (ar p) (h.1 p hp) q hqN ((h.2.1 _ _ hqN hp).mpr (gb_conn_sy hp hq))
    omega
theorem gs_W_cnt {n : Nat} {K : Nat → Int32} {c : Nat} {ar o s : Nat → Nat} (h : gs_W n K c ar o s) (P : Nat → Prop) : gb_cnt (fun a => P (o (s a))) c = gb_cnt (fun p => P p ∧ gx_lst n K p) (n * n) := by
  rw [← gb_cnt_img (f := fun a => o (s a)) (N := n * n) c (fun a ha _ => (gs_W_area h ha).2.2.1) (fun a a' ha ha' e => by
    have e1 := (gs_W_area h ha).2.2.2.1
    have e2 := (gs_W_area h ha').2.2.2.1
    have e3 : o (s a) = o (s a') := e
    rw [← e1, ← e2, e3])]
  refine gb_cnt_eq _ (fun q hq => ⟨?_, ?_⟩)
  · rintro ⟨a, ha, hP, e⟩
    have e' : o (s a) = q := e
    have hP' : P (o (s a)) := hP
    rw [e'] at hP'
    refine ⟨hP', (gs_W_lst h hq).mpr ?_⟩
    rw [← e', (gs_W_area h ha).2.2.2.1]
  · rintro ⟨hP, hl⟩
    have e := (gs_W_lst h hq).mp hl
    exact ⟨ar q, h.1 q hq, by show P (o (s (ar q))); rw [e]; exact hP, e⟩
theorem gb_b_eq {n : Nat} {b : Nat → Nat} {p q : Nat} (hp : p < n * n) (hb : ∀ q, q < n * n → b q ≤ 2) (h : gb_conn n (fun q => nI (b q)) p q) : b q = b p := by
  have e : nI (b q) = nI (b p) := gb_conn_k (k := fun q => nI (b q)) h
  have h5 := hb q (gb_conn_lt hp h)
  have h6 := hb p hp
  exact (nI_eq (by omega) (by omega)).mp e
/-- every stone's string has a breath -/
def gx_br (n : Nat) (b : Nat → Nat) : Prop := ∀ p, p < n * n → b p ≠ 0 → gb_cnt (gt_br n (fun q => nI (b q)) p) (n * n) ≠ 0
/-- whose a point is -/
noncomputable def gx_own (n : Nat) (b : Nat → Nat) (p : Nat) : Nat := if b p = 0 then gc_hold n b p else b p
theorem gc_meet_conn {n : Nat} {b : Nat → Nat} {p q x : Nat} (h : gb_conn n (fun q => nI (b q)) p q) (hm : gc_meet n b q x) : gc_meet n b p x := by
  obtain ⟨r, w, y, h1, h2, h3, h4⟩ := hm
  exact ⟨r, w, y, gb_conn_tr h h1, h2, h3, h4⟩
theorem gc_hold_eq {n : Nat} {b : Nat → Nat} {p q : Nat} (hp : p < n * n) (h : gb_conn n (fun q => nI (b q)) p q) : gc_hold n b q = gc_hold n b p := by
  have e : gc_meet n b q = gc_meet n b p := funext fun x => propext ⟨gc_meet_conn h, gc_meet_conn (gb_conn_sy hp h)⟩
  unfold gc_hold
  rw [e]
theorem gx_own_conn {n : Nat} {b : Nat → Nat} {p q : Nat} (hp : p < n * n) (hb : ∀ q, q < n * n → b q ≤ 2) (h : gb_conn n (fun q => nI (b q)) p q) : gx_own n b q = gx_own n b p := by
  unfold gx_own
  rw [gb_b_eq hp hb h, gc_hold_eq hp h]
theorem gc_hold_le (n : Nat) (b : Nat → Nat) (p : Nat) : gc_hold n b p ≤ 2 := by
  unfold gc_hold
  split
  · omega
  · split <;> omega
theorem gx_own_le {n : Nat} {b : Nat → Nat} {p : Nat} (hp : p < n * n) (hb : ∀ q, q < n * n → b q ≤ 2) : gx_own n b p ≤ 2 := by
  unfold gx_own
  split
  · exact gc_hold_le _ _ _
  · exact hb p hp
section CH2
variable {l : Launch} {D : va_G} {H0 : Heap} {h : xa_H} {sz : Nat} {R : Room}
theorem w_hasString {n ch g aK c : Nat} {f A O S BR : Nat → Int32} {b ar o s : Nat → Nat} (hR : 2 ≤ R.frames ∧ 42 ≤ R.locals) (hr : xq_R D h n ch g aK c f A O S BR b ar o s) (a : Nat) (ha : a ≤ c) (hno : ∀ a', a' < a → b (o (s a')) ≠ 0 → gb_cnt (gt_br n (fun q => nI (b q)) (o (s a'))) (n * n) ≠ 0) :
    xa_X l D H0 M_Chart_hasStringWithoutBreath R (xa_Zr D H0 0 0 (fun v h' sz' => ((v = some (.int 1) ∧ ¬ gx_br n b) ∨ (v = some (.int 0) ∧ gx_br n b)) ∧ h' = h ∧ sz' = sz)) 0 0 h sz 2 [(0, .ref ch), (1, .int (nI a))] [] := by
  obtain ⟨⟨r1, r2, r3, r4, r5, r6, r7, r8, hN, hf, hb⟩, r9, hW, hBR⟩ := id hr
  obtain ⟨w1, w2, w3, w4⟩ := id hW
  have hcN : c ≤ n * n := w1.2.2.2.2.2.2.2.2.2.2
  refine xa_iload_n d_Chart_hasStringWithoutBreath_2 rfl ?_
  refine xa_aload_n d_Chart_hasStringWithoutBreath_3 rfl ?_
  refine xa_getf f_Chart_24 d_Chart_hasStringWithoutBreath_4 (by assumption) (by rfl) ?_
  refine xa_getf f_Chart_59 d_Chart_hasStringWithoutBreath_7 (by assumption) (by rfl) ?_
  refine xa_icmp_geN (tgt := 38) d_Chart_hasStringWithoutBreath_10 (by decide) (by omega) (by omega) (fun hbc => ?_) (fun hbc => ?_)
  ·
    refine xa_iconst (v := nI 0) d_Chart_hasStringWithoutBreath_38 rfl ?_
    refine xa_zreturn (v := nI 0) d_Chart_hasStringWithoutBreath_39 rfl (by decide) (by omega) (by omega) ⟨Or.inr ⟨rfl, fun p hp hp0 => ?_⟩, rfl, rfl⟩
    have hax := w1.1 p hp
    obtain ⟨a1, a2, a3, a4, a5⟩ := gs_W_area w1 hax
    have hcon : gb_conn n (fun q => nI (b q)) (o (s (ar p))) p := (w1.2.1 _ _ a3 hp).mp a4
    have hz := hno (ar p) (by omega) (by rw [← gb_b_eq a3 hb hcon]; exact hp0)
    rw [gb_cnt_eq _ (fun q _ => gt_br_conn a3 hcon q)] at hz
    exact hz
  · obtain ⟨a1, a2, a3, a4, a5⟩ := gs_W_area w1 hbc
    have hle := gb_cnt_le (P := gt_br n (fun q => nI (b q)) (o (s a))) (n * n)
    refine xa_aload_n d_Chart_hasStringWithoutBreath_13 rfl ?_
    refine xa_iload_n d_Chart_hasStringWithoutBreath_14 rfl ?_
    refine xa_callVr (As := [.int (nI a)]) (st := []) d_Chart_hasStringWithoutBreath_15 k_Chart_60 r1 (c_Chart_isFree hr.1 hW hbc) rfl rfl (Nat.le_of_ble_eq_true rfl) ⟨by have := hR.1; show 1 + 1 ≤ _; omega, by have := hR.2; show 8 + (2 + 11) + 21 ≤ _; omega⟩ (by omega) (by omega) ?_
    have again : (b (o (s a)) ≠ 0 → gb_cnt (gt_br n (fun q => nI (b q)) (o (s a))) (n * n) ≠ 0) → xa_X l D H0 M_Chart_hasStringWithoutBreath R (xa_Zr D H0 0 0 (fun v h' sz' => ((v = some (.int 1) ∧ ¬ gx_br n b) ∨ (v = some (.int 0) ∧ gx_br n b)) ∧ h' = h ∧ sz' = sz)) 0 0 h sz 32 [(0, .ref ch), (1, .int (nI a))] [] := by
      intro hz
      refine xa_iincN d_Chart_hasStringWithoutBreath_32 rfl rfl rfl ?_
      refine xa_goto (tgt := 2) d_Chart_hasStringWithoutBreath_35 (by decide) ?_
      refine xa_ls ?_ (w_hasString hR hr (a + 1) (by omega) (fun a' ha' hb' => ?_))
      · exact ⟨rfl, rfl, trivial⟩
      · by_cases he : a' = a
        · subst he; exact hz hb'
        · exact hno a' (by omega) hb'
    by_cases h0 : b (o (s a)) = 0
    · refine xa_int (y := nI 1) (by rw [if_pos h0]; rfl) ?_
      refine xa_if_neN (tgt := 32) d_Chart_hasStringWithoutBreath_18 (by decide) (by omega) (fun hq => ?_) (fun hq => ?_)
      · exact again (fun z => absurd h0 z)
      · omega
    · refine xa_int (y := nI 0) (by rw [if_neg h0]; rfl) ?_
      refine xa_if_neN (tgt := 32) d_Chart_hasStringWithoutBreath_18 (by decide) (by omega) (fun hq => ?_) (fun hq => ?_)
      · omega
      ·
        refine xa_aload_n d_Chart_hasStringWithoutBreath_21 rfl ?_
        refine xa_getf f_Chart_34 d_Chart_hasStringWithoutBreath_22 (by assumption) (by rfl) ?_
        refine xa_iload_n d_Chart_hasStringWithoutBreath_25 rfl ?_
        refine xa_ialdE d_Chart_hasStringWithoutBreath_26 r9 rfl (show a < n * n by omega) (by omega) (hBR a hbc h0) ?_
        refine xa_if_neN (tgt := 32) d_Chart_hasStringWithoutBreath_27 (by decide) (by omega) (fun hq2 => ?_) (fun hq2 => ?_)
        · exact again (fun _ => by omega)
        ·
          refine xa_iconst (v := nI 1) d_Chart_hasStringWithoutBreath_30 rfl ?_
          exact xa_zreturn (v := nI 1) d_Chart_hasStringWithoutBreath_31 rfl (by decide) (by omega) (by omega) ⟨Or.inl ⟨rfl, fun z => z _ a3 h0 hq2⟩, rfl, rfl⟩
termination_by c - a
decreasing_by omega
theorem c_Chart_hasString {n ch g aK c : Nat} {f A O S BR : Nat → Int32} {b ar o s : Nat → Nat} (hr : xq_R D h n ch g aK c f A O S BR b ar o s) :
    xa_M l D H0 M_Chart_hasStringWithoutBreath 2 42 0 0 [.ref ch] h sz (fun v h' sz' => ((v = some (.int 1) ∧ ¬ gx_br n b) ∨ (v = some (.int 0) ∧ gx_br n b)) ∧ h' = h ∧ sz' = sz) := by
  refine xa_enter (by decide) rfl rfl ?_
  refine xa_iconst (v := nI 0) d_Chart_hasStringWithoutBreath_0 rfl ?_
  refine xa_istore_n d_Chart_hasStringWithoutBreath_1 rfl rfl ?_
  refine xa_ls ?_ (w_hasString ⟨by decide, by decide⟩ hr 0 (by omega) (fun a' ha' => by omega))
  exact ⟨rfl, rfl, trivial⟩
theorem w_countStrings {n ch g aK c sd : Nat} {f A O S BR HO : Nat → Int32} {b ar o s : Nat → Nat} (hR : 2 ≤ R.frames ∧ 42 ≤ R.locals) (hr : xq_R D h n ch g aK c f A O S BR b ar o s) (hH : h (ch + 7) = some (.inl (D.1 100, n * n, .inl HO))) (hHO : ∀ a, a < c → HO a = nI (gx_own n b (o (s a)))) (hsd : sd = 1 ∨ sd = 2) (a : Nat) (ha : a ≤ c) :
    xa_X l D H0 M_Chart_countStrings R (xa_Zr D H0 0 0 (fun v h' sz' => v = some (.int (nI (gb_cnt (fun p => b p = sd ∧ gx_lst n (fun q => nI (b q)) p) (n * n)))) ∧ h' = h ∧ sz' = sz)) 0 0 h sz 4 [(0, .ref ch), (1, .int (nI sd)), (2, .int (nI (gb_cnt (fun a => b (o (s a)) = sd) a))), (3, .int (nI a))] [] := by
  obtain ⟨⟨r1, r2, r3, r4, r5, r6, r7, r8, hN, hf, hb⟩, r9, hW, hBR⟩ := id hr
  obtain ⟨w1, w2, w3, w4⟩ := id hW
  have hcN : c ≤ n * n := w1.2.2.2.2.2.2.2.2.2.2
  refine xa_iload_n d_Chart_countStrings_4 rfl ?_
  refine xa_aload_n d_Chart_countStrings_5 rfl ?_
  refine xa_getf f_Chart_24 d_Chart_countStrings_6 (by assumption) (by rfl) ?_
  refine xa_getf f_Chart_59 d_Chart_countStrings_9 (by assumption) (by rfl) ?_
  refine xa_icmp_geN (tgt := 42) d_Chart_countStrings_12 (by decide) (by omega) (by omega) (fun hbc => ?_) (fun hbc => ?_)
  · have hac : a = c := by omega
    subst hac
    refine xa_iload_n d_Chart_countStrings_42 rfl ?_
    exact xa_ireturn d_Chart_countStrings_43 rfl (by omega) (by omega) ⟨by rw [gs_W_cnt w1 (fun p => b p = sd)], rfl, rfl⟩
  · obtain ⟨a1, a2, a3, a4, a5⟩ := gs_W_area w1 hbc
    have hown := gx_own_le a3 hb
    refine xa_aload_n d_Chart_countStrings_15 rfl ?_
    refine xa_iload_n d_Chart_countStrings_16 rfl ?_
    refine xa_callVr (As := [.int (nI a)]) (st := []) d_Chart_countStrings_17 k_Chart_60 r1 (c_Chart_isFree hr.1 hW hbc) rfl rfl (Nat.le_of_ble_eq_true rfl) ⟨by have := hR.1; show 1 + 1 ≤ _; omega, by have := hR.2; show 8 + (2 + 11) + 21 ≤ _; omega⟩ (by omega) (by omega) ?_
    have no : b (o (s a)) ≠ sd → xa_X l D H0 M_Chart_countStrings R (xa_Zr D H0 0 0 (fun v h' sz' => v = some (.int (nI (gb_cnt (fun p => b p = sd ∧ gx_lst n (fun q => nI (b q)) p) (n * n)))) ∧ h' = h ∧ sz' = sz)) 0 0 h sz 36 [(0, .ref ch), (1, .int (nI sd)), (2, .int (nI (gb_cnt (fun a => b (o (s a)) = sd) a))), (3, .int (nI a))] [] := by
      intro hz
      refine xa_iincN d_Chart_countStrings_36 rfl rfl rfl ?_
      refine xa_goto (tgt := 4) d_Chart_countStrings_39 (by decide) ?_
      refine xa_ls ?_ (w_countStrings hR hr hH hHO hsd (a + 1) (by omega))
      exact ⟨rfl, rfl, by rw [gb_cnt_n (P := fun a => b (o (s a)) = sd) hz]; rfl, rfl, trivial⟩
    by_cases h0 : b (o (s a)) = 0
    · refine xa_int (y := nI 1) (by rw [if_pos h0]; rfl) ?_
      refine xa_if_neN (tgt := 36) d_Chart_countStrings_20 (by decide) (by omega) (fun hq => ?_) (fun hq => ?_)
      · exact no (by omega)
      · omega
    · refine xa_int (y := nI 0) (by rw [if_neg h0]; rfl) ?_
      refine xa_if_neN (tgt := 36) d_Chart_countStrings_20 (by decide) (by omega) (fun hq => ?_) (fun hq => ?_)
      · omega
      · have hx : gx_own n b (o (s a)) = b (o (s a)) := if_neg h0
        refine xa_aload_n d_Chart_countStrings_23 rfl ?_
        refine xa_getf f_Chart_40 d_Chart_countStrings_24 (by assumption) (by rfl) ?_
        refine xa_iload_n d_Chart_countStrings_27 rfl ?_
        refine xa_ialdE d_Chart_countStrings_28 hH rfl (show a < n * n by omega) (by omega) (hHO a hbc) ?_
        refine xa_iload_n d_Chart_countStrings_29 rfl ?_
        refine xa_icmp_neN (tgt := 36) d_Chart_countStrings_30 (by decide) (by omega) (by omega) (fun hq2 => ?_) (fun hq2 => ?_)
        · exact no (by rw [← hx]; exact hq2)
        ·
          refine xa_iincN d_Chart_countStrings_33 rfl rfl rfl ?_
          refine xa_iincN d_Chart_countStrings_36 rfl rfl rfl ?_
          refine xa_goto (tgt := 4) d_Chart_countStrings_39 (by decide) ?_
          refine xa_ls ?_ (w_countStrings hR hr hH hHO hsd (a + 1) (by omega))
          exact ⟨rfl, rfl, by rw [gb_cnt_y (P := fun a => b (o (s a)) = sd) (by rw [← hx]; exact hq2)]; rfl, rfl, trivial⟩
termination_by c - a
decreasing_by all_goals omega
theorem c_Chart_countStrings {n ch g aK c sd : Nat} {f A O S BR HO : Nat → Int32} {b ar o s : Nat → Nat} (hr : xq_R D h n ch g aK c f A O S BR b ar o s) (hH : h (ch + 7) = some (.inl (D.1 100, n * n, .inl HO))) (hHO : ∀ a, a < c → HO a = nI (gx_own n b (o (s a)))) (hsd : sd = 1 ∨ sd = 2) :
    xa_M l D H0 M_Chart_countStrings 2 42 0 0 [.ref ch, .int (nI sd)] h sz (fun v h' sz' => v = some (.int (nI (gb_cnt (fun p => b p = sd ∧ gx_lst n (fun q => nI (b q)) p) (n * n)))) ∧ h' = h ∧ sz' = sz) := by
  refine xa_enter (by decide) rfl rfl ?_
  refine xa_iconst (v := nI 0) d_Chart_countStrings_0 rfl ?_
  refine xa_istore_n d_Chart_countStrings_1 rfl rfl ?_
  refine xa_iconst (v := nI 0) d_Chart_countStrings_2 rfl ?_
  refine xa_istore_n d_Chart_countStrings_3 rfl rfl ?_
  refine xa_ls ?_ (w_countStrings ⟨by decide, by decide⟩ hr hH hHO hsd 0 (by omega))
  exact ⟨rfl, rfl, rfl, rfl, trivial⟩
theorem w_countGround {n ch g aK c sd : Nat} {f A O S BR HO : Nat → Int32} {b ar o s : Nat → Nat} (hR : 1 ≤ R.frames ∧ 21 ≤ R.locals) (hr : xq_R D h n ch g aK c f A O S BR b ar o s) (hH : h (ch + 7) = some (.inl (D.1 100, n * n, .inl HO))) (hHO : ∀ a, a < c → HO a = nI (gx_own n b (o (s a)))) (hsd : sd ≤ 2) (a : Nat) (ha : a ≤ c) :
    xa_X l D H0 M_Chart_countGround R (xa_Zr D H0 0 0 (fun v h' sz' => v = some (.int (nI (gb_cnt (fun p => gx_own n b p = sd) (n * n)))) ∧ h' = h ∧ sz' = sz)) 0 0 h sz 4 [(0, .ref ch), (1, .int (nI sd)), (2, .int (nI (gb_cnt (fun p => ar p < a ∧ gx_own n b p = sd) (n * n)))), (3, .int (nI a))] [] := by
  obtain ⟨⟨r1, r2, r3, r4, r5, r6, r7, r8, hN, hf, hb⟩, r9, hW, hBR⟩ := id hr
  obtain ⟨w1, w2, w3, w4⟩ := id hW
  have hcN : c ≤ n * n := w1.2.2.2.2.2.2.2.2.2.2
  refine xa_iload_n d_Chart_countGround_4 rfl ?_
  refine xa_aload_n d_Chart_countGround_5 rfl ?_
  refine xa_getf f_Chart_24 d_Chart_countGround_6 (by assumption) (by rfl) ?_
  refine xa_getf f_Chart_59 d_Chart_countGround_9 (by assumption) (by rfl) ?_
  refine xa_icmp_geN (tgt := 42) d_Chart_countGround_12 (by decide) (by omega) (by omega) (fun hbc => ?_) (fun hbc => ?_)
  · have hac : a = c := by omega
    subst hac
    refine xa_iload_n d_Chart_countGround_42 rfl ?_
    exact xa_ireturn d_Chart_countGround_43 rfl (by omega) (by omega) ⟨by rw [gb_cnt_eq _ (fun q hq => ⟨fun z => z.2, fun z => ⟨w1.1 q hq, z⟩⟩)], rfl, rfl⟩
  · obtain ⟨a1, a2, a3, a4, a5⟩ := gs_W_area w1 hbc
    have hown := gx_own_le a3 hb
    have hse := gs_W_size w1 hbc
    have hlt := w1.2.2.2.2.2.2.2.1 a hbc
    have hin : ∀ q, q < n * n → ar q = a → gx_own n b q = gx_own n b (o (s a)) := fun q hq he => gx_own_conn a3 hb ((w1.2.1 _ _ a3 hq).mp (by rw [a4, he]))
    refine xa_aload_n d_Chart_countGround_15 rfl ?_
    refine xa_getf f_Chart_40 d_Chart_countGround_16 (by assumption) (by rfl) ?_
    refine xa_iload_n d_Chart_countGround_19 rfl ?_
    refine xa_ialdE d_Chart_countGround_20 hH rfl (show a < n * n by omega) (by omega) (hHO a hbc) ?_
    refine xa_iload_n d_Chart_countGround_21 rfl ?_
    refine xa_icmp_neN (tgt := 36) d_Chart_countGround_22 (by decide) (by omega) (by omega) (fun hq2 => ?_) (fun hq2 => ?_)
    ·
      refine xa_iincN d_Chart_countGround_36 rfl rfl rfl ?_
      refine xa_goto (tgt := 4) d_Chart_countGround_39 (by decide) ?_
      refine xa_ls ?_ (w_countGround hR hr hH hHO hsd (a + 1) (by omega))
      suffices e : gb_cnt (fun p => ar p < a ∧ gx_own n b p = sd) (n * n) = gb_cnt (fun p => ar p < a + 1 ∧ gx_own n b p = sd) (n * n) from ⟨rfl, rfl, by rw [e]; rfl, rfl, trivial⟩
      refine gb_cnt_eq _ (fun q hq => ?_)
      constructor
      · exact fun z => ⟨by omega, z.2⟩
      · intro z
        refine ⟨?_, z.2⟩
        by_cases he : ar q = a
        · exact absurd ((hin q hq he).symm.trans z.2) hq2
        · omega
    ·
      refine xa_iload_n d_Chart_countGround_25 rfl ?_
      refine xa_aload_n d_Chart_countGround_26 rfl ?_
      refine xa_getf f_Chart_24 d_Chart_countGround_27 (by assumption) (by rfl) ?_
      refine xa_iload_n d_Chart_countGround_30 rfl ?_
      refine xa_callVr (As := [.int (nI a)]) (st := [.int (nI (gb_cnt (fun p => ar p < a ∧ gx_own n b p = sd) (n * n)))]) d_Chart_countGround_31 k_Chart_75 r2 (c_Areas_sizeOf (s := s) r2 r5 hN (by omega) (w4 a (by omega)) (w4 (a + 1) (by omega)) (by omega)) rfl rfl (Nat.le_of_ble_eq_true rfl) ⟨hR.1, hR.2⟩ (by omega) (by omega) ?_
      refine xa_iaddN d_Chart_countGround_34 ?_
      refine xa_istore_n d_Chart_countGround_35 rfl rfl ?_
      refine xa_iincN d_Chart_countGround_36 rfl rfl rfl ?_
      refine xa_goto (tgt := 4) d_Chart_countGround_39 (by decide) ?_
      refine xa_ls ?_ (w_countGround hR hr hH hHO hsd (a + 1) (by omega))
      suffices e : gb_cnt (fun p => ar p < a + 1 ∧ gx_own n b p = sd) (n * n) = gb_cnt (fun p => ar p < a ∧ gx_own n b p = sd) (n * n) + (s (a + 1) - s a) from ⟨rfl, rfl, by rw [e]; rfl, rfl, trivial⟩
      rw [← hse, ← gb_cnt_or (P := fun p => ar p < a ∧ gx_own n b p = sd) (P' := gb_conn n (fun q => nI (b q)) (o (s a)))]
      rotate_left
      · rintro q hq ⟨z1, z2⟩
        have := (w1.2.1 _ _ a3 hq).mpr z2
        omega
      · refine gb_cnt_eq _ (fun q hq => ?_)
        constructor
        · intro z
          by_cases he : ar q = a
          · exact Or.inr ((w1.2.1 _ _ a3 hq).mp (by rw [a4, he]))
          · exact Or.inl ⟨by omega, z.2⟩
        · rintro (z | z)
          · exact ⟨by omega, z.2⟩
          · have he := (w1.2.1 _ _ a3 hq).mpr z
            exact ⟨by omega, by rw [hin q hq (by omega)]; exact hq2⟩
termination_by c - a
decreasing_by all_goals omega
theorem c_Chart_countGround {n ch g aK c sd : Nat} {f A O S BR HO : Nat → Int32} {b ar o s : Nat → Nat} (hr : xq_R D h n ch g aK c f A O S BR b ar o s) (hH : h (ch + 7) = some (.inl (D.1 100, n * n, .inl HO))) (hHO : ∀ a, a < c → HO a = nI (gx_own n b (o (s a)))) (hsd : sd ≤ 2) :
    xa_M l D H0 M_Chart_countGround 1 21 0 0 [.ref ch, .int (nI sd)] h sz (fun v h' sz' => v = some (.int (nI (gb_cnt (fun p => gx_own n b p = sd) (n * n)))) ∧ h' = h ∧ sz' = sz) := by
  refine xa_enter (by decide) rfl rfl ?_
  refine xa_iconst (v := nI 0) d_Chart_countGround_0 rfl ?_
  refine xa_istore_n d_Chart_countGround_1 rfl rfl ?_
  refine xa_iconst (v := nI 0) d_Chart_countGround_2 rfl ?_
  refine xa_istore_n d_Chart_countGround_3 rfl rfl ?_
  refine xa_ls ?_ (w_countGround ⟨by decide, by decide⟩ hr hH hHO hsd 0 (by omega))
  exact ⟨rfl, rfl, by rw [gb_cnt_0 _ (fun q _ z => Nat.not_lt_zero _ z.1)]; rfl, rfl, trivial⟩
end CH2
