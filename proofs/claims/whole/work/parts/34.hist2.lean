/-! History: its state; addMove, addPass, dropLatest, beginWith, History(). -/
def xh_K (hi T a : Nat) : Prop := hi + 1 < a ∧ (a ≤ hi + 3 ∨ T ≤ a)
def xh_up {α : Type} (f : Nat → α) (m : Nat) (x : α) : Nat → α := fun i => if i = m then x else f i
theorem xh_up_eq {α : Type} (f : Nat → α) (m : Nat) (x : α) : xh_up f m x m = x := if_pos rfl
theorem xh_up_ne {α : Type} (f : Nat → α) {m i : Nat} (x : α) (h : i ≠ m) : xh_up f m x i = f i := if_neg h
def xh_S (D : va_G) (h : xa_H) (hi T N m : Nat) (bd : Nat → Nat → Nat) (pt : Nat → Int32) (tb tw : Nat → Nat) : Prop :=
  ∃ (q B : Nat → Nat) (ob F : Nat → Option Nat) (V : Nat → Nat → Nat), h hi = some (.inr (4, [.ref (q m), .ref (hi + 1)])) ∧ h (hi + 1) = some (.inl (D.1 103, 128, .inr (.inr (.inr (.inr F))))) ∧ xh_P D h N m q B ob pt tb tw V ∧ xh_B N m q ob F V ∧ (∀ i, i ≤ m → gp_B N (bd i) (V i)) ∧ ∀ i, i ≤ m → xh_K hi T (q i) ∧ xh_K hi T (B i)
theorem xh_S_frame {D : va_G} {h h' : xa_H} {hi T N m : Nat} {bd : Nat → Nat → Nat} {pt : Nat → Int32} {tb tw : Nat → Nat} (hS : xh_S D h hi T N m bd pt tb tw) (hf : ∀ a e, h a = some e → (a = hi ∨ a = hi + 1 ∨ xh_K hi T a) → h' a = some e) : xh_S D h' hi T N m bd pt tb tw := by
  obtain ⟨q, B, ob, F, V, e1, e2, hP, hB, hV, hK⟩ := hS
  exact ⟨q, B, ob, F, V, hf _ _ e1 (Or.inl rfl), hf _ _ e2 (Or.inr (Or.inl rfl)), fun i hi' => ⟨hf _ _ (hP i hi').1 (Or.inr (Or.inr (hK i hi').1)), hf _ _ (hP i hi').2 (Or.inr (Or.inr (hK i hi').2))⟩, hB, hV, hK⟩
theorem xh_keep {D : va_G} {h : xa_H} {hi T N c sz aB : Nat} {q B : Nat → Nat} {ob F : Nat → Option Nat} {V : Nat → Nat → Nat} {bd : Nat → Nat → Nat} {pt : Nat → Int32} {tb tw : Nat → Nat} {t W : Nat → Nat} {pt' : Int32} {x y : Nat}
    (hP : ∀ i, i < c → h (q i) = some (.inr (6, [va_rf (if i = 0 then none else some (q (i - 1))), va_rf (ob i), .ref (B i), .int (nI i), .int (pt i), .int (nI (tb i)), .int (nI (tw i))])) ∧ h (B i) = some (xp_c D N (V i)))
    (hB1 : ∀ i, i < c → ob i = (gh_top (fun j => gh (V j) ((N + 31) / 32)) (gh (V i) ((N + 31) / 32)) i).map q) (hB2 : ∀ u, u < 128 → F u = (gh_top (fun j => gh (V j) ((N + 31) / 32)) u c).map q)
    (hV : ∀ i, i < c → gp_B N (bd i) (V i)) (hK : ∀ i, i < c → xh_K hi T (q i) ∧ xh_K hi T (B i)) (hlt : ∀ a e, h a = some e → a < sz) (hW : h aB = some (xp_c D N W)) (ht : gp_B N t W) (hKB : xh_K hi T aB) (hKs : xh_K hi T sz) :
    xh_S D (xk_h D h hi sz aB c (if c = 0 then none else some (q (c - 1))) (F (gh W ((N + 31) / 32))) pt' (nI x) (nI y) F (gh W ((N + 31) / 32))) hi T N c (xh_up bd c t) (xh_up pt c pt') (xh_up tb c x) (xh_up tw c y) := by
  have hz : ∀ a e, h a = some e → xh_K hi T a → xk_h D h hi sz aB c (if c = 0 then none else some (q (c - 1))) (F (gh W ((N + 31) / 32))) pt' (nI x) (nI y) F (gh W ((N + 31) / 32)) a = some e := fun a e ha hk => by
    have := hlt a e ha
    have := hk.1
    exact xa_u_ne (xa_u_ne (xa_u_ne ha (by omega)) (by omega)) (by omega)
  have hmap : ∀ (u i : Nat), i ≤ c → (gh_top (fun j => gh (xh_up V c W j) ((N + 31) / 32)) u i).map (xh_up q c sz) = (gh_top (fun j => gh (V j) ((N + 31) / 32)) u i).map q := fun u i hic => by
    rw [gh_top_ext (hs' := fun j => gh (V j) ((N + 31) / 32)) (fun j hj => by show gh (xh_up V c W j) _ = _; rw [xh_up_ne _ _ (by omega)])]
    cases hg : gh_top (fun j => gh (V j) ((N + 31) / 32)) u i with
    | none => rfl
    | some j =>
      have := (gh_top_some hg).1
      show some (xh_up q c sz j) = some (q j)
      rw [xh_up_ne _ _ (by omega)]
  refine ⟨xh_up q c sz, xh_up B c aB, xh_up ob c (F (gh W ((N + 31) / 32))), va_up F (gh W ((N + 31) / 32)) (some sz), xh_up V c W, ?_, xa_u_eq _ _ _, fun i hic => ?_, ⟨fun i hic => ?_, fun u hu => ?_⟩, fun i hic => ?_, fun i hic => ?_⟩
  · rw [xh_up_eq]
    exact xa_u_ne (xa_u_eq _ _ _) (by omega)
  · by_cases hc : i = c
    · subst hc
      rw [xh_up_eq, xh_up_eq, xh_up_eq, xh_up_eq, xh_up_eq, xh_up_eq, xh_up_eq]
      refine ⟨?_, hz _ _ hW hKB⟩
      have e1 : (if i = 0 then none else some (xh_up q i sz (i - 1))) = (if i = 0 then none else some (q (i - 1))) := by
        by_cases h0 : i = 0
        · rw [if_pos h0, if_pos h0]
        · rw [if_neg h0, if_neg h0, xh_up_ne _ _ (by omega)]
      rw [e1]
      have := hKs.1
      exact xa_u_ne (xa_u_ne (xa_u_eq _ _ _) (by omega)) (by omega)
    · rw [xh_up_ne _ _ hc, xh_up_ne _ _ hc, xh_up_ne _ _ hc, xh_up_ne _ _ hc, xh_up_ne _ _ hc, xh_up_ne _ _ hc, xh_up_ne _ _ hc, xh_up_ne _ _ (by omega)]
      exact ⟨hz _ _ (hP i (by omega)).1 (hK i (by omega)).1, hz _ _ (hP i (by omega)).2 (hK i (by omega)).2⟩
  · rw [hmap _ _ hic]
    by_cases hc : i = c
    · subst hc
      rw [xh_up_eq, xh_up_eq]
      exact hB2 _ (gh_lt _ _)
    · rw [xh_up_ne _ _ hc, xh_up_ne _ _ hc]
      exact hB1 i (by omega)
  · unfold gh_top
    show va_up F (gh W ((N + 31) / 32)) (some sz) u = Option.map (xh_up q c sz) (if gh (xh_up V c W c) ((N + 31) / 32) = u then some c else gh_top (fun j => gh (xh_up V c W j) ((N + 31) / 32)) u c)
    rw [xh_up_eq]
    by_cases hg : gh W ((N + 31) / 32) = u
    · rw [if_pos hg]
      show va_up F (gh W ((N + 31) / 32)) (some sz) u = some (xh_up q c sz c)
      rw [xh_up_eq, ← hg]
      exact if_pos rfl
    · rw [if_neg hg, hmap _ _ (Nat.le_refl c), ← hB2 u hu]
      exact if_neg (fun z => hg z.symm)
  · by_cases hc : i = c
    · subst hc
      rw [xh_up_eq, xh_up_eq]
      exact ht
    · rw [xh_up_ne _ _ hc, xh_up_ne _ _ hc]
      exact hV i (by omega)
  · by_cases hc : i = c
    · subst hc
      rw [xh_up_eq, xh_up_eq]
      exact ⟨hKs, hKB⟩
    · rw [xh_up_ne _ _ hc, xh_up_ne _ _ hc]
      exact hK i (by omega)
section HL
variable {l : Launch} {D : va_G} {H0 : Heap} {h : xa_H} {sz : Nat} {R : Room}
theorem xk_hn {hi aB nb : Nat} {bf ob : Option Nat} {pt x y : Int32} {F : Nat → Option Nat} {u a : Nat} (h1 : a < sz) (h2 : a ≠ hi) (h3 : a ≠ hi + 1) : xk_h D h hi sz aB nb bf ob pt x y F u a = h a := xa_u_ne (xa_u_ne (xa_u_ne rfl (by omega)) h2) h3
theorem c_History_addMove {hi T N m p aT ls k : Nat} {bd : Nat → Nat → Nat} {pt : Nat → Int32} {tb tw t W : Nat → Nat} (hS : xh_S D h hi T N m bd pt tb tw) (hW : h aT = some (xp_c D N W)) (ht : gp_B N t W) (hN : N ≤ 169) (hT : T ≤ sz) (hls : ls = 1 ∨ ls = 2) :
    xa_M l D H0 M_History_addMove 3 72 2 13 [.ref hi, .int (nI p), .ref aT, .int (nI ls), .int (nI k)] h sz (fun v h' sz' => v = none ∧ xh_S D h' hi T N (m + 1) (xh_up bd (m + 1) t) (xh_up pt (m + 1) (nI p)) (xh_up tb (m + 1) (tb m + if ls = 1 then k else 0)) (xh_up tw (m + 1) (tw m + if ls = 2 then k else 0)) ∧ (∀ a, a < sz → a ≠ hi → a ≠ hi + 1 → h' a = h a) ∧ sz' = sz + 2) := by
  obtain ⟨q, B, ob, F, V, e1, e2, hP, hB, hV, hK⟩ := hS
  refine xa_enter (by decide) rfl rfl ?_
  refine xa_pre (fun h1 h2 => ?_)
  obtain ⟨p1, p2⟩ := hP m (Nat.le_refl m)
  have l1 := (h2 _ _ e1).2
  have l2 := (h2 _ _ e2).2
  have rest2 : ∀ x y, x = tb m + (if ls = 1 then k else 0) → y = tw m + (if ls = 2 then k else 0) → xa_X l D H0 M_History_addMove (xa_rm 3 2 13 72) (xa_Zr D H0 2 13 (fun v h' sz' => v = none ∧ xh_S D h' hi T N (m + 1) (xh_up bd (m + 1) t) (xh_up pt (m + 1) (nI p)) (xh_up tb (m + 1) (tb m + if ls = 1 then k else 0)) (xh_up tw (m + 1) (tw m + if ls = 2 then k else 0)) ∧ (∀ a, a < sz → a ≠ hi → a ≠ hi + 1 → h' a = h a) ∧ sz' = sz + 2)) 0 0 h sz 42 [(0, .ref hi), (1, .int (nI p)), (2, .ref aT), (3, .int (nI ls)), (4, .int (nI k)), (5, .int (nI x)), (6, .int (nI y))] [] := by
    intro x y hx hy
    refine xa_aload_n d_History_addMove_42 rfl ?_
    refine xa_aload_n d_History_addMove_43 rfl ?_
    refine xa_getf f_History_27 d_History_addMove_44 (by assumption) (by rfl) ?_
    refine xa_aload_n d_History_addMove_47 rfl ?_
    refine xa_clone w_clone d_History_addMove_48 hW (by decide) (Nat.le_of_ble_eq_true rfl) (by decide) (show 0 + (N + 31) / 32 ≤ 13 by omega) ?_
    refine xa_castL w_castL d_History_addMove_51 (xa_u_eq _ _ _) ?_
    refine xa_iload_n d_History_addMove_54 rfl ?_
    refine xa_iload d_History_addMove_55 rfl ?_
    refine xa_iload d_History_addMove_57 rfl ?_
    have f1 : xa_u h sz (xp_c D N W) hi = some (.inr (4, [.ref (q m), .ref (hi + 1)])) := xa_u_ne e1 (by omega)
    have f2 : xa_u h sz (xp_c D N W) (hi + 1) = some (.inl (D.1 103, 128, .inr (.inr (.inr (.inr F))))) := xa_u_ne e2 (by omega)
    have f3 := (h2 _ _ p1).2
    refine xa_callVr (As := [.ref (q m), .ref sz, .int (nI p), .int (nI x), .int (nI y)]) (st := []) d_History_addMove_59 k_History_23 f1 (c_History_keep (bf := some (q m)) (nb := m + 1) f1 f2 (xa_u_eq _ _ _) (by omega) (Or.inr ⟨q m, m, _, _, _, _, _, _, rfl, xa_u_ne p1 (by omega), rfl⟩)) rfl rfl (Nat.le_of_ble_eq_true rfl) ⟨by decide, by decide⟩ (by decide) (show 0 + (N + 31) / 32 + 7 ≤ 13 by omega) ?_
    refine xa_return d_History_addMove_62 rfl (by decide) (show 0 + (N + 31) / 32 + 7 ≤ 13 by omega) ⟨rfl, ?_, fun a h3 h4 h5 => ?_, rfl⟩
    · rw [← hx, ← hy]
      refine xh_keep (c := m + 1) (t := t) (fun i hi' => ⟨xa_u_ne (hP i (by omega)).1 ?_, xa_u_ne (hP i (by omega)).2 ?_⟩) (fun i hi' => hB.1 i (by omega)) hB.2 (fun i hi' => hV i (by omega)) (fun i hi' => hK i (by omega)) (fun a e ha => ?_) (xa_u_eq _ _ _) ht ⟨by omega, by omega⟩ ⟨by omega, by omega⟩
      · have := (h2 _ _ (hP i (by omega)).1).2
        omega
      · have := (h2 _ _ (hP i (by omega)).2).2
        omega
      · by_cases ha' : a = sz
        · omega
        · have ha2 : h a = some e := by rw [← ha]; exact (if_neg ha').symm
          have := (h2 _ _ ha2).2
          omega
    · rw [xk_hn (by omega) h4 h5]
      exact xa_u_ne rfl (by omega)
  have rest : ∀ x, x = tb m + (if ls = 1 then k else 0) → xa_X l D H0 M_History_addMove (xa_rm 3 2 13 72) (xa_Zr D H0 2 13 (fun v h' sz' => v = none ∧ xh_S D h' hi T N (m + 1) (xh_up bd (m + 1) t) (xh_up pt (m + 1) (nI p)) (xh_up tb (m + 1) (tb m + if ls = 1 then k else 0)) (xh_up tw (m + 1) (tw m + if ls = 2 then k else 0)) ∧ (∀ a, a < sz → a ≠ hi → a ≠ hi + 1 → h' a = h a) ∧ sz' = sz + 2)) 0 0 h sz 21 [(0, .ref hi), (1, .int (nI p)), (2, .ref aT), (3, .int (nI ls)), (4, .int (nI k)), (5, .int (nI x))] [] := by
    intro x hx
    refine xa_aload_n d_History_addMove_21 rfl ?_
    refine xa_getf f_History_27 d_History_addMove_22 (by assumption) (by rfl) ?_
    refine xa_getf f_History_52 d_History_addMove_25 (by assumption) (by rfl) ?_
    refine xa_iload_n d_History_addMove_28 rfl ?_
    refine xa_iconst (v := nI 2) d_History_addMove_29 rfl ?_
    refine xa_icmp_neN (tgt := 38) d_History_addMove_30 (by decide) (by omega) (by omega) (fun hl => ?_) (fun hl => ?_)
    ·
      refine xa_iconst (v := nI 0) d_History_addMove_38 rfl ?_
      refine xa_iaddN d_History_addMove_39 ?_
      refine xa_istore d_History_addMove_40 rfl rfl ?_
      exact rest2 x _ hx (by rw [if_neg hl])
    ·
      refine xa_iload d_History_addMove_33 rfl ?_
      refine xa_goto (tgt := 39) d_History_addMove_35 (by decide) ?_
      refine xa_iaddN d_History_addMove_39 ?_
      refine xa_istore d_History_addMove_40 rfl rfl ?_
      exact rest2 x _ hx (by rw [if_pos hl])
  refine xa_aload_n d_History_addMove_0 rfl ?_
  refine xa_getf f_History_27 d_History_addMove_1 (by assumption) (by rfl) ?_
  refine xa_getf f_History_48 d_History_addMove_4 (by assumption) (by rfl) ?_
  refine xa_iload_n d_History_addMove_7 rfl ?_
  refine xa_iconst (v := nI 1) d_History_addMove_8 rfl ?_
  refine xa_icmp_neN (tgt := 17) d_History_addMove_9 (by decide) (by omega) (by omega) (fun hl => ?_) (fun hl => ?_)
  ·
    refine xa_iconst (v := nI 0) d_History_addMove_17 rfl ?_
    refine xa_iaddN d_History_addMove_18 ?_
    refine xa_istore d_History_addMove_19 rfl rfl ?_
    exact rest _ (by rw [if_neg hl])
  ·
    refine xa_iload d_History_addMove_12 rfl ?_
    refine xa_goto (tgt := 18) d_History_addMove_14 (by decide) ?_
    refine xa_iaddN d_History_addMove_18 ?_
    refine xa_istore d_History_addMove_19 rfl rfl ?_
    exact rest _ (by rw [if_pos hl])
theorem c_History_addPass {hi T N m : Nat} {bd : Nat → Nat → Nat} {pt : Nat → Int32} {tb tw : Nat → Nat} (hS : xh_S D h hi T N m bd pt tb tw) (hN : N ≤ 169) (hT : T ≤ sz) :
    xa_M l D H0 M_History_addPass 3 72 1 7 [.ref hi] h sz (fun v h' sz' => v = none ∧ xh_S D h' hi T N (m + 1) (xh_up bd (m + 1) (bd m)) (xh_up pt (m + 1) (-1)) (xh_up tb (m + 1) (tb m)) (xh_up tw (m + 1) (tw m)) ∧ (∀ a, a < sz → a ≠ hi → a ≠ hi + 1 → h' a = h a) ∧ sz' = sz + 1) := by
  obtain ⟨q, B, ob, F, V, e1, e2, hP, hB, hV, hK⟩ := hS
  refine xa_enter (by decide) rfl rfl ?_
  refine xa_pre (fun h1 h2 => ?_)
  obtain ⟨p1, p2⟩ := hP m (Nat.le_refl m)
  have l1 := (h2 _ _ e1).2
  have l2 := (h2 _ _ e2).2
  refine xa_aload_n d_History_addPass_0 rfl ?_
  refine xa_aload_n d_History_addPass_1 rfl ?_
  refine xa_getf f_History_27 d_History_addPass_2 (by assumption) (by rfl) ?_
  refine xa_aload_n d_History_addPass_5 rfl ?_
  refine xa_getf f_History_27 d_History_addPass_6 (by assumption) (by rfl) ?_
  refine xa_getf f_History_31 d_History_addPass_9 (by assumption) (by rfl) ?_
  refine xa_iconst (v := -1) d_History_addPass_12 rfl ?_
  refine xa_aload_n d_History_addPass_13 rfl ?_
  refine xa_getf f_History_27 d_History_addPass_14 (by assumption) (by rfl) ?_
  refine xa_getf f_History_48 d_History_addPass_17 (by assumption) (by rfl) ?_
  refine xa_aload_n d_History_addPass_20 rfl ?_
  refine xa_getf f_History_27 d_History_addPass_21 (by assumption) (by rfl) ?_
  refine xa_getf f_History_52 d_History_addPass_24 (by assumption) (by rfl) ?_
  refine xa_callVr (As := [.ref (q m), .ref (B m), .int (-1), .int (nI (tb m)), .int (nI (tw m))]) (st := []) d_History_addPass_27 k_History_23 e1 (c_History_keep (bf := some (q m)) (nb := m + 1) e1 e2 p2 (by omega) (Or.inr ⟨q m, m, _, _, _, _, _, _, rfl, p1, rfl⟩)) rfl rfl (Nat.le_of_ble_eq_true rfl) ⟨by decide, by decide⟩ (by decide) (by decide) ?_
  refine xa_return d_History_addPass_30 rfl (by decide) (by decide) ⟨rfl, ?_, fun a h3 h4 h5 => xk_hn h3 h4 h5, rfl⟩
  exact xh_keep (c := m + 1) (t := bd m) (fun i hi' => hP i (by omega)) (fun i hi' => hB.1 i (by omega)) hB.2 (fun i hi' => hV i (by omega)) (fun i hi' => hK i (by omega)) (fun a e ha => (h2 _ _ ha).2) p2 (hV m (Nat.le_refl m)) (hK m (Nat.le_refl m)).2 ⟨by omega, by omega⟩
theorem c_History_dropLatest {hi T N m : Nat} {bd : Nat → Nat → Nat} {pt : Nat → Int32} {tb tw : Nat → Nat} (hS : xh_S D h hi T N (m + 1) bd pt tb tw) (hN : N ≤ 169) :
    xa_M l D H0 M_History_dropLatest 2 48 0 0 [.ref hi] h sz (fun v h' sz' => v = none ∧ xh_S D h' hi T N m bd pt tb tw ∧ (∀ a, a ≠ hi → a ≠ hi + 1 → h' a = h a) ∧ sz' = sz) := by
  obtain ⟨q, B, ob, F, V, e1, e2, hP, hB, hV, hK⟩ := hS
  refine xa_enter (by decide) rfl rfl ?_
  obtain ⟨p1, p2⟩ := hP (m + 1) (Nat.le_refl _)
  rw [if_neg (by omega)] at p1
  have hob : ∀ a, ob (m + 1) = some a → ∃ vs, h a = some (.inr (6, vs)) := fun a ha => by
    rw [hB.1 (m + 1) (Nat.le_refl _)] at ha
    cases hg : gh_top (fun j => gh (V j) ((N + 31) / 32)) (gh (V (m + 1)) ((N + 31) / 32)) (m + 1) with
    | none => rw [hg] at ha; cases ha
    | some j =>
      rw [hg] at ha
      cases ha
      have := (gh_top_some hg).1
      exact ⟨_, (hP j (by omega)).1⟩
  refine xa_aload_n d_History_dropLatest_0 rfl ?_
  refine xa_getf f_History_27 d_History_dropLatest_1 (by assumption) (by rfl) ?_
  refine xa_getf f_History_55 d_History_dropLatest_4 (by assumption) (by rfl) ?_
  refine xa_ifnull d_History_dropLatest_7 ?_
  refine xa_aload_n d_History_dropLatest_10 rfl ?_
  refine xa_aload_n d_History_dropLatest_11 rfl ?_
  refine xa_getf f_History_27 d_History_dropLatest_12 (by assumption) (by rfl) ?_
  refine xa_callVr (As := [.ref (q (m + 1))]) (st := []) d_History_dropLatest_15 k_History_44 e1 (c_History_takeOut e1 e2 p1 p2 (by omega) hob) rfl rfl (Nat.le_of_ble_eq_true rfl) ⟨by decide, by decide⟩ (by decide) (by decide) ?_
  have k1 := (hK (m + 1) (Nat.le_refl _)).1
  have f1 : xa_u h (hi + 1) (.inl (D.1 103, 128, .inr (.inr (.inr (.inr (va_up F (gh (V (m + 1)) ((N + 31) / 32)) (ob (m + 1)))))))) hi = some (.inr (4, [.ref (q (m + 1)), .ref (hi + 1)])) := xa_u_ne e1 (by omega)
  have f2 : xa_u h (hi + 1) (.inl (D.1 103, 128, .inr (.inr (.inr (.inr (va_up F (gh (V (m + 1)) ((N + 31) / 32)) (ob (m + 1)))))))) (q (m + 1)) = some (.inr (6, [va_rf (some (q (m + 1 - 1))), va_rf (ob (m + 1)), .ref (B (m + 1)), .int (nI (m + 1)), .int (pt (m + 1)), .int (nI (tb (m + 1))), .int (nI (tw (m + 1)))])) := xa_u_ne p1 (by have := k1.1; omega)
  refine xa_aload_n d_History_dropLatest_18 rfl ?_
  refine xa_aload_n d_History_dropLatest_19 rfl ?_
  refine xa_getf f_History_27 d_History_dropLatest_20 (by assumption) (by rfl) ?_
  refine xa_getf f_History_55 d_History_dropLatest_23 (by assumption) (by rfl) ?_
  refine xa_putf f_History_27 d_History_dropLatest_26 f1 (Nat.le_of_ble_eq_true rfl) rfl rfl ?_
  refine xa_return d_History_dropLatest_29 rfl (by decide) (by decide) ⟨rfl, ?_, fun a h3 h4 => ?_, rfl⟩
  · refine ⟨q, B, ob, va_up F (gh (V (m + 1)) ((N + 31) / 32)) (ob (m + 1)), V, xa_u_eq _ _ _, xa_u_ne (xa_u_eq _ _ _) (by omega), fun i hi' => ?_, ⟨fun i hi' => hB.1 i (by omega), fun u hu => ?_⟩, fun i hi' => hV i (by omega), fun i hi' => hK i (by omega)⟩
    · have k2 := (hK i (by omega)).1.1
      have k3 := (hK i (by omega)).2.1
      exact ⟨xa_u_ne (xa_u_ne (hP i (by omega)).1 (by omega)) (by omega), xa_u_ne (xa_u_ne (hP i (by omega)).2 (by omega)) (by omega)⟩
    · by_cases hu' : u = gh (V (m + 1)) ((N + 31) / 32)
      · rw [hu']
        show (if _ = _ then _ else _) = _
        rw [if_pos rfl]
        exact hB.1 (m + 1) (Nat.le_refl _)
      · show (if u = _ then _ else _) = _
        rw [if_neg hu', hB.2 u hu]
        show Option.map q (if gh (V (m + 1)) ((N + 31) / 32) = u then some (m + 1) else gh_top (fun j => gh (V j) ((N + 31) / 32)) u (m + 1)) = _
        rw [if_neg (fun z => hu' z.symm)]
  · exact xa_u_ne (xa_u_ne rfl h4) h3
theorem c_History_beginWith {hi T N p k : Nat} {bd : Nat → Nat → Nat} {pt : Nat → Int32} {tb tw : Nat → Nat} (hS : xh_S D h hi T N 0 bd pt tb tw) (hN : N ≤ 169) (hT : T ≤ sz) (hp : p < N) (hk : k ≤ 2) :
    xa_M l D H0 M_History_beginWith 3 72 2 13 [.ref hi, .int (nI p), .int (nI k)] h sz (fun v h' sz' => v = none ∧ xh_S D h' hi T N 0 (xh_up bd 0 (fun x => if x = p then k else bd 0 x)) (xh_up pt 0 (-2)) (xh_up tb 0 0) (xh_up tw 0 0) ∧ (∀ a, a < sz → a ≠ hi → a ≠ hi + 1 → h' a = h a) ∧ sz' = sz + 2) := by
  obtain ⟨q, B, ob, F, V, e1, e2, hP, hB, hV, hK⟩ := hS
  refine xa_enter (by decide) rfl rfl ?_
  refine xa_pre (fun h1 h2 => ?_)
  obtain ⟨p1, p2⟩ := hP 0 (Nat.le_refl _)
  have l1 := (h2 _ _ e1).2
  have l2 := (h2 _ _ e2).2
  have l3 := (h2 _ _ p1).2
  have l4 := (h2 _ _ p2).2
  have k1 := (hK 0 (Nat.le_refl _)).1.1
  have k2 := (hK 0 (Nat.le_refl _)).2.1
  have hob : ob 0 = none := hB.1 0 (Nat.le_refl _)
  refine xa_aload_n d_History_beginWith_0 rfl ?_
  refine xa_getf f_History_27 d_History_beginWith_1 (by assumption) (by rfl) ?_
  refine xa_getf f_History_31 d_History_beginWith_4 (by assumption) (by rfl) ?_
  refine xa_clone w_clone d_History_beginWith_7 p2 (by decide) (by decide) (by decide) (show 0 + (N + 31) / 32 ≤ 13 by omega) ?_
  refine xa_castL w_castL d_History_beginWith_10 (xa_u_eq _ _ _) ?_
  refine xa_astore_n d_History_beginWith_13 rfl rfl ?_
  refine xa_aload_n d_History_beginWith_14 rfl ?_
  refine xa_iload_n d_History_beginWith_15 rfl ?_
  refine xa_iload_n d_History_beginWith_16 rfl ?_
  refine xa_callSr (As := [.ref sz, .int (nI p), .int (nI k)]) (st := []) d_History_beginWith_17 k_History_40 (c_Packed_setKind (xa_u_eq _ _ _) (hV 0 (Nat.le_refl _)) hp (by omega) (by omega)) rfl rfl (Nat.le_of_ble_eq_true rfl) ⟨by decide, by decide⟩ (by decide) (show 0 + (N + 31) / 32 + 0 ≤ 13 by omega) ?_
  rw [xa_uu]
  have ht := gp_B_set (hV 0 (Nat.le_refl _)) hp (show k < 4 by omega)
  generalize hWg : (fun i => if i = p / 32 then gp_set (V 0 (p / 32)) (p % 32) k else V 0 i) = W at ht
  have f1 : xa_u h sz (xp_c D N W) hi = some (.inr (4, [.ref (q 0), .ref (hi + 1)])) := xa_u_ne e1 (by omega)
  have f2 : xa_u h sz (xp_c D N W) (hi + 1) = some (.inl (D.1 103, 128, .inr (.inr (.inr (.inr F))))) := xa_u_ne e2 (by omega)
  have f3 : xa_u h sz (xp_c D N W) (q 0) = some (.inr (6, [va_rf (if 0 = 0 then none else some (q (0 - 1))), va_rf (ob 0), .ref (B 0), .int (nI 0), .int (pt 0), .int (nI (tb 0)), .int (nI (tw 0))])) := xa_u_ne p1 (by omega)
  have f4 : xa_u h sz (xp_c D N W) (B 0) = some (xp_c D N (V 0)) := xa_u_ne p2 (by omega)
  refine xa_aload_n d_History_beginWith_20 rfl ?_
  refine xa_aload_n d_History_beginWith_21 rfl ?_
  refine xa_getf f_History_27 d_History_beginWith_22 (by assumption) (by rfl) ?_
  refine xa_callVr (As := [.ref (q 0)]) (st := []) d_History_beginWith_25 k_History_44 f1 (c_History_takeOut f1 f2 f3 f4 (by omega) (fun a ha => by rw [hob] at ha; cases ha)) rfl rfl (Nat.le_of_ble_eq_true rfl) ⟨by decide, by decide⟩ (by decide) (show 0 + (N + 31) / 32 + 0 + 0 ≤ 13 by omega) ?_
  refine xa_aload_n d_History_beginWith_28 rfl ?_
  refine xa_null d_History_beginWith_29 ?_
  refine xa_aload_n d_History_beginWith_30 rfl ?_
  refine xa_bipush (v := -2) d_History_beginWith_31 (by decide) ?_
  refine xa_iconst (v := nI 0) d_History_beginWith_33 rfl ?_
  refine xa_iconst (v := nI 0) d_History_beginWith_34 rfl ?_
  generalize hFg : va_up F (gh (V 0) ((N + 31) / 32)) (ob 0) = F'
  have hF0 : ∀ u, u < 128 → F' u = none := fun u hu => by
    rw [← hFg]
    by_cases hu' : u = gh (V 0) ((N + 31) / 32)
    · rw [hu']
      show (if _ = _ then _ else _) = _
      rw [if_pos rfl]
      exact hob
    · show (if u = _ then _ else _) = _
      rw [if_neg hu', hB.2 u hu]
      show Option.map q (if gh (V 0) ((N + 31) / 32) = u then some 0 else none) = _
      rw [if_neg (fun z => hu' z.symm)]
      rfl
  have g1 : xa_u (xa_u h sz (xp_c D N W)) (hi + 1) (.inl (D.1 103, 128, .inr (.inr (.inr (.inr F'))))) hi = some (.inr (4, [.ref (q 0), .ref (hi + 1)])) := xa_u_ne f1 (by omega)
  have g3 : xa_u (xa_u h sz (xp_c D N W)) (hi + 1) (.inl (D.1 103, 128, .inr (.inr (.inr (.inr F'))))) sz = some (xp_c D N W) := xa_u_ne (xa_u_eq _ _ _) (by omega)
  refine xa_callVr (As := [va_rf none, .ref sz, .int (-2), .int (nI 0), .int (nI 0)]) (st := []) d_History_beginWith_35 k_History_23 g1 (c_History_keep (bf := none) (nb := 0) g1 (xa_u_eq _ _ _) g3 (by omega) (Or.inl ⟨rfl, rfl⟩)) rfl rfl (Nat.le_of_ble_eq_true rfl) ⟨by decide, by decide⟩ (by decide) (show 0 + (N + 31) / 32 + 0 + 0 + 7 ≤ 13 by omega) ?_
  refine xa_return d_History_beginWith_38 rfl (by decide) (show 0 + (N + 31) / 32 + 0 + 0 + 7 ≤ 13 by omega) ⟨rfl, ?_, fun a h3 h4 h5 => ?_, rfl⟩
  · refine xh_keep (c := 0) (q := q) (B := B) (ob := ob) (V := V) (fun i hi' => absurd hi' (Nat.not_lt_zero _)) (fun i hi' => absurd hi' (Nat.not_lt_zero _)) (fun u hu => by rw [hF0 u hu]; rfl) (fun i hi' => absurd hi' (Nat.not_lt_zero _)) (fun i hi' => absurd hi' (Nat.not_lt_zero _)) (fun a e ha => ?_) g3 ht ⟨by omega, by omega⟩ ⟨by omega, by omega⟩
    by_cases ha1 : a = hi + 1
    · omega
    · have ha2 : xa_u h sz (xp_c D N W) a = some e := by rw [← ha]; exact (if_neg ha1).symm
      by_cases ha3 : a = sz
      · omega
      · have ha4 : h a = some e := by rw [← ha2]; exact (if_neg ha3).symm
        have := (h2 _ _ ha4).2
        omega
  · rw [xk_hn (by omega) h4 h5]
    exact xa_u_ne (xa_u_ne rfl (by omega)) h5
theorem c_History_init {hi N : Nat} {T : Nat} (hh : h hi = some (.inr (4, [.null, .null]))) (hs : sz = hi + 1) (hN : N ≤ 169) :
    xa_M l D H0 M_History_init 3 72 3 141 [.ref hi, .int (nI N)] h sz (fun v h' sz' => v = none ∧ xh_S D h' hi T N 0 (fun _ _ => 0) (fun _ => -2) (fun _ => 0) (fun _ => 0) ∧ (∀ a, a < hi → h' a = h a) ∧ sz' = sz + 3) := by
  refine xa_enter (by decide) rfl rfl ?_
  refine xa_pre (fun h1 h2 => ?_)
  subst hs
  refine xa_aload_n d_History_init_0 rfl ?_
  refine xa_objInit k_History_3 w_oi w_oc d_History_init_1 (by decide) (by decide) ?_
  refine xa_aload_n d_History_init_4 rfl ?_
  refine xa_sipush (v := nI 128) d_History_init_5 (by decide) ?_
  refine xa_newq (N := 128) w_cl_pos w_arr_q d_History_init_8 rfl (by decide) (by decide) (Nat.le_of_ble_eq_true rfl) (Nat.le_of_ble_eq_true rfl) ?_
  refine xa_putF f_History_13 rfl (fun q hq => by cases hq; rfl) d_History_init_11 (xa_u_ne hh (by omega)) (Nat.le_of_ble_eq_true rfl) rfl rfl ?_
  refine xa_heap (h' := xa_u (xa_u h (hi + 1) (.inl (D.1 103, 128, .inr (.inr (.inr (.inr (fun _ => none))))))) hi (.inr (4, [.null, .ref (hi + 1)]))) rfl ?_
  refine xa_aload_n d_History_init_14 rfl ?_
  refine xa_null d_History_init_15 ?_
  refine xa_iload_n d_History_init_16 rfl ?_
  refine xa_callSr (As := [.int (nI N)]) (st := [.null, .ref hi]) d_History_init_17 k_History_17 (c_Packed_freeBoard hN) rfl rfl (Nat.le_of_ble_eq_true rfl) ⟨by decide, by decide⟩ (Nat.le_of_ble_eq_true rfl) (Nat.le_of_ble_eq_true rfl) ?_
  refine xa_bipush (v := -2) d_History_init_20 (by decide) ?_
  refine xa_iconst (v := nI 0) d_History_init_22 rfl ?_
  refine xa_iconst (v := nI 0) d_History_init_23 rfl ?_
  generalize hg : xa_u (xa_u h (hi + 1) (.inl (D.1 103, 128, .inr (.inr (.inr (.inr (fun _ => none))))))) hi (.inr (4, [.null, .ref (hi + 1)])) = g
  have g1 : g hi = some (.inr (4, [.null, .ref (hi + 1)])) := by rw [← hg]; exact xa_u_eq _ _ _
  have g2 : g (hi + 1) = some (.inl (D.1 103, 128, .inr (.inr (.inr (.inr (fun _ => none)))))) := by rw [← hg]; exact xa_u_ne (xa_u_eq _ _ _) (by omega)
  have g3 : ∀ a e, g a = some e → a < hi + 2 := fun a e ha => by
    rw [← hg] at ha
    by_cases h5 : a = hi
    · omega
    · by_cases h6 : a = hi + 1
      · omega
      · rw [xa_u_ne (xa_u_ne rfl h6) h5] at ha
        have := (h2 _ _ ha).2
        omega
  refine xa_callVr (As := [va_rf none, .ref (hi + 1 + 1), .int (-2), .int (nI 0), .int (nI 0)]) (st := []) d_History_init_24 k_History_23 (xa_u_ne g1 (by omega)) (c_History_keep (N := N) (V := fun _ => 0) (bf := none) (nb := 0) (xa_u_ne g1 (by omega)) (xa_u_ne g2 (by omega)) (xa_u_eq _ _ _) (by omega) (Or.inl ⟨rfl, rfl⟩)) rfl rfl (Nat.le_of_ble_eq_true rfl) ⟨by decide, by decide⟩ (Nat.le_of_ble_eq_true rfl) (Nat.le_of_ble_eq_true rfl) ?_
  refine xa_return d_History_init_27 rfl (Nat.le_of_ble_eq_true rfl) (Nat.le_of_ble_eq_true rfl) ⟨rfl, ?_, fun a h3 => ?_, by omega⟩
  · have hx := xh_keep (D := D) (h := xa_u g (hi + 1 + 1) (xp_c D N (fun _ => 0))) (hi := hi) (T := T) (N := N) (c := 0) (sz := hi + 1 + 1 + 1) (aB := hi + 1 + 1) (q := fun _ => 0) (B := fun _ => 0) (ob := fun _ => none) (F := fun _ => none) (V := fun _ _ => 0) (bd := fun _ _ => 0) (pt := fun _ => -2) (tb := fun _ => 0) (tw := fun _ => 0) (t := fun _ => 0) (W := fun _ => 0) (pt' := -2) (x := 0) (y := 0)
      (fun i hi' => absurd hi' (Nat.not_lt_zero _)) (fun i hi' => absurd hi' (Nat.not_lt_zero _)) (fun u hu => rfl) (fun i hi' => absurd hi' (Nat.not_lt_zero _)) (fun i hi' => absurd hi' (Nat.not_lt_zero _)) (fun a e ha => by
        by_cases ha1 : a = hi + 1 + 1
        · omega
        · have := g3 a e (by rw [← ha]; exact (if_neg ha1).symm)
          omega) (xa_u_eq _ _ _) (gp_B_0 N) ⟨by omega, by omega⟩ ⟨by omega, by omega⟩
    have u1 : ∀ {α : Type} (x : α), xh_up (fun _ => x) 0 x = fun _ => x := fun x => by
      funext i
      unfold xh_up
      split <;> rfl
    rw [u1, u1, u1] at hx
    exact hx
  · rw [xk_hn (by omega) (by omega) (by omega)]
    rw [← hg]
    exact xa_u_ne (xa_u_ne (xa_u_ne rfl (by omega)) (by omega)) (by omega)
end HL
