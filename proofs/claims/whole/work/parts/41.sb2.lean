/-! StoneBoard: allowed, at, why, ago, move, taken, string, strings, ground, owner. -/
theorem gq_off_un {N : Nat} {C : Nat → Prop} {t0 t t' : Nat → Nat} (h : gq_off N C t0 t) (h' : gq_off N C t0 t') : gx_same N t t' := fun q hq => by
  by_cases hc : C q
  · rw [(h q hq).1 hc, (h' q hq).1 hc]
  · rw [(h q hq).2 hc, (h' q hq).2 hc]
theorem gq_T_un {n : Nat} {b : Nat → Nat} {p sd : Nat} {t t' : Nat → Nat} {k k' ls ls' : Nat} (h : gq_T n b p sd t k ls) (h' : gq_T n b p sd t' k' ls') : gx_same (n * n) t t' ∧ k = k' ∧ ls = ls' := by
  rcases h with ⟨⟨q, a1⟩, a2, a3, a4⟩ | ⟨a1, a2, a3, a4, a5⟩ | ⟨a1, a2, a3, a4, a5⟩ <;> rcases h' with ⟨⟨q', c1⟩, c2, c3, c4⟩ | ⟨c1, c2, c3, c4, c5⟩ | ⟨c1, c2, c3, c4, c5⟩
  · exact ⟨gq_off_un a2 c2, by rw [a3, c3], by rw [a4, c4]⟩
  · exact absurd a1 (c1 q)
  · exact absurd a1 (c1 q)
  · exact absurd c1 (a1 q')
  · exact ⟨fun q hq => by rw [a3 q hq, c3 q hq], by rw [a4, c4], by rw [a5, c5]⟩
  · exact absurd a2 c2
  · exact absurd c1 (a1 q')
  · exact absurd c2 a2
  · exact ⟨gq_off_un a3 c3, by rw [a4, c4], by rw [a5, c5]⟩
theorem gq_T_le {n : Nat} {b : Nat → Nat} {p sd : Nat} {t : Nat → Nat} {k ls : Nat} (hb : ∀ q, q < n * n → b q ≤ 2) (hsd : sd = 1 ∨ sd = 2) (h : gq_T n b p sd t k ls) : (∀ q, q < n * n → t q ≤ 2) ∧ (ls = 1 ∨ ls = 2) := by
  have hpb : ∀ q, q < n * n → (if q = p then sd else b q) ≤ 2 := fun q hq => by
    split
    · omega
    · exact hb q hq
  rcases h with ⟨-, a2, -, a4⟩ | ⟨-, -, a3, -, a5⟩ | ⟨-, -, a3, -, a5⟩
  · refine ⟨fun q hq => ?_, by omega⟩
    by_cases hc : gq_cap n b p (3 - sd) 4 q
    · rw [(a2 q hq).1 hc]; omega
    · rw [(a2 q hq).2 hc]; exact hpb q hq
  · exact ⟨fun q hq => by rw [a3 q hq]; exact hpb q hq, by omega⟩
  · refine ⟨fun q hq => ?_, by omega⟩
    by_cases hc : gq_cap n b p sd 4 q ∨ q = p
    · rw [(a3 q hq).1 hc]; omega
    · rw [(a3 q hq).2 hc]; exact hb q hq
theorem gx_same_tr {N : Nat} {u t t' : Nat → Nat} (h : gx_same N u t) (h' : gx_same N t t') : gx_same N u t' := fun q hq => (h q hq).trans (h' q hq)
theorem gx_same_sy {N : Nat} {u t : Nat → Nat} (h : gx_same N u t) : gx_same N t u := fun q hq => (h q hq).symm
/-- a move is allowed -/
def gx_ok (n fs : Nat) (b : Nat → Nat) (m : Nat) (bd : Nat → Nat → Nat) (pt : Nat → Int32) (p : Nat) : Prop := ¬ gx_end pt m ∧ b p = 0 ∧ ∃ (t : Nat → Nat) (k ls : Nat), gq_T n b p (gx_turn fs m) t k ls ∧ ∀ i, i ≤ m → ¬ gx_same (n * n) (bd i) t
theorem gx_why_yes {D : va_G} {h' : xa_H} {o n fs : Nat} {b : Nat → Nat} {m : Nat} {bd : Nat → Nat → Nat} {pt : Nat → Int32} {p j : Nat} (h : gx_ok n fs b m bd pt p) (hw : gx_why D h' o n fs b m bd pt p j) : j = 0 ∧ ∃ (t : Nat → Nat) (k ls : Nat), gq_T n b p (gx_turn fs m) t k ls ∧ xT_V D h' (o + 13) (o + 1) (o + 3) (o + 4) (n * n) t k ls := by
  obtain ⟨h1, h2, t, k, ls, h3, h4⟩ := h
  rcases hw with ⟨w, -⟩ | ⟨-, w, -⟩ | ⟨-, -, t', k', ls', w3, ⟨⟨i, hi, w4⟩, -⟩ | ⟨-, w5, w6⟩⟩
  · exact absurd w h1
  · exact absurd h2 w
  · exact absurd (gx_same_tr w4 (gq_T_un w3 h3).1) (h4 i hi)
  · exact ⟨w5, t', k', ls', w3, w6⟩
theorem gx_why_no {D : va_G} {h' : xa_H} {o n fs : Nat} {b : Nat → Nat} {m : Nat} {bd : Nat → Nat → Nat} {pt : Nat → Int32} {p j : Nat} (h : ¬ gx_ok n fs b m bd pt p) (hw : gx_why D h' o n fs b m bd pt p j) : 0 < j ∧ j ≤ 3 := by
  rcases hw with ⟨-, w⟩ | ⟨-, -, w⟩ | ⟨w1, w2, t', k', ls', w3, ⟨-, w4⟩ | ⟨w4, w5, -⟩⟩
  · omega
  · omega
  · omega
  · exact absurd ⟨w1, w2, t', k', ls', w3, w4⟩ h
/-- what string answers -/
def gx_str (n : Nat) (b : Nat → Nat) (p w : Nat) (v : Int32) : Prop :=
  (b p = 0 ∧ v = -1) ∨ (b p ≠ 0 ∧ ((w = 0 ∧ v = nI (gb_cnt (gb_conn n (fun q => nI (b q)) p) (n * n))) ∨ (w = 1 ∧ v = nI (gb_cnt (gt_br n (fun q => nI (b q)) p) (n * n))) ∨ (w = 2 ∧ ∃ x, v = nI x ∧ gc_least (n * n) (gb_conn n (fun q => nI (b q)) p) x) ∨ (w = 3 ∧ ∃ x, v = nI x ∧ gc_least (n * n) (gt_br n (fun q => nI (b q)) p) x)))
section SB2
variable {l : Launch} {D : va_G} {H0 : Heap} {h : xa_H} {sz : Nat} {R : Room} {o T n fs : Nat} {b : Nat → Nat} {m : Nat} {bd : Nat → Nat → Nat} {pt : Nat → Int32} {tb tw : Nat → Nat}
theorem w_allowed (hR : 6 ≤ R.frames ∧ 135 ≤ R.locals) (hI : xS_I n fs b m bd) (hT : o + 28 ≤ T) (h0 : xa_H) (p : Nat) (hp : p ≤ n * n) (h : xa_H) (hS : xS_S D h o T n fs b m bd pt tb tw) (hfr : ∀ q, q ≠ o + 13 → q ≠ o + 14 → h q = h0 q) :
    xa_X l D H0 M_SB_allowed R (xa_Zr D H0 0 0 (fun v h' sz' => v = some (.int (nI (gb_cnt (gx_ok n fs b m bd pt) (n * n)))) ∧ xS_S D h' o T n fs b m bd pt tb tw ∧ (∀ q, q ≠ o + 13 → q ≠ o + 14 → h' q = h0 q) ∧ sz' = sz)) 0 0 h sz 4 [(0, .ref o), (1, .int (nI (gb_cnt (gx_ok n fs b m bd pt) p))), (2, .int (nI p))] [] := by
  have s1 := hS.1
  have r6 := xS_grid hS
  have hN : n * n ≤ 169 := Nat.mul_le_mul hI.1.2 hI.1.2
  refine xa_iload_n d_SB_allowed_4 rfl ?_
  refine xa_aload_n d_SB_allowed_5 rfl ?_
  refine xa_getf f_SB_30 d_SB_allowed_6 (by assumption) (by rfl) ?_
  refine xa_getf f_SB_23 d_SB_allowed_9 (by assumption) (by rfl) ?_
  refine xa_icmp_geN (tgt := 32) d_SB_allowed_12 (by decide) (by omega) (by omega) (fun hb => ?_) (fun hb => ?_)
  · have hpe : p = n * n := by omega
    subst hpe
    refine xa_iload_n d_SB_allowed_32 rfl ?_
    exact xa_ireturn d_SB_allowed_33 rfl (by omega) (by omega) ⟨rfl, hS, hfr, rfl⟩
  ·
    refine xa_aload_n d_SB_allowed_15 rfl ?_
    refine xa_iload_n d_SB_allowed_16 rfl ?_
    refine xa_callV (As := [.int (nI p)]) (st := []) d_SB_allowed_17 k_SB_112 s1 (c_SB_judgeMove hS hI hT hb) rfl rfl (Nat.le_of_ble_eq_true rfl) ⟨hR.1, hR.2⟩ (by omega) (by omega) (fun v h' sz' hq => ?_)
    obtain ⟨⟨j, hv, hw⟩, hS', hfr', hz⟩ := hq
    rw [hv, hz]
    have hfr2 : ∀ q, q ≠ o + 13 → q ≠ o + 14 → h' q = h0 q := fun q h1 h2 => by rw [hfr' q h1 h2, hfr q h1 h2]
    by_cases hok : gx_ok n fs b m bd pt p
    · obtain ⟨rfl, -⟩ := gx_why_yes hok hw
      show xa_X l D H0 M_SB_allowed R _ _ _ h' sz 20 _ [.int (nI 0)]
      refine xa_if_neN (tgt := 26) d_SB_allowed_20 (by decide) (by omega) (fun hz2 => ?_) (fun hz2 => ?_)
      · omega
      ·
        refine xa_iincN d_SB_allowed_23 rfl rfl rfl ?_
        refine xa_iincN d_SB_allowed_26 rfl rfl rfl ?_
        refine xa_goto (tgt := 4) d_SB_allowed_29 (by decide) ?_
        refine xa_ls ?_ (w_allowed hR hI hT h0 (p + 1) (by omega) h' hS' hfr2)
        exact ⟨rfl, by rw [gb_cnt_y hok]; rfl, rfl, trivial⟩
    · obtain ⟨hj1, hj2⟩ := gx_why_no hok hw
      show xa_X l D H0 M_SB_allowed R _ _ _ h' sz 20 _ [.int (nI j)]
      refine xa_if_neN (tgt := 26) d_SB_allowed_20 (by decide) (by omega) (fun hz2 => ?_) (fun hz2 => ?_)
      ·
        refine xa_iincN d_SB_allowed_26 rfl rfl rfl ?_
        refine xa_goto (tgt := 4) d_SB_allowed_29 (by decide) ?_
        refine xa_ls ?_ (w_allowed hR hI hT h0 (p + 1) (by omega) h' hS' hfr2)
        exact ⟨rfl, by rw [gb_cnt_n hok]; rfl, rfl, trivial⟩
      · omega
termination_by n * n - p
decreasing_by all_goals omega
theorem c_SB_allowed (hS : xS_S D h o T n fs b m bd pt tb tw) (hI : xS_I n fs b m bd) (hT : o + 28 ≤ T) :
    xa_M l D H0 M_SB_allowed 6 135 0 0 [.ref o] h sz (fun v h' sz' => v = some (.int (nI (gb_cnt (gx_ok n fs b m bd pt) (n * n)))) ∧ xS_S D h' o T n fs b m bd pt tb tw ∧ (∀ q, q ≠ o + 13 → q ≠ o + 14 → h' q = h q) ∧ sz' = sz) := by
  refine xa_enter (by decide) rfl rfl ?_
  refine xa_iconst (v := nI 0) d_SB_allowed_0 rfl ?_
  refine xa_istore_n d_SB_allowed_1 rfl rfl ?_
  refine xa_iconst (v := nI 0) d_SB_allowed_2 rfl ?_
  refine xa_istore_n d_SB_allowed_3 rfl rfl ?_
  refine xa_ls ?_ (w_allowed ⟨by decide, by decide⟩ hI hT h 0 (by omega) h hS (fun _ _ _ => rfl))
  exact ⟨rfl, rfl, rfl, trivial⟩
theorem c_SB_at {p : Nat} (hS : xS_S D h o T n fs b m bd pt tb tw) (hI : xS_I n fs b m bd) (hp : p < n * n) :
    xa_M l D H0 M_SB_at 7 110 0 0 [.ref o, .int (nI p)] h sz (fun v h' sz' => v = some (.int (nI (b p))) ∧ h' = h ∧ sz' = sz) := by
  have s1 := hS.1
  have r8 := xS_stones hS
  have hN : n * n ≤ 169 := Nat.mul_le_mul hI.1.2 hI.1.2
  refine xa_enter (by decide) rfl rfl ?_
  refine xa_aload_n d_SB_at_0 rfl ?_
  refine xa_iload_n d_SB_at_1 rfl ?_
  refine xa_callVr (As := [.int (nI p)]) (st := []) d_SB_at_2 k_SB_73 s1 (c_SB_checkPoint hS hI hp) rfl rfl (Nat.le_of_ble_eq_true rfl) ⟨by decide, by decide⟩ (by decide) (by decide) ?_
  refine xa_aload_n d_SB_at_5 rfl ?_
  refine xa_getf f_SB_34 d_SB_at_6 (by assumption) (by rfl) ?_
  refine xa_iload_n d_SB_at_9 rfl ?_
  refine xa_ialdE d_SB_at_10 r8 rfl hp (by omega) rfl ?_
  exact xa_ireturn d_SB_at_11 rfl (by decide) (by decide) ⟨rfl, rfl, rfl⟩
theorem t_SB_at {x : Int32} (htr : l.stackTraces = false) (hS : xS_S D h o T n fs b m bd pt tb tw) (hx : x < 0 ∨ nI (n * n) ≤ x) :
    xa_T l D H0 M_SB_at 7 110 1 6 [.ref o, .int x] h sz "java/lang/IndexOutOfBoundsException" (fun h' sz' => h' = h ∧ sz ≤ sz') := by
  have s1 := hS.1
  refine xa_enterT (by decide) rfl rfl ?_
  refine xa_aload_n d_SB_at_0 rfl ?_
  refine xa_iload_n d_SB_at_1 rfl ?_
  exact xa_callVT (As := [.int x]) (st := []) d_SB_at_2 rfl k_SB_73 s1 (t_SB_checkPoint htr hS hx) rfl rfl (Nat.le_of_ble_eq_true rfl) ⟨by decide, by decide⟩ (by decide) (by decide) (by decide) (by decide) (fun h' sz' hq => hq)
theorem c_SB_why {p : Nat} (hS : xS_S D h o T n fs b m bd pt tb tw) (hI : xS_I n fs b m bd) (hT : o + 28 ≤ T) (hp : p < n * n) :
    xa_M l D H0 M_SB_why 7 135 0 0 [.ref o, .int (nI p)] h sz (fun v h' sz' => (∃ j, v = some (.int (nI j)) ∧ gx_why D h' o n fs b m bd pt p j) ∧ xS_S D h' o T n fs b m bd pt tb tw ∧ (∀ q, q ≠ o + 13 → q ≠ o + 14 → h' q = h q) ∧ sz' = sz) := by
  have s1 := hS.1
  refine xa_enter (by decide) rfl rfl ?_
  refine xa_aload_n d_SB_why_0 rfl ?_
  refine xa_iload_n d_SB_why_1 rfl ?_
  refine xa_callVr (As := [.int (nI p)]) (st := []) d_SB_why_2 k_SB_73 s1 (c_SB_checkPoint hS hI hp) rfl rfl (Nat.le_of_ble_eq_true rfl) ⟨by decide, by decide⟩ (by decide) (by decide) ?_
  refine xa_aload_n d_SB_why_5 rfl ?_
  refine xa_iload_n d_SB_why_6 rfl ?_
  refine xa_callV (As := [.int (nI p)]) (st := []) d_SB_why_7 k_SB_112 s1 (c_SB_judgeMove hS hI hT hp) rfl rfl (Nat.le_of_ble_eq_true rfl) ⟨by decide, by decide⟩ (by decide) (by decide) (fun v h' sz' hq => ?_)
  obtain ⟨⟨j, hv, hw⟩, hS', hfr', hz⟩ := hq
  rw [hv, hz]
  exact xa_ireturn d_SB_why_10 rfl (by decide) (by decide) ⟨⟨j, rfl, hw⟩, hS', hfr', rfl⟩
theorem t_SB_why {x : Int32} (htr : l.stackTraces = false) (hS : xS_S D h o T n fs b m bd pt tb tw) (hx : x < 0 ∨ nI (n * n) ≤ x) :
    xa_T l D H0 M_SB_why 7 135 1 6 [.ref o, .int x] h sz "java/lang/IndexOutOfBoundsException" (fun h' sz' => h' = h ∧ sz ≤ sz') := by
  have s1 := hS.1
  refine xa_enterT (by decide) rfl rfl ?_
  refine xa_aload_n d_SB_why_0 rfl ?_
  refine xa_iload_n d_SB_why_1 rfl ?_
  exact xa_callVT (As := [.int x]) (st := []) d_SB_why_2 rfl k_SB_73 s1 (t_SB_checkPoint htr hS hx) rfl rfl (Nat.le_of_ble_eq_true rfl) ⟨by decide, by decide⟩ (by decide) (by decide) (by decide) (by decide) (fun h' sz' hq => hq)
theorem c_SB_ago {p : Nat} (hS : xS_S D h o T n fs b m bd pt tb tw) (hI : xS_I n fs b m bd) (hT : o + 28 ≤ T) (hp : p < n * n) :
    xa_M l D H0 M_SB_ago 7 114 0 0 [.ref o, .int (nI p)] h sz (fun v h' sz' => ((b p ≠ 0 ∧ v = some (.int (-1))) ∨ (b p = 0 ∧ ∃ (t : Nat → Nat) (k ls : Nat), gq_T n b p (gx_turn fs m) t k ls ∧ ((v = some (.int (-1)) ∧ ∀ j, j ≤ m → ¬ gx_same (n * n) (bd j) t) ∨ ∃ j, j ≤ m ∧ v = some (.int (nI (m - j))) ∧ gx_same (n * n) (bd j) t ∧ ∀ j', j < j' → j' ≤ m → ¬ gx_same (n * n) (bd j') t))) ∧ xS_S D h' o T n fs b m bd pt tb tw ∧ (∀ q, q ≠ o + 13 → q ≠ o + 14 → h' q = h q) ∧ sz' = sz) := by
  have s1 := hS.1
  have r8 := xS_stones hS
  have hb := xS_b hS
  have hN : n * n ≤ 169 := Nat.mul_le_mul hI.1.2 hI.1.2
  refine xa_enter (by decide) rfl rfl ?_
  refine xa_aload_n d_SB_ago_0 rfl ?_
  refine xa_iload_n d_SB_ago_1 rfl ?_
  refine xa_callVr (As := [.int (nI p)]) (st := []) d_SB_ago_2 k_SB_73 s1 (c_SB_checkPoint hS hI hp) rfl rfl (Nat.le_of_ble_eq_true rfl) ⟨by decide, by decide⟩ (by decide) (by decide) ?_
  refine xa_aload_n d_SB_ago_5 rfl ?_
  refine xa_getf f_SB_34 d_SB_ago_6 (by assumption) (by rfl) ?_
  refine xa_iload_n d_SB_ago_9 rfl ?_
  refine xa_ialdE d_SB_ago_10 r8 rfl hp (by omega) rfl ?_
  have hbp := hb p hp
  refine xa_if_eqN (tgt := 16) d_SB_ago_11 (by decide) (by omega) (fun hz2 => ?_) (fun hz2 => ?_)
  ·
    refine xa_aload_n d_SB_ago_16 rfl ?_
    refine xa_iload_n d_SB_ago_17 rfl ?_
    refine xa_callV (As := [.int (nI p)]) (st := []) d_SB_ago_18 k_SB_200 s1 (c_SB_findBoardBehind hS hI hT hp hz2) rfl rfl (Nat.le_of_ble_eq_true rfl) ⟨by decide, by decide⟩ (by decide) (by decide) (fun v h' sz' hq' => ?_)
    obtain ⟨⟨t, k, ls, hTq, hTV, hv⟩, hS', hfr, hz'⟩ := hq'
    rw [hz']
    rcases hv with ⟨hv, hno⟩ | ⟨j, a, v1, v2, v3, v5, v6, v7, hj, hv, ha, hE, hno⟩
    · rw [hv]
      refine xa_astore_nN d_SB_ago_21 rfl rfl ?_
      refine xa_aload_nN d_SB_ago_22 rfl ?_
      refine xa_ifnonnullN d_SB_ago_23 ?_
      refine xa_iconst (v := -1) d_SB_ago_26 rfl ?_
      refine xa_goto (tgt := 45) d_SB_ago_27 (by decide) ?_
      exact xa_ireturn d_SB_ago_45 rfl (by decide) (by decide) ⟨Or.inr ⟨hz2, t, k, ls, hTq, Or.inl ⟨rfl, hno⟩⟩, hS', hfr, rfl⟩
    · rw [hv]
      refine xa_astore_n d_SB_ago_21 rfl rfl ?_
      refine xa_aload_n d_SB_ago_22 rfl ?_
      refine xa_ifnonnull (tgt := 30) d_SB_ago_23 (by decide) ?_
      have s1' := hS'.1
      obtain ⟨q, B, ob, F, V, e1, e2, hP, hB, hV, hK⟩ := hS'.2.2.2.1
      obtain ⟨p1, p2⟩ := hP m (Nat.le_refl m)
      refine xa_aload_n d_SB_ago_30 rfl ?_
      refine xa_getf f_SB_59 d_SB_ago_31 (by assumption) (by rfl) ?_
      refine xa_getf f_SB_96 d_SB_ago_34 (by assumption) (by rfl) ?_
      refine xa_getf f_SB_100 d_SB_ago_37 (by assumption) (by rfl) ?_
      refine xa_aload_n d_SB_ago_40 rfl ?_
      refine xa_getf f_SB_100 d_SB_ago_41 (by assumption) (by rfl) ?_
      refine xa_isubN d_SB_ago_44 (by omega) ?_
      exact xa_ireturn d_SB_ago_45 rfl (by decide) (by decide) ⟨Or.inr ⟨hz2, t, k, ls, hTq, Or.inr ⟨j, hj, rfl, hE, hno⟩⟩, hS', hfr, rfl⟩
  ·
    refine xa_iconst (v := -1) d_SB_ago_14 rfl ?_
    exact xa_ireturn d_SB_ago_15 rfl (by decide) (by decide) ⟨Or.inl ⟨by omega, rfl⟩, hS, fun _ _ _ => rfl, rfl⟩
theorem t_SB_ago {x : Int32} (htr : l.stackTraces = false) (hS : xS_S D h o T n fs b m bd pt tb tw) (hx : x < 0 ∨ nI (n * n) ≤ x) :
    xa_T l D H0 M_SB_ago 7 114 1 6 [.ref o, .int x] h sz "java/lang/IndexOutOfBoundsException" (fun h' sz' => h' = h ∧ sz ≤ sz') := by
  have s1 := hS.1
  refine xa_enterT (by decide) rfl rfl ?_
  refine xa_aload_n d_SB_ago_0 rfl ?_
  refine xa_iload_n d_SB_ago_1 rfl ?_
  exact xa_callVT (As := [.int x]) (st := []) d_SB_ago_2 rfl k_SB_73 s1 (t_SB_checkPoint htr hS hx) rfl rfl (Nat.le_of_ble_eq_true rfl) ⟨by decide, by decide⟩ (by decide) (by decide) (by decide) (by decide) (fun h' sz' hq => hq)
theorem c_SB_move {i : Nat} (hS : xS_S D h o T n fs b m bd pt tb tw) (hI : xS_I n fs b m bd) (hi : i < m) :
    xa_M l D H0 M_SB_move 6 89 0 0 [.ref o, .int (nI i)] h sz (fun v h' sz' => v = some (.int (pt (i + 1))) ∧ h' = h ∧ sz' = sz) := by
  have s1 := hS.1
  have hm := hI.2.2.1
  obtain ⟨q, B, ob, F, V, e1, e2, hP, hB, hV, hK⟩ := hS.2.2.2.1
  obtain ⟨p1, p2⟩ := hP m (Nat.le_refl m)
  refine xa_enter (by decide) rfl rfl ?_
  refine xa_iload_n d_SB_move_0 rfl ?_
  refine xa_if_lt (tgt := 18) d_SB_move_1 (by decide) (fun hz => ?_) (fun hz => ?_)
  · exact absurd hz (nI_pos (by omega))
  ·
    refine xa_iload_n d_SB_move_4 rfl ?_
    refine xa_aload_n d_SB_move_5 rfl ?_
    refine xa_getf f_SB_59 d_SB_move_6 (by assumption) (by rfl) ?_
    refine xa_getf f_SB_96 d_SB_move_9 (by assumption) (by rfl) ?_
    refine xa_getf f_SB_100 d_SB_move_12 (by assumption) (by rfl) ?_
    refine xa_icmp_ltN (tgt := 26) d_SB_move_15 (by decide) (by omega) (by omega) (fun hq => ?_) (fun hq => ?_)
    ·
      refine xa_aload_n d_SB_move_26 rfl ?_
      refine xa_getf f_SB_59 d_SB_move_27 (by assumption) (by rfl) ?_
      refine xa_iload_n d_SB_move_30 rfl ?_
      refine xa_callVr (As := [.int (nI i)]) (st := []) d_SB_move_31 k_SB_147 e1 (c_History_pointOfMove e1 hP (by omega) hi) rfl rfl (Nat.le_of_ble_eq_true rfl) ⟨by decide, by decide⟩ (by decide) (by decide) ?_
      exact xa_ireturn d_SB_move_34 rfl (by decide) (by decide) ⟨rfl, rfl, rfl⟩
    · omega
theorem t_SB_move {x : Int32} (htr : l.stackTraces = false) (hS : xS_S D h o T n fs b m bd pt tb tw) (hx : x < 0 ∨ nI m ≤ x) :
    xa_T l D H0 M_SB_move 6 89 1 6 [.ref o, .int x] h sz "java/lang/IndexOutOfBoundsException" (fun h' sz' => h' = h ∧ sz ≤ sz') := by
  have s1 := hS.1
  obtain ⟨q, B, ob, F, V, e1, e2, hP, hB, hV, hK⟩ := hS.2.2.2.1
  obtain ⟨p1, p2⟩ := hP m (Nat.le_refl m)
  refine xa_enterT (by decide) rfl rfl ?_
  have go : xa_X l D H0 M_SB_move (xa_rm 6 1 6 89) (xa_Zt D H0 1 6 "java/lang/IndexOutOfBoundsException" (fun h' sz' => h' = h ∧ sz ≤ sz')) 0 0 h sz 18 [(0, .ref o), (1, .int x)] [] :=
    xa_throw htr rfl t_IOOB d_SB_move_18 d_SB_move_21 d_SB_move_22 d_SB_move_25 (by decide) (by decide) (by decide) (by decide) (by decide) (by decide) (fun sz' hz => ⟨rfl, hz⟩)
  refine xa_iload_n d_SB_move_0 rfl ?_
  refine xa_if_lt (tgt := 18) d_SB_move_1 (by decide) (fun hz => ?_) (fun hz => ?_)
  · exact go
  ·
    refine xa_iload_n d_SB_move_4 rfl ?_
    refine xa_aload_n d_SB_move_5 rfl ?_
    refine xa_getf f_SB_59 d_SB_move_6 (by assumption) (by rfl) ?_
    refine xa_getf f_SB_96 d_SB_move_9 (by assumption) (by rfl) ?_
    refine xa_getf f_SB_100 d_SB_move_12 (by assumption) (by rfl) ?_
    refine xa_icmp_lt (tgt := 26) d_SB_move_15 (by decide) (fun hq => ?_) (fun hq => ?_)
    · exact absurd hq (fun z => by
        rcases hx with hx | hx
        · exact hz hx
        · rw [i32_lt] at z
          rw [Int32.le_iff_toInt_le] at hx
          omega)
    · exact go
theorem c_SB_taken {sd : Nat} (hS : xS_S D h o T n fs b m bd pt tb tw) (hsd : sd = 1 ∨ sd = 2) :
    xa_M l D H0 M_SB_taken 7 109 0 0 [.ref o, .int (nI sd)] h sz (fun v h' sz' => v = some (.int (nI (if sd = 1 then tb m else tw m))) ∧ h' = h ∧ sz' = sz) := by
  have s1 := hS.1
  obtain ⟨q, B, ob, F, V, e1, e2, hP, hB, hV, hK⟩ := hS.2.2.2.1
  obtain ⟨p1, p2⟩ := hP m (Nat.le_refl m)
  refine xa_enter (by decide) rfl rfl ?_
  refine xa_iload_n d_SB_taken_0 rfl ?_
  refine xa_callSr (As := [.int (nI sd)]) (st := []) d_SB_taken_1 k_SB_93 (c_SB_checkSide hsd) rfl rfl (Nat.le_of_ble_eq_true rfl) ⟨by decide, by decide⟩ (by decide) (by decide) ?_
  refine xa_iload_n d_SB_taken_4 rfl ?_
  refine xa_iconst (v := nI 1) d_SB_taken_5 rfl ?_
  refine xa_icmp_neN (tgt := 22) d_SB_taken_6 (by decide) (by omega) (by omega) (fun hz => ?_) (fun hz => ?_)
  ·
    refine xa_aload_n d_SB_taken_22 rfl ?_
    refine xa_getf f_SB_59 d_SB_taken_23 (by assumption) (by rfl) ?_
    refine xa_getf f_SB_96 d_SB_taken_26 (by assumption) (by rfl) ?_
    refine xa_getf f_SB_153 d_SB_taken_29 (by assumption) (by rfl) ?_
    exact xa_ireturn d_SB_taken_32 rfl (by decide) (by decide) ⟨by rw [if_neg hz], rfl, rfl⟩
  ·
    refine xa_aload_n d_SB_taken_9 rfl ?_
    refine xa_getf f_SB_59 d_SB_taken_10 (by assumption) (by rfl) ?_
    refine xa_getf f_SB_96 d_SB_taken_13 (by assumption) (by rfl) ?_
    refine xa_getf f_SB_150 d_SB_taken_16 (by assumption) (by rfl) ?_
    refine xa_goto (tgt := 32) d_SB_taken_19 (by decide) ?_
    exact xa_ireturn d_SB_taken_32 rfl (by decide) (by decide) ⟨by rw [if_pos hz], rfl, rfl⟩
theorem t_SB_taken {x : Int32} (htr : l.stackTraces = false) (hx : x ≠ nI 1 ∧ x ≠ nI 2) :
    xa_T l D H0 M_SB_taken 7 109 1 6 [.ref o, .int x] h sz "java/lang/IllegalArgumentException" (fun h' sz' => h' = h ∧ sz ≤ sz') := by
  refine xa_enterT (by decide) rfl rfl ?_
  refine xa_iload_n d_SB_taken_0 rfl ?_
  exact xa_callST (As := [.int x]) (st := []) d_SB_taken_1 rfl k_SB_93 (t_SB_checkSide htr hx) rfl rfl (Nat.le_of_ble_eq_true rfl) ⟨by decide, by decide⟩ (by decide) (by decide) (by decide) (by decide) (fun h' sz' hq => hq)
theorem c_SB_strings {sd : Nat} (hS : xS_S D h o T n fs b m bd pt tb tw) (hsd : sd = 1 ∨ sd = 2) :
    xa_M l D H0 M_SB_strings 7 109 0 0 [.ref o, .int (nI sd)] h sz (fun v h' sz' => v = some (.int (nI (gb_cnt (fun p => b p = sd ∧ gx_lst n (fun q => nI (b q)) p) (n * n)))) ∧ h' = h ∧ sz' = sz) := by
  obtain ⟨s1, ⟨c, f, A, O, S, BR, LB, HO, CB, ar, o', s, hr, h5, h6, h7, h8, hW, hA⟩, -⟩ := id hS
  have hq : xq_R D h n (o + 4) (o + 1) (o + 3) c f A O S BR b ar o' s := ⟨hr, h5, hW, fun a ha h0 => ((hA a ha).2 h0).2.1⟩
  have hHO : ∀ a, a < c → HO a = nI (gx_own n b (o' (s a))) := fun a ha => by
    unfold gx_own
    by_cases h0 : b (o' (s a)) = 0
    · rw [if_pos h0]; exact (hA a ha).1 h0
    · rw [if_neg h0]; exact ((hA a ha).2 h0).1
  refine xa_enter (by decide) rfl rfl ?_
  refine xa_iload_n d_SB_strings_0 rfl ?_
  refine xa_callSr (As := [.int (nI sd)]) (st := []) d_SB_strings_1 k_SB_93 (c_SB_checkSide hsd) rfl rfl (Nat.le_of_ble_eq_true rfl) ⟨by decide, by decide⟩ (by decide) (by decide) ?_
  refine xa_aload_n d_SB_strings_4 rfl ?_
  refine xa_getf f_SB_43 d_SB_strings_5 (by assumption) (by rfl) ?_
  refine xa_iload_n d_SB_strings_8 rfl ?_
  refine xa_callVr (As := [.int (nI sd)]) (st := []) d_SB_strings_9 k_SB_180 hr.1 (c_Chart_countStrings hq h7 hHO hsd) rfl rfl (Nat.le_of_ble_eq_true rfl) ⟨by decide, by decide⟩ (by decide) (by decide) ?_
  exact xa_ireturn d_SB_strings_12 rfl (by decide) (by decide) ⟨rfl, rfl, rfl⟩
theorem t_SB_strings {x : Int32} (htr : l.stackTraces = false) (hx : x ≠ nI 1 ∧ x ≠ nI 2) :
    xa_T l D H0 M_SB_strings 7 109 1 6 [.ref o, .int x] h sz "java/lang/IllegalArgumentException" (fun h' sz' => h' = h ∧ sz ≤ sz') := by
  refine xa_enterT (by decide) rfl rfl ?_
  refine xa_iload_n d_SB_strings_0 rfl ?_
  exact xa_callST (As := [.int x]) (st := []) d_SB_strings_1 rfl k_SB_93 (t_SB_checkSide htr hx) rfl rfl (Nat.le_of_ble_eq_true rfl) ⟨by decide, by decide⟩ (by decide) (by decide) (by decide) (by decide) (fun h' sz' hq => hq)
theorem c_SB_ground {sd : Nat} (hS : xS_S D h o T n fs b m bd pt tb tw) (hsd : sd ≤ 2) :
    xa_M l D H0 M_SB_ground 7 109 0 0 [.ref o, .int (nI sd)] h sz (fun v h' sz' => v = some (.int (nI (gb_cnt (fun p => gx_own n b p = sd) (n * n)))) ∧ h' = h ∧ sz' = sz) := by
  obtain ⟨s1, ⟨c, f, A, O, S, BR, LB, HO, CB, ar, o', s, hr, h5, h6, h7, h8, hW, hA⟩, -⟩ := id hS
  have hq : xq_R D h n (o + 4) (o + 1) (o + 3) c f A O S BR b ar o' s := ⟨hr, h5, hW, fun a ha h0 => ((hA a ha).2 h0).2.1⟩
  have hHO : ∀ a, a < c → HO a = nI (gx_own n b (o' (s a))) := fun a ha => by
    unfold gx_own
    by_cases h0 : b (o' (s a)) = 0
    · rw [if_pos h0]; exact (hA a ha).1 h0
    · rw [if_neg h0]; exact ((hA a ha).2 h0).1
  refine xa_enter (by decide) rfl rfl ?_
  refine xa_iload_n d_SB_ground_0 rfl ?_
  refine xa_callSr (As := [.int (nI sd)]) (st := []) d_SB_ground_1 k_SB_76 (c_SB_checkKind hsd) rfl rfl (Nat.le_of_ble_eq_true rfl) ⟨by decide, by decide⟩ (by decide) (by decide) ?_
  refine xa_aload_n d_SB_ground_4 rfl ?_
  refine xa_getf f_SB_43 d_SB_ground_5 (by assumption) (by rfl) ?_
  refine xa_iload_n d_SB_ground_8 rfl ?_
  refine xa_callVr (As := [.int (nI sd)]) (st := []) d_SB_ground_9 k_SB_183 hr.1 (c_Chart_countGround hq h7 hHO hsd) rfl rfl (Nat.le_of_ble_eq_true rfl) ⟨by decide, by decide⟩ (by decide) (by decide) ?_
  exact xa_ireturn d_SB_ground_12 rfl (by decide) (by decide) ⟨rfl, rfl, rfl⟩
theorem t_SB_ground {x : Int32} (htr : l.stackTraces = false) (hx : x < 0 ∨ nI 2 < x) :
    xa_T l D H0 M_SB_ground 7 109 1 6 [.ref o, .int x] h sz "java/lang/IllegalArgumentException" (fun h' sz' => h' = h ∧ sz ≤ sz') := by
  refine xa_enterT (by decide) rfl rfl ?_
  refine xa_iload_n d_SB_ground_0 rfl ?_
  exact xa_callST (As := [.int x]) (st := []) d_SB_ground_1 rfl k_SB_76 (t_SB_checkKind htr hx) rfl rfl (Nat.le_of_ble_eq_true rfl) ⟨by decide, by decide⟩ (by decide) (by decide) (by decide) (by decide) (fun h' sz' hq => hq)
theorem c_SB_owner {p : Nat} (hS : xS_S D h o T n fs b m bd pt tb tw) (hI : xS_I n fs b m bd) (hp : p < n * n) :
    xa_M l D H0 M_SB_owner 7 110 0 0 [.ref o, .int (nI p)] h sz (fun v h' sz' => v = some (.int (nI (gx_own n b p))) ∧ h' = h ∧ sz' = sz) := by
  obtain ⟨s1, ⟨c, f, A, O, S, BR, LB, HO, CB, ar, o', s, hr, h5, h6, h7, h8, hW, hA⟩, -⟩ := id hS
  obtain ⟨r1, r2, r3, r4, r5, r6, r7, r8, hN, hf, hb⟩ := id hr
  obtain ⟨w1, w2, w3, w4⟩ := id hW
  have hax := w1.1 p hp
  obtain ⟨a1, a2, a3, a4, a5⟩ := gs_W_area w1 hax
  have hcN : c ≤ n * n := w1.2.2.2.2.2.2.2.2.2.2
  have hcon : gb_conn n (fun q => nI (b q)) (o' (s (ar p))) p := (w1.2.1 _ _ a3 hp).mp a4
  have hHO : HO (ar p) = nI (gx_own n b p) := by
    rw [gx_own_conn a3 hb hcon]
    unfold gx_own
    by_cases h0 : b (o' (s (ar p))) = 0
    · rw [if_pos h0]; exact (hA _ hax).1 h0
    · rw [if_neg h0]; exact ((hA _ hax).2 h0).1
  refine xa_enter (by decide) rfl rfl ?_
  refine xa_aload_n d_SB_owner_0 rfl ?_
  refine xa_iload_n d_SB_owner_1 rfl ?_
  refine xa_callVr (As := [.int (nI p)]) (st := []) d_SB_owner_2 k_SB_73 s1 (c_SB_checkPoint hS hI hp) rfl rfl (Nat.le_of_ble_eq_true rfl) ⟨by decide, by decide⟩ (by decide) (by decide) ?_
  refine xa_aload_n d_SB_owner_5 rfl ?_
  refine xa_getf f_SB_43 d_SB_owner_6 (by assumption) (by rfl) ?_
  refine xa_aload_n d_SB_owner_9 rfl ?_
  refine xa_getf f_SB_43 d_SB_owner_10 (by assumption) (by rfl) ?_
  refine xa_getf f_SB_159 d_SB_owner_13 (by assumption) (by rfl) ?_
  refine xa_iload_n d_SB_owner_16 rfl ?_
  refine xa_callVr (As := [.int (nI p)]) (st := [.ref (o + 4)]) d_SB_owner_17 k_SB_163 r2 (c_Areas_areaAt r2 r3 hN hp (w2 p hp)) rfl rfl (Nat.le_of_ble_eq_true rfl) ⟨by decide, by decide⟩ (by decide) (by decide) ?_
  refine xa_callVr (As := [.int (nI (ar p))]) (st := []) d_SB_owner_20 k_SB_186 r1 (c_Chart_get7 r1 h7 hN (by omega) hHO) rfl rfl (Nat.le_of_ble_eq_true rfl) ⟨by decide, by decide⟩ (by decide) (by decide) ?_
  exact xa_ireturn d_SB_owner_23 rfl (by decide) (by decide) ⟨rfl, rfl, rfl⟩
theorem t_SB_owner {x : Int32} (htr : l.stackTraces = false) (hS : xS_S D h o T n fs b m bd pt tb tw) (hx : x < 0 ∨ nI (n * n) ≤ x) :
    xa_T l D H0 M_SB_owner 7 110 1 6 [.ref o, .int x] h sz "java/lang/IndexOutOfBoundsException" (fun h' sz' => h' = h ∧ sz ≤ sz') := by
  have s1 := hS.1
  refine xa_enterT (by decide) rfl rfl ?_
  refine xa_aload_n d_SB_owner_0 rfl ?_
  refine xa_iload_n d_SB_owner_1 rfl ?_
  exact xa_callVT (As := [.int x]) (st := []) d_SB_owner_2 rfl k_SB_73 s1 (t_SB_checkPoint htr hS hx) rfl rfl (Nat.le_of_ble_eq_true rfl) ⟨by decide, by decide⟩ (by decide) (by decide) (by decide) (by decide) (fun h' sz' hq => hq)
theorem c_SB_string {p w : Nat} (hS : xS_S D h o T n fs b m bd pt tb tw) (hI : xS_I n fs b m bd) (hp : p < n * n) (hw : w ≤ 3) :
    xa_M l D H0 M_SB_string 7 110 0 0 [.ref o, .int (nI p), .int (nI w)] h sz (fun v h' sz' => (∃ x, v = some (.int x) ∧ gx_str n b p w x) ∧ h' = h ∧ sz' = sz) := by
  obtain ⟨s1, ⟨c, f, A, O, S, BR, LB, HO, CB, ar, o', s, hr, h5, h6, h7, h8, hW, hA⟩, -⟩ := id hS
  obtain ⟨r1, r2, r3, r4, r5, r6, r7, r8, hN, hf, hb⟩ := id hr
  obtain ⟨w1, w2, w3, w4⟩ := id hW
  have hax := w1.1 p hp
  obtain ⟨a1, a2, a3, a4, a5⟩ := gs_W_area w1 hax
  have hcN : c ≤ n * n := w1.2.2.2.2.2.2.2.2.2.2
  have hcon : gb_conn n (fun q => nI (b q)) (o' (s (ar p))) p := (w1.2.1 _ _ a3 hp).mp a4
  have hbe := gb_b_eq a3 hb hcon
  have hbp := hb p hp
  have hlt := w1.2.2.2.2.2.2.2.1 _ hax
  refine xa_enter (by decide) rfl rfl ?_
  refine xa_aload_n d_SB_string_0 rfl ?_
  refine xa_iload_n d_SB_string_1 rfl ?_
  refine xa_callVr (As := [.int (nI p)]) (st := []) d_SB_string_2 k_SB_73 s1 (c_SB_checkPoint hS hI hp) rfl rfl (Nat.le_of_ble_eq_true rfl) ⟨by decide, by decide⟩ (by decide) (by decide) ?_
  refine xa_iload_n d_SB_string_5 rfl ?_
  refine xa_if_lt (tgt := 14) d_SB_string_6 (by decide) (fun hz => ?_) (fun hz => ?_)
  · exact absurd hz (nI_pos (by omega))
  ·
    refine xa_iload_n d_SB_string_9 rfl ?_
    refine xa_iconst (v := nI 3) d_SB_string_10 rfl ?_
    refine xa_icmp_leN (tgt := 22) d_SB_string_11 (by decide) (by omega) (by omega) (fun hq => ?_) (fun hq => ?_)
    ·
      refine xa_aload_n d_SB_string_22 rfl ?_
      refine xa_getf f_SB_34 d_SB_string_23 (by assumption) (by rfl) ?_
      refine xa_iload_n d_SB_string_26 rfl ?_
      refine xa_ialdE d_SB_string_27 r8 rfl hp (by omega) rfl ?_
      refine xa_if_neN (tgt := 33) d_SB_string_28 (by decide) (by omega) (fun hz2 => ?_) (fun hz2 => ?_)
      · have h0 : b (o' (s (ar p))) ≠ 0 := by omega
        obtain ⟨x1, x2, mm, x3, x4⟩ := (hA _ hax).2 h0
        refine xa_aload_n d_SB_string_33 rfl ?_
        refine xa_getf f_SB_43 d_SB_string_34 (by assumption) (by rfl) ?_
        refine xa_getf f_SB_159 d_SB_string_37 (by assumption) (by rfl) ?_
        refine xa_iload_n d_SB_string_40 rfl ?_
        refine xa_callVr (As := [.int (nI p)]) (st := []) d_SB_string_41 k_SB_163 r2 (c_Areas_areaAt r2 r3 hN hp (w2 p hp)) rfl rfl (Nat.le_of_ble_eq_true rfl) ⟨by decide, by decide⟩ (by decide) (by decide) ?_
        refine xa_istore_n d_SB_string_44 rfl rfl ?_
        refine xa_iload_n d_SB_string_45 rfl ?_
        rcases (show w = 0 ∨ w = 1 ∨ w = 2 ∨ w = 3 by omega) with e | e | e | e <;> subst e
        · refine xa_tableIn (off := 26) (tgt := 72) d_SB_string_46 (by decide) (by decide) (by decide) (by decide) ?_
          refine xa_aload_n d_SB_string_72 rfl ?_
          refine xa_getf f_SB_43 d_SB_string_73 (by assumption) (by rfl) ?_
          refine xa_getf f_SB_159 d_SB_string_76 (by assumption) (by rfl) ?_
          refine xa_iload_n d_SB_string_79 rfl ?_
          refine xa_callVr (As := [.int (nI (ar p))]) (st := []) d_SB_string_80 k_SB_168 r2 (c_Areas_sizeOf (s := s) r2 r5 hN (by omega) (w4 _ (by omega)) (w4 (ar p + 1) (by omega)) (by omega)) rfl rfl (Nat.le_of_ble_eq_true rfl) ⟨by decide, by decide⟩ (by decide) (by decide) ?_
          refine xa_ireturn d_SB_string_83 rfl (by decide) (by decide) ⟨⟨_, rfl, Or.inr ⟨by omega, Or.inl ⟨rfl, ?_⟩⟩⟩, rfl, rfl⟩
          rw [← gs_W_size w1 hax]
          exact congrArg nI (gb_cnt_eq _ (fun q _ => ⟨fun z => gb_conn_tr (gb_conn_sy a3 hcon) z, fun z => gb_conn_tr hcon z⟩))
        · refine xa_tableIn (off := 38) (tgt := 84) d_SB_string_46 (by decide) (by decide) (by decide) (by decide) ?_
          refine xa_aload_n d_SB_string_84 rfl ?_
          refine xa_getf f_SB_43 d_SB_string_85 (by assumption) (by rfl) ?_
          refine xa_iload_n d_SB_string_88 rfl ?_
          refine xa_callVr (As := [.int (nI (ar p))]) (st := []) d_SB_string_89 k_SB_171 r1 (c_Chart_get5 r1 h5 hN (by omega) x2) rfl rfl (Nat.le_of_ble_eq_true rfl) ⟨by decide, by decide⟩ (by decide) (by decide) ?_
          refine xa_ireturn d_SB_string_92 rfl (by decide) (by decide) ⟨⟨_, rfl, Or.inr ⟨by omega, Or.inr (Or.inl ⟨rfl, ?_⟩)⟩⟩, rfl, rfl⟩
          exact congrArg nI (gb_cnt_eq _ (fun q _ => gt_br_conn a3 hcon q))
        · refine xa_tableIn (off := 47) (tgt := 93) d_SB_string_46 (by decide) (by decide) (by decide) (by decide) ?_
          refine xa_aload_n d_SB_string_93 rfl ?_
          refine xa_getf f_SB_43 d_SB_string_94 (by assumption) (by rfl) ?_
          refine xa_getf f_SB_159 d_SB_string_97 (by assumption) (by rfl) ?_
          refine xa_iload_n d_SB_string_100 rfl ?_
          refine xa_callVr (As := [.int (nI (ar p))]) (st := []) d_SB_string_101 k_SB_174 r2 (c_Areas_leastOf (o := o') (s := s) r2 r4 r5 hN (by omega) (w4 _ (by omega)) a1 (w3 _ a1)) rfl rfl (Nat.le_of_ble_eq_true rfl) ⟨by decide, by decide⟩ (by decide) (by decide) ?_
          refine xa_ireturn d_SB_string_104 rfl (by decide) (by decide) ⟨⟨_, rfl, Or.inr ⟨by omega, Or.inr (Or.inr (Or.inl ⟨rfl, _, rfl, by omega, fun q hq => ?_, fun _ => gb_conn_sy a3 hcon⟩))⟩⟩, rfl, rfl⟩
          have hqN := gb_conn_lt hp hq
          exact w1.2.2.2.2.2.2.2.2.2.1 _ hax q hqN ((w1.2.1 _ _ hqN hp).mpr (gb_conn_sy hp hq))
        · refine xa_tableOut (tgt := 105) d_SB_string_46 (Or.inr (by decide)) (by decide) ?_
          refine xa_aload_n d_SB_string_105 rfl ?_
          refine xa_getf f_SB_43 d_SB_string_106 (by assumption) (by rfl) ?_
          refine xa_iload_n d_SB_string_109 rfl ?_
          refine xa_callVr (As := [.int (nI (ar p))]) (st := []) d_SB_string_110 k_SB_177 r1 (c_Chart_get6 r1 h6 hN (by omega) x3) rfl rfl (Nat.le_of_ble_eq_true rfl) ⟨by decide, by decide⟩ (by decide) (by decide) ?_
          exact xa_ireturn d_SB_string_113 rfl (by decide) (by decide) ⟨⟨_, rfl, Or.inr ⟨by omega, Or.inr (Or.inr (Or.inr ⟨rfl, mm, rfl, gc_least_eq x4 (fun q => (gt_br_conn a3 hcon q).symm)⟩))⟩⟩, rfl, rfl⟩
      ·
        refine xa_iconst (v := -1) d_SB_string_31 rfl ?_
        exact xa_ireturn d_SB_string_32 rfl (by decide) (by decide) ⟨⟨_, rfl, Or.inl ⟨hz2, rfl⟩⟩, rfl, rfl⟩
    · omega
theorem t_SB_string1 {x y : Int32} (htr : l.stackTraces = false) (hS : xS_S D h o T n fs b m bd pt tb tw) (hx : x < 0 ∨ nI (n * n) ≤ x) :
    xa_T l D H0 M_SB_string 7 110 1 6 [.ref o, .int x, .int y] h sz "java/lang/IndexOutOfBoundsException" (fun h' sz' => h' = h ∧ sz ≤ sz') := by
  have s1 := hS.1
  refine xa_enterT (by decide) rfl rfl ?_
  refine xa_aload_n d_SB_string_0 rfl ?_
  refine xa_iload_n d_SB_string_1 rfl ?_
  exact xa_callVT (As := [.int x]) (st := []) d_SB_string_2 rfl k_SB_73 s1 (t_SB_checkPoint htr hS hx) rfl rfl (Nat.le_of_ble_eq_true rfl) ⟨by decide, by decide⟩ (by decide) (by decide) (by decide) (by decide) (fun h' sz' hq => hq)
theorem t_SB_string2 {p : Nat} {y : Int32} (htr : l.stackTraces = false) (hS : xS_S D h o T n fs b m bd pt tb tw) (hI : xS_I n fs b m bd) (hp : p < n * n) (hy : y < 0 ∨ nI 3 < y) :
    xa_T l D H0 M_SB_string 7 110 1 6 [.ref o, .int (nI p), .int y] h sz "java/lang/IllegalArgumentException" (fun h' sz' => h' = h ∧ sz ≤ sz') := by
  have s1 := hS.1
  refine xa_enterT (by decide) rfl rfl ?_
  have go : xa_X l D H0 M_SB_string (xa_rm 7 1 6 110) (xa_Zt D H0 1 6 "java/lang/IllegalArgumentException" (fun h' sz' => h' = h ∧ sz ≤ sz')) 0 0 h sz 14 [(0, .ref o), (1, .int (nI p)), (2, .int y)] [] :=
    xa_throw htr rfl t_IAE d_SB_string_14 d_SB_string_17 d_SB_string_18 d_SB_string_21 (by decide) (by decide) (by decide) (by decide) (by decide) (by decide) (fun sz' hz => ⟨rfl, hz⟩)
  refine xa_aload_n d_SB_string_0 rfl ?_
  refine xa_iload_n d_SB_string_1 rfl ?_
  refine xa_callVr (As := [.int (nI p)]) (st := []) d_SB_string_2 k_SB_73 s1 (c_SB_checkPoint hS hI hp) rfl rfl (Nat.le_of_ble_eq_true rfl) ⟨by decide, by decide⟩ (by decide) (by decide) ?_
  refine xa_iload_n d_SB_string_5 rfl ?_
  refine xa_if_lt (tgt := 14) d_SB_string_6 (by decide) (fun hz => ?_) (fun hz => ?_)
  · exact go
  ·
    refine xa_iload_n d_SB_string_9 rfl ?_
    refine xa_iconst (v := nI 3) d_SB_string_10 rfl ?_
    refine xa_icmp_le (tgt := 22) d_SB_string_11 (by decide) (fun hq => ?_) (fun hq => ?_)
    · exact absurd hq (fun z => by
        rcases hy with hx | hx
        · exact hz hx
        · rw [i32_lt] at hx
          rw [Int32.le_iff_toInt_le] at z
          omega)
    · exact go
end SB2
