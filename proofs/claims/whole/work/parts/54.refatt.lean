/-! The reference: attempt. -/
def xA_h (D : va_G) (h : xa_H) (r n : Nat) (v : Nat → Nat) (TR GO IN RW : Nat → Int32) (e : Nat) : xa_H := xG_h D (xa_u (xa_u h (r + 2) (.inl (D.1 100, 169, .inl TR))) (r + 13) (.inl (D.1 102, 169, .inl GO))) r n v IN RW e
section AH
variable {D : va_G} {h : xa_H} {r n : Nat} {v : Nat → Nat} {TR GO IN RW : Nat → Int32} {e : Nat}
theorem xA_n {q : Nat} (h1 : q ≠ r) (h2 : q ≠ r + 2) (h3 : q ≠ r + 7) (h4 : q ≠ r + 8) (h5 : q ≠ r + 13) : xA_h D h r n v TR GO IN RW e q = h q := by
  unfold xA_h
  rw [xG_n h1 h3 h4]
  exact xa_u_ne (xa_u_ne rfl h2) h5
theorem xA_0 : xA_h D h r n v TR GO IN RW e r = some (xR_o r n (xh_up v 5 e)) := xG_0
theorem xA_2 : xA_h D h r n v TR GO IN RW e (r + 2) = some (.inl (D.1 100, 169, .inl TR)) := by
  unfold xA_h
  rw [xG_n (by omega) (by omega) (by omega)]
  exact xa_u_ne (xa_u_eq _ _ _) (by omega)
theorem xA_13 : xA_h D h r n v TR GO IN RW e (r + 13) = some (.inl (D.1 102, 169, .inl GO)) := by
  unfold xA_h
  rw [xG_n (by omega) (by omega) (by omega)]
  exact xa_u_eq _ _ _
theorem xA_7 : xA_h D h r n v TR GO IN RW e (r + 7) = some (.inl (D.1 102, 169, .inl IN)) := xG_7
theorem xA_8 : xA_h D h r n v TR GO IN RW e (r + 8) = some (.inl (D.1 100, 169, .inl RW)) := xG_8
theorem xG_sw {q : Nat} (E : va_E) (h1 : q ≠ r) (h2 : q ≠ r + 7) (h3 : q ≠ r + 8) : xa_u (xG_h D h r n v IN RW e) q E = xG_h D (xa_u h q E) r n v IN RW e := by
  unfold xG_h
  rw [xa_sw _ (fun z => h1 z.symm), xa_sw _ (fun z => h3 z.symm), xa_sw _ (fun z => h2 z.symm)]
theorem xA_u2 (X : Nat → Int32) : xa_u (xA_h D h r n v TR GO IN RW e) (r + 2) (.inl (D.1 100, 169, .inl X)) = xA_h D h r n v X GO IN RW e := by
  unfold xA_h
  rw [xG_sw _ (by omega) (by omega) (by omega), xa_uc _ (show r + 2 ≠ r + 13 by omega)]
theorem xA_u13 (X : Nat → Int32) : xa_u (xA_h D h r n v TR GO IN RW e) (r + 13) (.inl (D.1 102, 169, .inl X)) = xA_h D h r n v TR X IN RW e := by
  unfold xA_h
  rw [xG_sw _ (by omega) (by omega) (by omega), xa_uu]
theorem xA_o1 (x : Nat) : xa_u (xA_h D h r n v TR GO IN RW e) r (xR_o r n (xh_up (xh_up v 5 e) 1 x)) = xA_h D h r n (xh_up v 1 x) TR GO IN RW e := xa_uu _ _ _ _
theorem xA_o2 (x : Nat) : xa_u (xA_h D h r n v TR GO IN RW e) r (xR_o r n (xh_up (xh_up v 5 e) 2 x)) = xA_h D h r n (xh_up v 2 x) TR GO IN RW e := xa_uu _ _ _ _
theorem xA_G {IN' RW' : Nat → Int32} {e' : Nat} : xG_h D (xA_h D h r n v TR GO IN RW e) r n (xh_up v 5 e) IN' RW' e' = xA_h D h r n v TR GO IN' RW' e' := xG_G
theorem xA_s (h0 : h r = some (xR_o r n v)) (h2 : h (r + 2) = some (.inl (D.1 100, 169, .inl TR))) (h13 : h (r + 13) = some (.inl (D.1 102, 169, .inl GO))) (h7 : h (r + 7) = some (.inl (D.1 102, 169, .inl IN))) (h8 : h (r + 8) = some (.inl (D.1 100, 169, .inl RW))) : xA_h D h r n v TR GO IN RW (v 5) = h := by
  unfold xA_h
  rw [xa_us _ h2, xa_us _ h13]
  exact xG_s h0 h7 h8
end AH
def gr_capw (n : Nat) (b : Nat → Nat) (p s w q : Nat) : Prop := ∃ v x, v < w ∧ gb_nb n p (gr_w v) = some x ∧ b x = s ∧ gb_cnt (gt_br n (fun q => nI (b q)) x) (n * n) = 1 ∧ gb_conn n (fun q => nI (b q)) x q
theorem gr_capw_4 {n : Nat} {b : Nat → Nat} {p s q : Nat} : gr_capw n b p s 4 q ↔ gq_cap n b p s 4 q := by
  constructor
  · rintro ⟨v, x, hv, hx, h⟩
    exact ⟨gr_w v, x, gr_w_lt v, hx, h⟩
  · rintro ⟨v, x, hv, hx, h⟩
    obtain ⟨w, hw, e⟩ := gr_w_on hv
    exact ⟨w, x, hw, by rw [e]; exact hx, h⟩
noncomputable def gr_t2 (n : Nat) (b : Nat → Nat) (p sd : Nat) (q : Nat) : Nat := @ite Nat (gq_cap n b p (3 - sd) 4 q) (Classical.propDecidable _) 0 (gr_t1 b p sd q)
theorem gr_t2_y {n : Nat} {b : Nat → Nat} {p sd q : Nat} (h : gq_cap n b p (3 - sd) 4 q) : gr_t2 n b p sd q = 0 := if_pos h
theorem gr_t2_n {n : Nat} {b : Nat → Nat} {p sd q : Nat} (h : ¬ gq_cap n b p (3 - sd) 4 q) : gr_t2 n b p sd q = gr_t1 b p sd q := if_neg h
noncomputable def gr_t3 (n : Nat) (b : Nat → Nat) (p sd : Nat) (q : Nat) : Nat := @ite Nat (gq_cap n b p sd 4 q ∨ q = p) (Classical.propDecidable _) 0 (b q)
theorem gr_t3_y {n : Nat} {b : Nat → Nat} {p sd q : Nat} (h : gq_cap n b p sd 4 q ∨ q = p) : gr_t3 n b p sd q = 0 := if_pos h
theorem gr_t3_n {n : Nat} {b : Nat → Nat} {p sd q : Nat} (h : ¬ (gq_cap n b p sd 4 q ∨ q = p)) : gr_t3 n b p sd q = b q := if_neg h
section RA
variable {l : Launch} {D : va_G} {H0 : Heap} {h : xa_H} {sz : Nat} {R : Room} {r n : Nat} {v : Nat → Nat} {Z : xa_Z} {p sd : Nat} {b : Nat → Nat}
/-- the end of attempt: what is left of it, told once -/
def gr_At (D : va_G) (h h' : xa_H) (r n : Nat) (v : Nat → Nat) (b : Nat → Nat) (p sd : Nat) : Prop :=
  ∃ (v' t : Nat → Nat) (k ls : Nat) (TR IN RW GO : Nat → Int32), gq_T n b p sd t k ls ∧ (∀ q, q < n * n → TR q = nI (t q)) ∧ (∀ i, i ≠ 1 → i ≠ 2 → i ≠ 5 → v' i = v i) ∧ v' 1 = (if ls = sd then 0 else k) ∧ v' 2 = (if ls = sd then k else 0) ∧ h' r = some (xR_o r n v') ∧ h' (r + 2) = some (.inl (D.1 100, 169, .inl TR)) ∧ h' (r + 7) = some (.inl (D.1 102, 169, .inl IN)) ∧ h' (r + 8) = some (.inl (D.1 100, 169, .inl RW)) ∧ h' (r + 13) = some (.inl (D.1 102, 169, .inl GO)) ∧ ∀ q, q ≠ r → q ≠ r + 2 → q ≠ r + 7 → q ≠ r + 8 → q ≠ r + 13 → h' q = h q
theorem gr_At_of {TR IN RW GO : Nat → Int32} {e k ls : Nat} {t w : Nat → Nat} (hT : gq_T n b p sd t k ls) (ht : ∀ q, q < n * n → TR q = nI (t q)) (hw : ∀ i, i ≠ 1 → i ≠ 2 → i ≠ 5 → w i = v i) (h1 : w 1 = (if ls = sd then 0 else k)) (h2 : w 2 = (if ls = sd then k else 0)) : gr_At D h (xA_h D h r n w TR GO IN RW e) r n v b p sd :=
  ⟨xh_up w 5 e, t, k, ls, TR, IN, RW, GO, hT, ht, fun i i1 i2 i5 => by rw [xh_up_ne _ _ i5]; exact hw i i1 i2 i5, by rw [xh_up_ne _ _ (by omega)]; exact h1, by rw [xh_up_ne _ _ (by omega)]; exact h2, xA_0, xA_2, xA_7, xA_8, xA_13, fun q q0 q2 q7 q8 q13 => xA_n q0 q2 q7 q8 q13⟩
theorem w_att5 {TR IN RW GO : Nat → Int32} {e : Nat} (hR : 3 ≤ R.frames ∧ 72 ≤ R.locals) (hn : 2 ≤ n ∧ n ≤ 13) (hp : p < n * n) (hp0 : b p = 0) (hsd : sd = 1 ∨ sd = 2) (hb : ∀ q, q < n * n → b q ≤ 2) (hTR : ∀ q, q < n * n → TR q = nI (gr_t2 n b p sd q)) {w : Nat → Nat} (hw : ∀ i, i ≠ 1 → i ≠ 2 → i ≠ 5 → w i = v i) (hw1 : w 1 = gb_cnt (gq_cap n b p (3 - sd) 4) (n * n)) :
    xa_X l D H0 M_Ref_attempt R (xa_Zr D H0 0 0 (fun v' h' sz' => v' = none ∧ gr_At D h h' r n v b p sd ∧ sz' = sz)) 0 0 (xA_h D h r n w TR GO IN RW e) sz 202 [(0, .ref r), (1, .int (nI p))] [] := by
  have hN : n * n ≤ 169 := Nat.mul_le_mul hn.2 hn.2
  have q0 : xA_h D h r n w TR GO IN RW e r = some (xR_o r n (xh_up w 5 e)) := xA_0
  have hle2 : ∀ q, q < n * n → gr_t2 n b p sd q ≤ 2 := fun q hq => by
    by_cases hc : gq_cap n b p (3 - sd) 4 q
    · rw [gr_t2_y hc]; omega
    · rw [gr_t2_n hc]
      show (if q = p then sd else b q) ≤ 2
      split
      · omega
      · exact hb q hq
  refine xa_aload_n d_Ref_attempt_202 rfl ?_
  refine xa_aload_n d_Ref_attempt_203 rfl ?_
  refine xa_getf f_Ref_13 d_Ref_attempt_204 (by assumption) (by rfl) ?_
  refine xa_iload_n d_Ref_attempt_207 rfl ?_
  refine xa_callV (As := [.ref (r + 2), .int (nI p)]) (st := []) d_Ref_attempt_208 k_Ref_82 q0 (c_Ref_gather (b := gr_t2 n b p sd) q0 xA_7 xA_8 hn (Or.inr rfl) xA_2 hTR hp) rfl rfl (Nat.le_of_ble_eq_true rfl) ⟨by have := hR.1; show 1 + 1 ≤ _; omega, by have := hR.2; show 8 + (6 + 11) + 24 ≤ _; omega⟩ (by omega) (by omega) (fun v' h' sz' hq => ?_)
  obtain ⟨IN', RW', rr, e', hG, e1, e2, e3⟩ := hq
  rw [e1, e2, e3, xA_G]
  obtain ⟨g1, g2, g3, g4, g5, g6⟩ := id hG
  have q1 : xA_h D h r n w TR GO IN' RW' e' r = some (xR_o r n (xh_up w 5 e')) := xA_0
  refine xa_aload_n d_Ref_attempt_211 rfl ?_
  refine xa_aload_n d_Ref_attempt_212 rfl ?_
  refine xa_aload_n d_Ref_attempt_213 rfl ?_
  refine xa_getf f_Ref_13 d_Ref_attempt_214 (by assumption) (by rfl) ?_
  refine xa_callVr (As := [.ref (r + 2)]) (st := [.ref r]) d_Ref_attempt_217 k_Ref_86 q1 (c_Ref_breaths (b := gr_t2 n b p sd) (x := p) q1 xA_7 hn xA_2 hTR hle2 g1 g2) rfl rfl (Nat.le_of_ble_eq_true rfl) ⟨hR.1, hR.2⟩ (by omega) (by omega) ?_
  have hcl := gb_cnt_le (P := gt_br n (fun q => nI (gr_t2 n b p sd q)) p) (n * n)
  have stop : ∀ (k ls : Nat) (t : Nat → Nat) (TR' : Nat → Int32) (x : Nat) (lsx : List (Nat × Value)), gq_T n b p sd t k ls → (∀ q, q < n * n → TR' q = nI (t q)) → w 1 = (if ls = sd then 0 else k) → x = (if ls = sd then k else 0) → xa_X l D H0 M_Ref_attempt R (xa_Zr D H0 0 0 (fun v' h' sz' => v' = none ∧ gr_At D h h' r n v b p sd ∧ sz' = sz)) 0 0 (xA_h D h r n w TR' GO IN' RW' e') sz 235 lsx [.int (nI x), .ref r] := by
    intro k ls t TR' x lsx hT ht h1 h2
    refine xa_putf f_Ref_93 d_Ref_attempt_235 (xA_0 (D := D) (h := h) (TR := TR') (GO := GO) (IN := IN') (RW := RW')) (Nat.le_of_ble_eq_true rfl) rfl rfl ?_
    refine xa_heap (xA_o2 x) ?_
    exact xa_return d_Ref_attempt_238 rfl (by omega) (by omega) ⟨rfl, gr_At_of hT ht (fun i i1 i2 i5 => by rw [xh_up_ne _ _ i2]; exact hw i i1 i2 i5) (by rw [xh_up_ne _ _ (by omega)]; exact h1) (by rw [xh_up_eq]; exact h2), rfl⟩
  have hcapt : ∀ q, gq_cap n b p (3 - sd) 4 q → q < n * n := fun q hq => gq_cap_lt hp (by omega) hq
  by_cases hex : ∃ q, gq_cap n b p (3 - sd) 4 q
  · have hpos : 0 < gb_cnt (gt_br n (fun q => nI (gr_t2 n b p sd q)) p) (n * n) := by
      obtain ⟨q, w', x, hw', hx, hbx, hcnt, hc⟩ := hex
      have hxN := gb_nb_lt hp hw' hx
      have hcx : gq_cap n b p (3 - sd) 4 x := ⟨w', x, hw', hx, hbx, hcnt, gb_conn_rf⟩
      obtain ⟨-, hsym⟩ := gb_nb_sym hp hw' hx
      exact gb_cnt_pos (x := x) ⟨hxN, by show nI (gr_t2 n b p sd x) = 0; rw [gr_t2_y hcx]; rfl, 3 - w', p, by omega, hsym, gb_conn_rf⟩ _ hxN
    refine xa_if_neN (tgt := 234) d_Ref_attempt_220 (by decide) (by omega) (fun hz => ?_) (fun hz => ?_)
    ·
      refine xa_iconst (v := nI 0) d_Ref_attempt_234 rfl ?_
      exact stop (gb_cnt (gq_cap n b p (3 - sd) 4) (n * n)) (3 - sd) (gr_t2 n b p sd) TR 0 _ (Or.inl ⟨hex, fun q hq => ⟨fun z => gr_t2_y z, fun z => gr_t2_n z⟩, rfl, rfl⟩) hTR (by rw [if_neg (by omega)]; exact hw1) (by rw [if_neg (by omega)])
    · omega
  · have hno : ∀ q, ¬ gq_cap n b p (3 - sd) 4 q := fun q hq => hex ⟨q, hq⟩
    have ht2 : gr_t2 n b p sd = gr_t1 b p sd := funext fun q => gr_t2_n (hno q)
    have hown := gr_own hp hp0 hsd hb
    rw [ht2] at hTR g1 g4 g6 hcl
    have hw10 : w 1 = 0 := by rw [hw1]; exact gb_cnt_0 _ (fun q _ => hno q)
    rw [ht2]
    refine xa_if_neN (tgt := 234) d_Ref_attempt_220 (by decide) (by omega) (fun hz => ?_) (fun hz => ?_)
    · have hbre : gq_bre n b p sd 4 := Classical.byContradiction (fun z => by have := hown.mpr z; omega)
      refine xa_iconst (v := nI 0) d_Ref_attempt_234 rfl ?_
      exact stop 0 (3 - sd) (gr_t1 b p sd) TR 0 _ (Or.inr (Or.inl ⟨hno, hbre, fun q _ => rfl, rfl, rfl⟩)) hTR (by rw [if_neg (by omega)]; exact hw10) (by rw [if_neg (by omega)])
    · have hbre := hown.mp hz
      have hcc := gr_ownc hp hp0 hsd hb hbre
      have hle : e' ≤ n * n := by rw [g6]; exact gb_cnt_le _
      refine xa_aload_n d_Ref_attempt_223 rfl ?_
      refine xa_aload_n d_Ref_attempt_224 rfl ?_
      refine xa_getf f_Ref_13 d_Ref_attempt_225 (by assumption) (by rfl) ?_
      refine xa_callV (As := [.ref (r + 2)]) (st := [.ref r]) d_Ref_attempt_228 k_Ref_90 q1 (c_Ref_takeOff (e := e') (rr := rr) q1 xA_8 (Or.inr rfl) xA_2 (xh_up_eq _ _ _) (by omega) (fun j hj => ⟨(g3 j hj).1, by have := (g3 j hj).2; omega⟩)) rfl rfl (Nat.le_of_ble_eq_true rfl) ⟨by have := hR.1; show 0 + 1 ≤ _; omega, by have := hR.2; show 8 + (3 + 11) + 0 ≤ _; omega⟩ (by omega) (by omega) (fun v' h' sz' hq => ?_)
      obtain ⟨TR', hTR', e1, e2, e3⟩ := hq
      rw [e1, e2, e3, xA_u2]
      refine xa_goto (tgt := 235) d_Ref_attempt_231 (by decide) ?_
      have hncp : ¬ gq_cap n b p sd 4 p := fun z => by
        have := gq_cap_b hp (by omega) hb z
        omega
      refine stop (gb_cnt (gq_cap n b p sd 4) (n * n) + 1) sd (gr_t3 n b p sd) TR' e' _ (Or.inr (Or.inr ⟨hno, hbre, fun q hq => ⟨fun z => gr_t3_y z, fun z => gr_t3_n z⟩, rfl, rfl⟩)) (fun q hq => ?_) (by rw [if_pos rfl]; exact hw10) ?_
      · by_cases hc : gq_cap n b p sd 4 q ∨ q = p
        · rw [(hTR' q).1 ((g4 q).mp ((hcc q).mpr hc))]
          rw [gr_t3_y hc]
          rfl
        · rw [(hTR' q).2 (fun z => hc ((hcc q).mp ((g4 q).mpr z))), hTR q hq]
          rw [gr_t3_n hc]
          show nI (if q = p then sd else b q) = nI (b q)
          rw [if_neg (fun z => hc (Or.inr z))]
      · rw [if_pos rfl, g6]
        exact gb_cnt_add (x := p) hncp (fun q => hcc q) (n * n) hp
theorem w_att4 {GO IN RW : Nat → Int32} {e : Nat} (hR : 3 ≤ R.frames ∧ 72 ≤ R.locals) (hn : 2 ≤ n ∧ n ≤ 13) (hp : p < n * n) (hp0 : b p = 0) (hsd : sd = 1 ∨ sd = 2) (hb : ∀ q, q < n * n → b q ≤ 2) (hG1 : ∀ q, q < n * n → (GO q = 1 ↔ gq_cap n b p (3 - sd) 4 q)) (hG2 : ∀ q, q < n * n → GO q = 0 ∨ GO q = 1) (k : Nat) (hk : k ≤ n * n) (TR : Nat → Int32) (hT1 : ∀ q, q < k → TR q = nI (gr_t2 n b p sd q)) (hT2 : ∀ q, k ≤ q → q < n * n → TR q = nI (gr_t1 b p sd q)) (w : Nat → Nat) (hw : ∀ i, i ≠ 1 → i ≠ 2 → i ≠ 5 → w i = v i) (hw1 : w 1 = gb_cnt (gq_cap n b p (3 - sd) 4) k) :
    xa_X l D H0 M_Ref_attempt R (xa_Zr D H0 0 0 (fun v' h' sz' => v' = none ∧ gr_At D h h' r n v b p sd ∧ sz' = sz)) 0 0 (xA_h D h r n w TR GO IN RW e) sz 162 [(0, .ref r), (1, .int (nI p)), (3, .ref (r + 13)), (4, .int (nI k))] [] := by
  have hN : n * n ≤ 169 := Nat.mul_le_mul hn.2 hn.2
  have q0 : xA_h D h r n w TR GO IN RW e r = some (xR_o r n (xh_up w 5 e)) := xA_0
  refine xa_iload d_Ref_attempt_162 rfl ?_
  refine xa_aload_n d_Ref_attempt_164 rfl ?_
  refine xa_getf f_Ref_62 d_Ref_attempt_165 (by assumption) (by rfl) ?_
  refine xa_icmp_geN (tgt := 202) d_Ref_attempt_168 (by decide) (by omega) (by omega) (fun hb4 => ?_) (fun hb4 => ?_)
  · have hke : k = n * n := by omega
    subst hke
    refine xa_ls ?_ (w_att5 hR hn hp hp0 hsd hb hT1 hw hw1)
    exact ⟨rfl, rfl, trivial⟩
  ·
    refine xa_aload_n d_Ref_attempt_171 rfl ?_
    refine xa_iload d_Ref_attempt_172 rfl ?_
    refine xa_zaldE d_Ref_attempt_174 xA_13 rfl (show k < 169 by omega) (by omega) rfl ?_
    refine xa_if_eq (tgt := 196) d_Ref_attempt_175 (by decide) (fun hz => ?_) (fun hz => ?_)
    · have hnc : ¬ gq_cap n b p (3 - sd) 4 k := fun z => by
        have := (hG1 k hb4).mpr z
        rw [hz] at this
        exact absurd this (by decide)
      refine xa_iincN d_Ref_attempt_196 rfl rfl rfl ?_
      refine xa_goto (tgt := 162) d_Ref_attempt_199 (by decide) ?_
      refine xa_ls ?_ (w_att4 hR hn hp hp0 hsd hb hG1 hG2 (k + 1) (by omega) TR (fun q hq => ?_) (fun q h1 h2 => hT2 q (by omega) h2) w hw (by rw [gb_cnt_n hnc]; exact hw1))
      · exact ⟨rfl, rfl, rfl, rfl, trivial⟩
      · by_cases he : q = k
        · rw [he, gr_t2_n hnc]; exact hT2 k (Nat.le_refl k) hb4
        · exact hT1 q (by omega)
    · have hc : gq_cap n b p (3 - sd) 4 k := (hG1 k hb4).mp ((hG2 k hb4).resolve_left hz)
      have hle := gb_cnt_le (P := gq_cap n b p (3 - sd) 4) k
      refine xa_aload_n d_Ref_attempt_178 rfl ?_
      refine xa_getf f_Ref_13 d_Ref_attempt_179 (by assumption) (by rfl) ?_
      refine xa_iload d_Ref_attempt_182 rfl ?_
      refine xa_iconst (v := nI 0) d_Ref_attempt_184 rfl ?_
      refine xa_iastE d_Ref_attempt_185 xA_2 rfl (show k < 169 by omega) (by omega) ?_
      refine xa_heap (xA_u2 _) ?_
      have q1 : xA_h D h r n w (upd TR k (nI 0)) GO IN RW e r = some (xR_o r n (xh_up w 5 e)) := xA_0
      refine xa_aload_n d_Ref_attempt_186 rfl ?_
      refine xa_dup d_Ref_attempt_187 rfl ?_
      refine xa_getf f_Ref_79 d_Ref_attempt_188 (by assumption) (by rfl) ?_
      refine xa_int (y := nI (gb_cnt (gq_cap n b p (3 - sd) 4) k)) (by rw [← hw1]; rfl) ?_
      refine xa_iconst (v := nI 1) d_Ref_attempt_191 rfl ?_
      refine xa_iaddN d_Ref_attempt_192 ?_
      refine xa_putf f_Ref_79 d_Ref_attempt_193 q1 (Nat.le_of_ble_eq_true rfl) rfl rfl ?_
      refine xa_heap (xA_o1 (gb_cnt (gq_cap n b p (3 - sd) 4) k + 1)) ?_
      refine xa_iincN d_Ref_attempt_196 rfl rfl rfl ?_
      refine xa_goto (tgt := 162) d_Ref_attempt_199 (by decide) ?_
      refine xa_ls ?_ (w_att4 hR hn hp hp0 hsd hb hG1 hG2 (k + 1) (by omega) _ (fun q hq => ?_) (fun q h1 h2 => ?_) _ (fun i i1 i2 i5 => ?_) (by rw [gb_cnt_y hc, xh_up_eq]))
      · exact ⟨rfl, rfl, rfl, rfl, trivial⟩
      · by_cases he : q = k
        · rw [he, gr_t2_y hc]; exact if_pos rfl
        · have hu : upd TR k (nI 0) q = TR q := if_neg he
          rw [hu]
          exact hT1 q (by omega)
      · have hu : upd TR k (nI 0) q = TR q := if_neg (by omega)
        rw [hu]
        exact hT2 q (by omega) h2
      · rw [xh_up_ne _ _ i1]
        exact hw i i1 i2 i5
termination_by n * n - k
decreasing_by all_goals omega
/-- the marks of the first w ways -/
def gr_GO (n : Nat) (b : Nat → Nat) (p sd w : Nat) (GO : Nat → Int32) : Prop := (∀ q, q < n * n → (GO q = 1 ↔ gr_capw n b p (3 - sd) w q)) ∧ ∀ q, q < n * n → GO q = 0 ∨ GO q = 1
theorem w_att3i {x wy e : Nat} {TR IN RW : Nat → Int32} {rr : Nat → Nat} {w : Nat → Nat} (hn : 2 ≤ n ∧ n ≤ 13) (hx : gb_nb n p (gr_w wy) = some x) (hbx : b x = 3 - sd) (hcnt : gb_cnt (gt_br n (fun q => nI (b q)) x) (n * n) = 1) (hRW : ∀ j, j < e → RW j = nI (rr j) ∧ rr j < n * n) (hrr : ∀ q, gb_conn n (fun q => nI (b q)) x q ↔ ∃ j, j < e ∧ rr j = q) (he : e ≤ n * n) {GO0 : Nat → Int32} (hG0 : gr_GO n b p sd wy GO0)
    (kont : ∀ GO, gr_GO n b p sd (wy + 1) GO → xa_X l D H0 M_Ref_attempt R Z 0 0 (xA_h D h r n w TR GO IN RW e) sz 153 [(0, .ref r), (1, .int (nI p)), (2, .int (nI sd)), (3, .ref (r + 13)), (4, .int (nI wy))] []) (k : Nat) (hk : k ≤ e) (GO : Nat → Int32) (hG : ∀ q, q < n * n → ((∃ j, j < k ∧ rr j = q) → GO q = 1) ∧ ((¬ ∃ j, j < k ∧ rr j = q) → GO q = GO0 q)) :
    xa_X l D H0 M_Ref_attempt R Z 0 0 (xA_h D h r n w TR GO IN RW e) sz 128 [(0, .ref r), (1, .int (nI p)), (2, .int (nI sd)), (3, .ref (r + 13)), (4, .int (nI wy)), (6, .int (nI k))] [] := by
  have hN : n * n ≤ 169 := Nat.mul_le_mul hn.2 hn.2
  have q0 : xA_h D h r n w TR GO IN RW e r = some (xR_o r n (xh_up w 5 e)) := xA_0
  refine xa_iload d_Ref_attempt_128 rfl ?_
  refine xa_aload_n d_Ref_attempt_130 rfl ?_
  refine xa_getf f_Ref_68 d_Ref_attempt_131 (by assumption) (by rfl) ?_
  refine xa_int (y := nI e) rfl ?_
  refine xa_icmp_geN (tgt := 153) d_Ref_attempt_134 (by decide) (by omega) (by omega) (fun hb4 => ?_) (fun hb4 => ?_)
  · have hke : k = e := by omega
    subst hke
    refine xa_ls ?_ (kont GO ⟨fun q hq => ⟨fun z => ?_, ?_⟩, fun q hq => ?_⟩)
    · exact ⟨rfl, rfl, rfl, rfl, rfl, trivial⟩
    · by_cases hj : ∃ j, j < k ∧ rr j = q
      · exact ⟨wy, x, by omega, hx, hbx, hcnt, (hrr q).mpr hj⟩
      · rw [(hG q hq).2 hj] at z
        obtain ⟨v', y, h1, h2⟩ := (hG0.1 q hq).mp z
        exact ⟨v', y, by omega, h2⟩
    · rintro ⟨v', y, h1, h2, h3, h4, h5⟩
      by_cases hj : ∃ j, j < k ∧ rr j = q
      · exact (hG q hq).1 hj
      · rw [(hG q hq).2 hj]
        refine (hG0.1 q hq).mpr ⟨v', y, ?_, h2, h3, h4, h5⟩
        by_cases hvw : v' = wy
        · rw [hvw, hx] at h2
          cases h2
          exact absurd ((hrr q).mp h5) hj
        · omega
    · by_cases hj : ∃ j, j < k ∧ rr j = q
      · exact Or.inr ((hG q hq).1 hj)
      · rw [(hG q hq).2 hj]; exact hG0.2 q hq
  · obtain ⟨r1, r2⟩ := hRW k hb4
    refine xa_aload_n d_Ref_attempt_137 rfl ?_
    refine xa_aload_n d_Ref_attempt_138 rfl ?_
    refine xa_getf f_Ref_38 d_Ref_attempt_139 (by assumption) (by rfl) ?_
    refine xa_iload d_Ref_attempt_142 rfl ?_
    refine xa_ialdE d_Ref_attempt_144 xA_8 rfl (show k < 169 by omega) (by omega) r1 ?_
    refine xa_iconst (v := nI 1) d_Ref_attempt_145 rfl ?_
    refine xa_zast d_Ref_attempt_146 xA_13 (show rr k < 169 by omega) rfl (by omega) ?_
    refine xa_heap (xA_u13 _) ?_
    refine xa_iincN d_Ref_attempt_147 rfl rfl rfl ?_
    refine xa_goto (tgt := 128) d_Ref_attempt_150 (by decide) ?_
    refine xa_ls ?_ (w_att3i hn hx hbx hcnt hRW hrr he hG0 kont (k + 1) (by omega) _ (fun q hq => ⟨fun ⟨j, hj, ej⟩ => ?_, fun hno => ?_⟩))
    · exact ⟨rfl, rfl, rfl, rfl, rfl, rfl, trivial⟩
    · by_cases hqk : q = rr k
      · exact if_pos hqk
      · have hu : upd GO (rr k) (vp_nar .boolean (nI 1)) q = GO q := if_neg hqk
        rw [hu]
        refine (hG q hq).1 ⟨j, ?_, ej⟩
        by_cases hjk : j = k
        · subst hjk; exact absurd ej.symm hqk
        · omega
    · have hu : upd GO (rr k) (vp_nar .boolean (nI 1)) q = GO q := if_neg (fun z => hno ⟨k, by omega, z.symm⟩)
      rw [hu]
      exact (hG q hq).2 (fun ⟨j, hj, ej⟩ => hno ⟨j, by omega, ej⟩)
termination_by e - k
decreasing_by omega
theorem w_att3 {TR : Nat → Int32} {w : Nat → Nat} (hR : 3 ≤ R.frames ∧ 72 ≤ R.locals) (hn : 2 ≤ n ∧ n ≤ 13) (hp : p < n * n) (hp0 : b p = 0) (hsd : sd = 1 ∨ sd = 2) (hb : ∀ q, q < n * n → b q ≤ 2) (hTR : ∀ q, q < n * n → TR q = nI (gr_t1 b p sd q)) (hw : ∀ i, i ≠ 1 → i ≠ 2 → i ≠ 5 → w i = v i) (hw1 : w 1 = 0) (wy : Nat) (hwy : wy ≤ 4) (GO IN RW : Nat → Int32) (e : Nat) (hG : gr_GO n b p sd wy GO) :
    xa_X l D H0 M_Ref_attempt R (xa_Zr D H0 0 0 (fun v' h' sz' => v' = none ∧ gr_At D h h' r n v b p sd ∧ sz' = sz)) 0 0 (xA_h D h r n w TR GO IN RW e) sz 71 [(0, .ref r), (1, .int (nI p)), (2, .int (nI sd)), (3, .ref (r + 13)), (4, .int (nI wy))] [] := by
  have hN : n * n ≤ 169 := Nat.mul_le_mul hn.2 hn.2
  have q0 : xA_h D h r n w TR GO IN RW e r = some (xR_o r n (xh_up w 5 e)) := xA_0
  refine xa_iload d_Ref_attempt_71 rfl ?_
  refine xa_iconst (v := nI 4) d_Ref_attempt_73 rfl ?_
  refine xa_icmp_geN (tgt := 159) d_Ref_attempt_74 (by decide) (by omega) (by omega) (fun hb4 => ?_) (fun hb4 => ?_)
  · have hw4 : wy = 4 := by omega
    subst hw4
    refine xa_iconst (v := nI 0) d_Ref_attempt_159 rfl ?_
    refine xa_istore d_Ref_attempt_160 rfl rfl ?_
    refine xa_ls ?_ (w_att4 hR hn hp hp0 hsd hb (fun q hq => (hG.1 q hq).trans gr_capw_4) hG.2 0 (by omega) TR (fun q hq => absurd hq (Nat.not_lt_zero _)) (fun q _ hq => hTR q hq) w hw hw1)
    exact ⟨rfl, rfl, rfl, rfl, trivial⟩
  ·
    refine xa_aload_n d_Ref_attempt_77 rfl ?_
    refine xa_iload_n d_Ref_attempt_78 rfl ?_
    refine xa_iload d_Ref_attempt_79 rfl ?_
    refine xa_callVr (As := [.int (nI p), .int (nI wy)]) (st := []) d_Ref_attempt_81 k_Ref_71 q0 (c_Ref_beside q0 hn hp hb4) rfl rfl (Nat.le_of_ble_eq_true rfl) ⟨by have := hR.1; show 0 + 1 ≤ _; omega, by have := hR.2; show 8 + (5 + 11) + 0 ≤ _; omega⟩ (by omega) (by omega) ?_
    have again : ∀ (GO IN RW : Nat → Int32) (e : Nat) (lsx : List (Nat × Value)), gr_GO n b p sd (wy + 1) GO → xa_lk lsx 0 = some (.ref r) → xa_lk lsx 1 = some (.int (nI p)) → xa_lk lsx 2 = some (.int (nI sd)) → xa_lk lsx 3 = some (.ref (r + 13)) → xa_lk lsx 4 = some (.int (nI wy)) → xa_X l D H0 M_Ref_attempt R (xa_Zr D H0 0 0 (fun v' h' sz' => v' = none ∧ gr_At D h h' r n v b p sd ∧ sz' = sz)) 0 0 (xA_h D h r n w TR GO IN RW e) sz 153 lsx [] := by
      intro GO IN RW e lsx hG l0 l1 l2 l3 l4
      refine xa_ls (ls' := [(0, .ref r), (1, .int (nI p)), (2, .int (nI sd)), (3, .ref (r + 13)), (4, .int (nI wy))]) ⟨l0, l1, l2, l3, l4, trivial⟩ ?_
      refine xa_iincN d_Ref_attempt_153 rfl rfl rfl ?_
      refine xa_goto (tgt := 71) d_Ref_attempt_156 (by decide) ?_
      refine xa_ls ?_ (w_att3 hR hn hp hp0 hsd hb hTR hw hw1 (wy + 1) (by omega) GO IN RW e hG)
      exact ⟨rfl, rfl, rfl, rfl, rfl, trivial⟩
    have same : (∀ x, gb_nb n p (gr_w wy) = some x → ¬ (b x = 3 - sd ∧ gb_cnt (gt_br n (fun q => nI (b q)) x) (n * n) = 1)) → gr_GO n b p sd (wy + 1) GO := fun hno => ⟨fun q hq => (hG.1 q hq).trans ⟨fun ⟨v', y, h1, h2⟩ => ⟨v', y, by omega, h2⟩, fun ⟨v', y, h1, h2, h3, h4, h5⟩ => ⟨v', y, by
      by_cases hvw : v' = wy
      · rw [hvw] at h2; exact absurd ⟨h3, h4⟩ (hno y h2)
      · omega, h2, h3, h4, h5⟩⟩, hG.2⟩
    cases hnb : gb_nb n p (gr_w wy) with
    | none =>
      refine xa_int (y := -1) rfl ?_
      refine xa_istore d_Ref_attempt_84 rfl rfl ?_
      refine xa_iload d_Ref_attempt_86 rfl ?_
      refine xa_if_lt (tgt := 153) d_Ref_attempt_88 (by decide) (fun hz => ?_) (fun hz => ?_)
      · exact again GO IN RW e _ (same (fun x hx => by rw [hnb] at hx; cases hx)) rfl rfl rfl rfl rfl
      · exact absurd (by decide) hz
    | some y =>
      have hy := gb_nb_lt hp (gr_w_lt wy) hnb
      have hby := hb y hy
      have hyp : y ≠ p := fun z => gb_nb_irr hp (gr_w_lt wy) (by rw [hnb, z])
      have hTy : TR y = nI (b y) := by
        rw [hTR y hy]
        show nI (if y = p then sd else b y) = nI (b y)
        rw [if_neg hyp]
      refine xa_int (y := nI y) rfl ?_
      refine xa_istore d_Ref_attempt_84 rfl rfl ?_
      refine xa_iload d_Ref_attempt_86 rfl ?_
      refine xa_if_lt (tgt := 153) d_Ref_attempt_88 (by decide) (fun hz => ?_) (fun hz => ?_)
      · exact absurd hz (nI_pos (by omega))
      ·
        refine xa_aload_n d_Ref_attempt_91 rfl ?_
        refine xa_getf f_Ref_13 d_Ref_attempt_92 (by assumption) (by rfl) ?_
        refine xa_iload d_Ref_attempt_95 rfl ?_
        refine xa_ialdE d_Ref_attempt_97 xA_2 rfl (show y < 169 by omega) (by omega) hTy ?_
        refine xa_iconst (v := nI 3) d_Ref_attempt_98 rfl ?_
        refine xa_iload_n d_Ref_attempt_99 rfl ?_
        refine xa_isubN d_Ref_attempt_100 (by omega) ?_
        refine xa_icmp_neN (tgt := 153) d_Ref_attempt_101 (by decide) (by omega) (by omega) (fun hz2 => ?_) (fun hz2 => ?_)
        · exact again GO IN RW e _ (same (fun x hx => by rw [hnb] at hx; cases hx; exact fun z => hz2 z.1)) rfl rfl rfl rfl rfl
        · have hle1 : ∀ q, q < n * n → gr_t1 b p sd q ≤ 2 := fun q hq => by
            show (if q = p then sd else b q) ≤ 2
            split
            · omega
            · exact hb q hq
          obtain ⟨hcap1, hcap2⟩ := gr_cap hp hp0 hsd hb (gr_w_lt wy) hnb hz2
          refine xa_aload_n d_Ref_attempt_104 rfl ?_
          refine xa_aload_n d_Ref_attempt_105 rfl ?_
          refine xa_getf f_Ref_13 d_Ref_attempt_106 (by assumption) (by rfl) ?_
          refine xa_iload d_Ref_attempt_109 rfl ?_
          refine xa_callV (As := [.ref (r + 2), .int (nI y)]) (st := []) d_Ref_attempt_111 k_Ref_82 q0 (c_Ref_gather (b := gr_t1 b p sd) q0 xA_7 xA_8 hn (Or.inr rfl) xA_2 hTR hy) rfl rfl (Nat.le_of_ble_eq_true rfl) ⟨by have := hR.1; show 1 + 1 ≤ _; omega, by have := hR.2; show 8 + (6 + 11) + 24 ≤ _; omega⟩ (by omega) (by omega) (fun v' h' sz' hq => ?_)
          obtain ⟨IN', RW', rr, e', hG', e1, e2, e3⟩ := hq
          rw [e1, e2, e3, xA_G]
          obtain ⟨g1, g2, g3, g4, g5, g6⟩ := id hG'
          have hle : e' ≤ n * n := by rw [g6]; exact gb_cnt_le _
          have hcl := gb_cnt_le (P := gt_br n (fun q => nI (gr_t1 b p sd q)) y) (n * n)
          have q1 : xA_h D h r n w TR GO IN' RW' e' r = some (xR_o r n (xh_up w 5 e')) := xA_0
          refine xa_aload_n d_Ref_attempt_114 rfl ?_
          refine xa_aload_n d_Ref_attempt_115 rfl ?_
          refine xa_getf f_Ref_13 d_Ref_attempt_116 (by assumption) (by rfl) ?_
          refine xa_callVr (As := [.ref (r + 2)]) (st := []) d_Ref_attempt_119 k_Ref_86 q1 (c_Ref_breaths (b := gr_t1 b p sd) (x := y) q1 xA_7 hn xA_2 hTR hle1 g1 g2) rfl rfl (Nat.le_of_ble_eq_true rfl) ⟨hR.1, hR.2⟩ (by omega) (by omega) ?_
          refine xa_if_neN (tgt := 153) d_Ref_attempt_122 (by decide) (by omega) (fun hz3 => ?_) (fun hz3 => ?_)
          · exact again GO IN' RW' e' _ (same (fun x hx => by rw [hnb] at hx; cases hx; exact fun z => by have := hcap1.mpr z.2; omega)) rfl rfl rfl rfl rfl
          ·
            refine xa_iconst (v := nI 0) d_Ref_attempt_125 rfl ?_
            refine xa_istore d_Ref_attempt_126 rfl rfl ?_
            refine xa_ls ?_ (w_att3i (sd := sd) (rr := rr) hn hnb hz2 (hcap1.mp hz3) g3 (fun q => (hcap2 q).symm.trans (g4 q)) hle hG (fun GO' hG'' => again GO' IN' RW' e' _ hG'' rfl rfl rfl rfl rfl) 0 (by omega) GO (fun q hq => ⟨fun ⟨j, hj, _⟩ => absurd hj (Nat.not_lt_zero _), fun _ => rfl⟩))
            exact ⟨rfl, rfl, rfl, rfl, rfl, rfl, trivial⟩
termination_by 4 - wy
decreasing_by omega
theorem w_att2 {TR IN RW GO0 : Nat → Int32} {e : Nat} {w : Nat → Nat} (hR : 3 ≤ R.frames ∧ 72 ≤ R.locals) (hn : 2 ≤ n ∧ n ≤ 13) (hp : p < n * n) (hp0 : b p = 0) (hsd : sd = 1 ∨ sd = 2) (hb : ∀ q, q < n * n → b q ≤ 2) (hTR : ∀ q, q < n * n → TR q = nI (gr_t1 b p sd q)) (hw : ∀ i, i ≠ 1 → i ≠ 2 → i ≠ 5 → w i = v i) (hw1 : w 1 = 0) (k : Nat) (hk : k ≤ n * n) :
    xa_X l D H0 M_Ref_attempt R (xa_Zr D H0 0 0 (fun v' h' sz' => v' = none ∧ gr_At D h h' r n v b p sd ∧ sz' = sz)) 0 0 (xA_h D h r n w TR (fun q => if q < k then 0 else GO0 q) IN RW e) sz 48 [(0, .ref r), (1, .int (nI p)), (2, .int (nI sd)), (3, .ref (r + 13)), (4, .int (nI k))] [] := by
  have hN : n * n ≤ 169 := Nat.mul_le_mul hn.2 hn.2
  have q0 : xA_h D h r n w TR (fun q => if q < k then 0 else GO0 q) IN RW e r = some (xR_o r n (xh_up w 5 e)) := xA_0
  refine xa_iload d_Ref_attempt_48 rfl ?_
  refine xa_aload_n d_Ref_attempt_50 rfl ?_
  refine xa_getf f_Ref_62 d_Ref_attempt_51 (by assumption) (by rfl) ?_
  refine xa_icmp_geN (tgt := 68) d_Ref_attempt_54 (by decide) (by omega) (by omega) (fun hb4 => ?_) (fun hb4 => ?_)
  · have hke : k = n * n := by omega
    subst hke
    refine xa_iconst (v := nI 0) d_Ref_attempt_68 rfl ?_
    refine xa_istore d_Ref_attempt_69 rfl rfl ?_
    refine xa_ls ?_ (w_att3 hR hn hp hp0 hsd hb hTR hw hw1 0 (by omega) _ IN RW e ⟨fun q hq => ?_, fun q hq => Or.inl (if_pos hq)⟩)
    · exact ⟨rfl, rfl, rfl, rfl, rfl, trivial⟩
    · have hu : (fun q => if q < n * n then (0 : Int32) else GO0 q) q = 0 := if_pos hq
      rw [hu]
      exact ⟨fun z => absurd z (by decide), fun ⟨v', x, hv', _⟩ => absurd hv' (Nat.not_lt_zero _)⟩
  ·
    refine xa_aload_n d_Ref_attempt_57 rfl ?_
    refine xa_iload d_Ref_attempt_58 rfl ?_
    refine xa_iconst (v := nI 0) d_Ref_attempt_60 rfl ?_
    refine xa_zast d_Ref_attempt_61 xA_13 (show k < 169 by omega) rfl (by omega) ?_
    refine xa_heap (xA_u13 _) ?_
    have hu : upd (fun q => if q < k then 0 else GO0 q) k (vp_nar .boolean (nI 0)) = fun q => if q < k + 1 then 0 else GO0 q := by
      funext q
      show (if q = k then (0 : Int32) else (if q < k then 0 else GO0 q)) = _
      by_cases hqk : q = k
      · rw [if_pos hqk, if_pos (by omega)]
      · rw [if_neg hqk]
        by_cases hq2 : q < k
        · rw [if_pos hq2, if_pos (by omega)]
        · rw [if_neg hq2, if_neg (by omega)]
    rw [hu]
    refine xa_iincN d_Ref_attempt_62 rfl rfl rfl ?_
    refine xa_goto (tgt := 48) d_Ref_attempt_65 (by decide) ?_
    refine xa_ls ?_ (w_att2 (GO0 := GO0) hR hn hp hp0 hsd hb hTR hw hw1 (k + 1) (by omega))
    exact ⟨rfl, rfl, rfl, rfl, rfl, trivial⟩
termination_by n * n - k
decreasing_by omega
theorem w_att1 {B IN RW GO : Nat → Int32} {e : Nat} (hR : 3 ≤ R.frames ∧ 72 ≤ R.locals) (hn : 2 ≤ n ∧ n ≤ 13) (hp : p < n * n) (hp0 : b p = 0) (hsd : sd = 1 ∨ sd = 2) (hb : ∀ q, q < n * n → b q ≤ 2) (hB : h (r + 1) = some (.inl (D.1 100, 169, .inl B))) (hBb : ∀ q, q < n * n → B q = nI (b q)) (k : Nat) (hk : k ≤ n * n) (TR : Nat → Int32) (hTR : ∀ q, q < k → TR q = nI (b q)) :
    xa_X l D H0 M_Ref_attempt R (xa_Zr D H0 0 0 (fun v' h' sz' => v' = none ∧ gr_At D h h' r n v b p sd ∧ sz' = sz)) 0 0 (xA_h D h r n v TR GO IN RW e) sz 2 [(0, .ref r), (1, .int (nI p)), (2, .int (nI sd)), (3, .int (nI k))] [] := by
  have hN : n * n ≤ 169 := Nat.mul_le_mul hn.2 hn.2
  have q0 : xA_h D h r n v TR GO IN RW e r = some (xR_o r n (xh_up v 5 e)) := xA_0
  have qB : xA_h D h r n v TR GO IN RW e (r + 1) = some (.inl (D.1 100, 169, .inl B)) := (xA_n (by omega) (by omega) (by omega) (by omega) (by omega)).trans hB
  refine xa_iload_n d_Ref_attempt_2 rfl ?_
  refine xa_aload_n d_Ref_attempt_3 rfl ?_
  refine xa_getf f_Ref_62 d_Ref_attempt_4 (by assumption) (by rfl) ?_
  refine xa_icmp_geN (tgt := 28) d_Ref_attempt_7 (by decide) (by omega) (by omega) (fun hb4 => ?_) (fun hb4 => ?_)
  · have hke : k = n * n := by omega
    subst hke
    refine xa_aload_n d_Ref_attempt_28 rfl ?_
    refine xa_getf f_Ref_13 d_Ref_attempt_29 (by assumption) (by rfl) ?_
    refine xa_iload_n d_Ref_attempt_32 rfl ?_
    refine xa_iload_n d_Ref_attempt_33 rfl ?_
    refine xa_iastE d_Ref_attempt_34 xA_2 rfl (show p < 169 by omega) (by omega) ?_
    refine xa_heap (xA_u2 _) ?_
    have q1 : xA_h D h r n v (upd TR p (nI sd)) GO IN RW e r = some (xR_o r n (xh_up v 5 e)) := xA_0
    refine xa_aload_n d_Ref_attempt_35 rfl ?_
    refine xa_iconst (v := nI 0) d_Ref_attempt_36 rfl ?_
    refine xa_putf f_Ref_79 d_Ref_attempt_37 q1 (Nat.le_of_ble_eq_true rfl) rfl rfl ?_
    refine xa_heap (xA_o1 0) ?_
    have q2 : xA_h D h r n (xh_up v 1 0) (upd TR p (nI sd)) GO IN RW e r = some (xR_o r n (xh_up (xh_up v 1 0) 5 e)) := xA_0
    refine xa_aload_n d_Ref_attempt_40 rfl ?_
    refine xa_getf f_Ref_53 d_Ref_attempt_41 (by assumption) (by rfl) ?_
    refine xa_astore_n d_Ref_attempt_44 rfl rfl ?_
    refine xa_iconst (v := nI 0) d_Ref_attempt_45 rfl ?_
    refine xa_istore d_Ref_attempt_46 rfl rfl ?_
    refine xa_heap (h' := xA_h D h r n (xh_up v 1 0) (upd TR p (nI sd)) (fun q => if q < 0 then 0 else GO q) IN RW e) ?_ ?_
    · have e0 : (fun q => if q < 0 then 0 else GO q) = GO := by
        funext q
        exact if_neg (Nat.not_lt_zero _)
      rw [e0]
    · refine xa_ls ?_ (w_att2 (GO0 := GO) hR hn hp hp0 hsd hb (fun q hq => ?_) (fun i i1 i2 i5 => xh_up_ne _ _ i1) (xh_up_eq _ _ _) 0 (by omega))
      · exact ⟨rfl, rfl, rfl, rfl, rfl, trivial⟩
      · by_cases hqp : q = p
        · rw [hqp, gr_t1_pp]; exact if_pos rfl
        · have hu : upd TR p (nI sd) q = TR q := if_neg hqp
          rw [hu, hTR q hq]
          show nI (b q) = nI (if q = p then sd else b q)
          rw [if_neg hqp]
  ·
    refine xa_aload_n d_Ref_attempt_10 rfl ?_
    refine xa_getf f_Ref_13 d_Ref_attempt_11 (by assumption) (by rfl) ?_
    refine xa_iload_n d_Ref_attempt_14 rfl ?_
    refine xa_aload_n d_Ref_attempt_15 rfl ?_
    refine xa_getf f_Ref_7 d_Ref_attempt_16 (by assumption) (by rfl) ?_
    refine xa_iload_n d_Ref_attempt_19 rfl ?_
    refine xa_ialdE d_Ref_attempt_20 qB rfl (show k < 169 by omega) (by omega) (hBb k hb4) ?_
    refine xa_iastE d_Ref_attempt_21 xA_2 rfl (show k < 169 by omega) (by omega) ?_
    refine xa_heap (xA_u2 _) ?_
    refine xa_iincN d_Ref_attempt_22 rfl rfl rfl ?_
    refine xa_goto (tgt := 2) d_Ref_attempt_25 (by decide) ?_
    refine xa_ls ?_ (w_att1 hR hn hp hp0 hsd hb hB hBb (k + 1) (by omega) _ (fun q hq => ?_))
    · exact ⟨rfl, rfl, rfl, rfl, trivial⟩
    · by_cases he : q = k
      · rw [he]; exact if_pos rfl
      · have hu : upd TR k (nI (b k)) q = TR q := if_neg he
        rw [hu]
        exact hTR q (by omega)
termination_by n * n - k
decreasing_by omega
theorem c_Ref_attempt {B TR IN RW GO : Nat → Int32} (h0 : h r = some (xR_o r n v)) (hB : h (r + 1) = some (.inl (D.1 100, 169, .inl B))) (h2 : h (r + 2) = some (.inl (D.1 100, 169, .inl TR))) (h13 : h (r + 13) = some (.inl (D.1 102, 169, .inl GO))) (h7 : h (r + 7) = some (.inl (D.1 102, 169, .inl IN))) (h8 : h (r + 8) = some (.inl (D.1 100, 169, .inl RW))) (hn : 2 ≤ n ∧ n ≤ 13) (hp : p < n * n) (hp0 : b p = 0) (hsd : sd = 1 ∨ sd = 2) (hb : ∀ q, q < n * n → b q ≤ 2) (hBb : ∀ q, q < n * n → B q = nI (b q)) :
    xa_M l D H0 M_Ref_attempt 3 72 0 0 [.ref r, .int (nI p), .int (nI sd)] h sz (fun v' h' sz' => v' = none ∧ gr_At D h h' r n v b p sd ∧ sz' = sz) := by
  refine xa_enter (by decide) rfl rfl ?_
  refine xa_iconst (v := nI 0) d_Ref_attempt_0 rfl ?_
  refine xa_istore_n d_Ref_attempt_1 rfl rfl ?_
  refine xa_heap (xA_s h0 h2 h13 h7 h8).symm ?_
  refine xa_ls ?_ (w_att1 ⟨by decide, by decide⟩ hn hp hp0 hsd hb hB hBb 0 (by omega) TR (fun q hq => absurd hq (Nat.not_lt_zero _)))
  exact ⟨rfl, rfl, rfl, rfl, trivial⟩
end RA
