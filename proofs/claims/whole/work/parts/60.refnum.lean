/-! The reference: number, strings, met, ownerOf, ground, owner. -/
def gr_dn (n : Nat) (b : Nat → Nat) (sd p q : Nat) : Prop := b q = sd ∧ ∃ x, x < p ∧ gb_conn n (fun q => nI (b q)) q x
/-- the strings of a side, numbered, as far as they begin before p -/
def gr_N (n : Nat) (b : Nat → Nat) (sd p : Nat) (GR : Nat → Int32) (gn : Nat → Nat) (g : Nat) : Prop :=
  (∀ q, q < n * n → (gr_dn n b sd p q → GR q = nI (gn q) ∧ gn q < g) ∧ (¬ gr_dn n b sd p q → GR q = -1)) ∧ (∀ q q', q < n * n → q' < n * n → gr_dn n b sd p q → gr_dn n b sd p q' → (gn q = gn q' ↔ gb_conn n (fun q => nI (b q)) q q')) ∧ (∀ a, a < g → ∃ q, q < n * n ∧ gr_dn n b sd p q ∧ gn q = a) ∧ g = gb_cnt (fun x => b x = sd ∧ gx_lst n (fun q => nI (b q)) x) p
section RN
variable {n : Nat} {b : Nat → Nat} {sd p g : Nat} {GR GR' : Nat → Int32} {gn : Nat → Nat}
theorem gr_N_0 (h : ∀ q, q < n * n → GR q = -1) : gr_N n b sd 0 GR (fun _ => 0) 0 :=
  ⟨fun q hq => ⟨fun ⟨_, x, hx, _⟩ => absurd hx (Nat.not_lt_zero _), fun _ => h q hq⟩, fun q q' _ _ ⟨_, x, hx, _⟩ => absurd hx (Nat.not_lt_zero _), fun a ha => absurd ha (Nat.not_lt_zero _), rfl⟩
theorem gr_N_skip (h : gr_N n b sd p GR gn g) (hb : ∀ q, q < n * n → b q ≤ 2) (hp : p < n * n) (hno : b p ≠ sd ∨ gr_dn n b sd p p) : gr_N n b sd (p + 1) GR gn g := by
  have hd : ∀ q, q < n * n → (gr_dn n b sd (p + 1) q ↔ gr_dn n b sd p q) := fun q hq => ⟨fun ⟨h1, x, hx, hc⟩ => ⟨h1, by
    by_cases hxp : x = p
    · subst hxp
      rcases hno with hno | ⟨-, y, hy, hcy⟩
      · exact absurd ((gb_b_eq hq hb hc).trans h1) hno
      · exact ⟨y, hy, gb_conn_tr hc hcy⟩
    · exact ⟨x, by omega, hc⟩⟩, fun ⟨h1, x, hx, hc⟩ => ⟨h1, x, by omega, hc⟩⟩
  obtain ⟨a1, a2, a3, a4⟩ := h
  refine ⟨fun q hq => ⟨fun z => (a1 q hq).1 ((hd q hq).mp z), fun z => (a1 q hq).2 (fun y => z ((hd q hq).mpr y))⟩, fun q q' hq hq' z z' => a2 q q' hq hq' ((hd q hq).mp z) ((hd q' hq').mp z'), fun a ha => ?_, ?_⟩
  · obtain ⟨q, hq, z, e⟩ := a3 a ha
    exact ⟨q, hq, (hd q hq).mpr z, e⟩
  · rw [gb_cnt_n (fun z => ?_)]
    · exact a4
    · rcases hno with hno | ⟨-, y, hy, hcy⟩
      · exact hno z.1
      · have := z.2 y hcy
        omega
theorem gr_N_add (h : gr_N n b sd p GR gn g) (hb : ∀ q, q < n * n → b q ≤ 2) (hp : p < n * n) (hbp : b p = sd) (hnd : ¬ gr_dn n b sd p p) (hG : ∀ q, q < n * n → (gb_conn n (fun q => nI (b q)) p q → GR' q = nI g) ∧ (¬ gb_conn n (fun q => nI (b q)) p q → GR' q = GR q)) :
    ∃ gn', gr_N n b sd (p + 1) GR' gn' (g + 1) := by
  obtain ⟨a1, a2, a3, a4⟩ := h
  let gn' : Nat → Nat := fun q => @ite Nat (gb_conn n (fun q => nI (b q)) p q) (Classical.propDecidable _) g (gn q)
  have gy : ∀ q, gb_conn n (fun q => nI (b q)) p q → gn' q = g := fun q z => if_pos z
  have gno : ∀ q, ¬ gb_conn n (fun q => nI (b q)) p q → gn' q = gn q := fun q z => if_neg z
  have hd : ∀ q, q < n * n → (gr_dn n b sd (p + 1) q ↔ gr_dn n b sd p q ∨ gb_conn n (fun q => nI (b q)) p q) := fun q hq => ⟨fun ⟨h1, x, hx, hc⟩ => by
    by_cases hxp : x = p
    · subst hxp; exact Or.inr (gb_conn_sy hq hc)
    · exact Or.inl ⟨h1, x, by omega, hc⟩, fun z => z.elim (fun ⟨h1, x, hx, hc⟩ => ⟨h1, x, by omega, hc⟩) (fun z => ⟨(gb_b_eq hp hb z).trans hbp, p, by omega, gb_conn_sy hp z⟩)⟩
  have dis : ∀ q, q < n * n → gr_dn n b sd p q → ¬ gb_conn n (fun q => nI (b q)) p q := fun q hq ⟨h1, x, hx, hc⟩ z => hnd ⟨hbp, x, hx, gb_conn_tr z hc⟩
  refine ⟨gn', fun q hq => ⟨fun z => ?_, fun z => ?_⟩, fun q q' hq hq' z z' => ?_, fun a ha => ?_, ?_⟩
  · rcases (hd q hq).mp z with z | z
    · have z2 := dis q hq z
      rw [(hG q hq).2 z2, gno q z2]
      have := (a1 q hq).1 z
      exact ⟨this.1, by omega⟩
    · rw [(hG q hq).1 z, gy q z]
      exact ⟨rfl, by omega⟩
  · have z2 : ¬ gb_conn n (fun q => nI (b q)) p q := fun y => z ((hd q hq).mpr (Or.inr y))
    rw [(hG q hq).2 z2]
    exact (a1 q hq).2 (fun y => z ((hd q hq).mpr (Or.inl y)))
  · rcases (hd q hq).mp z with z | z <;> rcases (hd q' hq').mp z' with z' | z'
    · rw [gno q (dis q hq z), gno q' (dis q' hq' z')]
      exact a2 q q' hq hq' z z'
    · rw [gno q (dis q hq z), gy q' z']
      have := ((a1 q hq).1 z).2
      exact ⟨fun y => by omega, fun y => absurd (gb_conn_tr z' (gb_conn_sy hq y)) (dis q hq z)⟩
    · rw [gy q z, gno q' (dis q' hq' z')]
      have := ((a1 q' hq').1 z').2
      exact ⟨fun y => by omega, fun y => absurd (gb_conn_tr z y) (dis q' hq' z')⟩
    · rw [gy q z, gy q' z']
      exact ⟨fun _ => gb_conn_tr (gb_conn_sy hp z) z', fun _ => rfl⟩
  · by_cases hag : a = g
    · exact ⟨p, hp, (hd p hp).mpr (Or.inr gb_conn_rf), by rw [gy p gb_conn_rf, hag]⟩
    · obtain ⟨q, hq, z, e⟩ := a3 a (by omega)
      exact ⟨q, hq, (hd q hq).mpr (Or.inl z), by rw [gno q (dis q hq z)]; exact e⟩
  · rw [gb_cnt_y ⟨hbp, fun q hc => Nat.le_of_not_lt (fun z => hnd ⟨hbp, q, z, hc⟩)⟩, a4]
end RN
def xN_h (D : va_G) (h : xa_H) (r n : Nat) (v : Nat → Nat) (GR : Nat → Int32) (g : Nat) (IN RW : Nat → Int32) (e : Nat) : xa_H := xG_h D (xa_u h (r + 9) (.inl (D.1 100, 169, .inl GR))) r n (xh_up v 6 g) IN RW e
section NH
variable {D : va_G} {h : xa_H} {r n : Nat} {v : Nat → Nat} {GR IN RW : Nat → Int32} {g e : Nat}
theorem xN_n {q : Nat} (h1 : q ≠ r) (h2 : q ≠ r + 7) (h3 : q ≠ r + 8) (h4 : q ≠ r + 9) : xN_h D h r n v GR g IN RW e q = h q := (xG_n h1 h2 h3).trans (xa_u_ne rfl h4)
theorem xN_0 : xN_h D h r n v GR g IN RW e r = some (xR_o r n (xh_up (xh_up v 6 g) 5 e)) := xG_0
theorem xN_7 : xN_h D h r n v GR g IN RW e (r + 7) = some (.inl (D.1 102, 169, .inl IN)) := xG_7
theorem xN_8 : xN_h D h r n v GR g IN RW e (r + 8) = some (.inl (D.1 100, 169, .inl RW)) := xG_8
theorem xN_9 : xN_h D h r n v GR g IN RW e (r + 9) = some (.inl (D.1 100, 169, .inl GR)) := (xG_n (by omega) (by omega) (by omega)).trans (xa_u_eq _ _ _)
theorem xN_u9 (X : Nat → Int32) : xa_u (xN_h D h r n v GR g IN RW e) (r + 9) (.inl (D.1 100, 169, .inl X)) = xN_h D h r n v X g IN RW e := by
  unfold xN_h
  rw [xG_sw _ (by omega) (by omega) (by omega), xa_uu]
theorem xN_u0 (x : Nat) : xa_u (xN_h D h r n v GR g IN RW e) r (xR_o r n (xh_up (xh_up (xh_up v 6 g) 5 e) 6 x)) = xN_h D h r n v GR x IN RW e := xa_uu _ _ _ _
theorem xN_G {IN' RW' : Nat → Int32} {e' : Nat} : xG_h D (xN_h D h r n v GR g IN RW e) r n (xh_up (xh_up v 6 g) 5 e) IN' RW' e' = xN_h D h r n v GR g IN' RW' e' := xG_G
theorem xN_s (h0 : h r = some (xR_o r n v)) (h7 : h (r + 7) = some (.inl (D.1 102, 169, .inl IN))) (h8 : h (r + 8) = some (.inl (D.1 100, 169, .inl RW))) (h9 : h (r + 9) = some (.inl (D.1 100, 169, .inl GR))) : xN_h D h r n v GR (v 6) IN RW (v 5) = h := by
  unfold xN_h
  rw [xa_us _ h9]
  have hv : xh_up v 6 (v 6) = v := by
    funext i
    unfold xh_up
    split
    · rename_i hi; rw [hi]
    · rfl
  rw [hv]
  exact xG_s h0 h7 h8
theorem xR_A.N {B SD MV TB TW : Nat → Int32} (hA : xR_A D h r n v B SD MV TB TW) : xR_A D (xN_h D h r n v GR g IN RW e) r n (xh_up (xh_up v 6 g) 5 e) B SD MV TB TW := by
  refine hA.scr xN_0 (fun q hq => xN_n (by omega) (by omega) (by omega) (by omega)) ?_
  obtain ⟨TR, IN', RW', GR', RG, SG, SR, GO, FA, a2, a7, a8, a9, a10, a11, a12, a13, a14⟩ := hA.2.2.2.2.2.2
  refine ⟨TR, IN, RW, GR, RG, SG, SR, GO, FA, ?_, xN_7, xN_8, xN_9, ?_, ?_, ?_, ?_, ?_⟩
  all_goals (rw [xN_n (by omega) (by omega) (by omega) (by omega)]; assumption)
end NH
section RU
variable {l : Launch} {D : va_G} {H0 : Heap} {h : xa_H} {sz : Nat} {R : Room} {r n fs : Nat} {b : Nat → Nat} {m : Nat} {bd : Nat → Nat → Nat} {pt : Nat → Int32} {tb tw : Nat → Nat} {cd : Nat} {v : Nat → Nat}
theorem w_num3 {Z : xa_Z} {sd p g e : Nat} {GR IN RW : Nat → Int32} {rr : Nat → Nat} (hRW : ∀ j, j < e → RW j = nI (rr j) ∧ rr j < 169) (he : e ≤ 169)
    (kont : ∀ GR', (∀ q, ((∃ j, j < e ∧ rr j = q) → GR' q = nI g) ∧ ((¬ ∃ j, j < e ∧ rr j = q) → GR' q = GR q)) → xa_X l D H0 M_Ref_number R Z 0 0 (xN_h D h r n v GR' g IN RW e) sz 98 [(0, .ref r), (1, .int (nI sd)), (2, .int (nI p))] []) (k : Nat) (hk : k ≤ e) (GR' : Nat → Int32) (hG : ∀ q, ((∃ j, j < k ∧ rr j = q) → GR' q = nI g) ∧ ((¬ ∃ j, j < k ∧ rr j = q) → GR' q = GR q)) :
    xa_X l D H0 M_Ref_number R Z 0 0 (xN_h D h r n v GR' g IN RW e) sz 69 [(0, .ref r), (1, .int (nI sd)), (2, .int (nI p)), (3, .int (nI k))] [] := by
  have q0 : xN_h D h r n v GR' g IN RW e r = some (xR_o r n (xh_up (xh_up v 6 g) 5 e)) := xN_0
  refine xa_iload_n d_Ref_number_69 rfl ?_
  refine xa_aload_n d_Ref_number_70 rfl ?_
  refine xa_getf f_Ref_68 d_Ref_number_71 (by assumption) (by rfl) ?_
  refine xa_int (y := nI e) rfl ?_
  refine xa_icmp_geN (tgt := 98) d_Ref_number_74 (by decide) (by omega) (by omega) (fun hb4 => ?_) (fun hb4 => ?_)
  · have hke : k = e := by omega
    subst hke
    exact xa_sl (kont GR' hG) ⟨rfl, rfl, rfl, trivial⟩
  · obtain ⟨r1, r2⟩ := hRW k hb4
    refine xa_aload_n d_Ref_number_77 rfl ?_
    refine xa_getf f_Ref_41 d_Ref_number_78 (by assumption) (by rfl) ?_
    refine xa_aload_n d_Ref_number_81 rfl ?_
    refine xa_getf f_Ref_38 d_Ref_number_82 (by assumption) (by rfl) ?_
    refine xa_iload_n d_Ref_number_85 rfl ?_
    refine xa_ialdE d_Ref_number_86 xN_8 rfl (show k < 169 by omega) (by omega) r1 ?_
    refine xa_aload_n d_Ref_number_87 rfl ?_
    refine xa_getf f_Ref_137 d_Ref_number_88 (by assumption) (by rfl) ?_
    refine xa_int (y := nI g) rfl ?_
    refine xa_iastE d_Ref_number_91 xN_9 rfl r2 (by omega) ?_
    refine xa_heap (xN_u9 _) ?_
    refine xa_iincN d_Ref_number_92 rfl rfl rfl ?_
    refine xa_goto (tgt := 69) d_Ref_number_95 (by decide) ?_
    refine xa_ls ?_ (w_num3 hRW he kont (k + 1) (by omega) _ (fun q => ⟨fun ⟨j, hj, ej⟩ => ?_, fun hno => ?_⟩))
    · exact ⟨rfl, rfl, rfl, rfl, trivial⟩
    · by_cases hq : q = rr k
      · exact if_pos hq
      · have hu : upd GR' (rr k) (nI g) q = GR' q := if_neg hq
        rw [hu]
        refine (hG q).1 ⟨j, ?_, ej⟩
        by_cases hjk : j = k
        · subst hjk; exact absurd ej.symm hq
        · omega
    · have hu : upd GR' (rr k) (nI g) q = GR' q := if_neg (fun z => hno ⟨k, by omega, z.symm⟩)
      rw [hu]
      exact (hG q).2 (fun ⟨j, hj, ej⟩ => hno ⟨j, by omega, ej⟩)
termination_by e - k
decreasing_by omega
/-- what number leaves -/
def gr_Q (D : va_G) (h : xa_H) (r n : Nat) (v : Nat → Nat) (b : Nat → Nat) (sd : Nat) (h' : xa_H) : Prop := ∃ (GR IN RW : Nat → Int32) (gn : Nat → Nat) (g e : Nat), gr_N n b sd (n * n) GR gn g ∧ h' = xN_h D h r n v GR g IN RW e
theorem w_num2 {sd : Nat} {B : Nat → Int32} (hR : 2 ≤ R.frames ∧ 49 ≤ R.locals) (hn : 2 ≤ n ∧ n ≤ 13) (hB : h (r + 1) = some (.inl (D.1 100, 169, .inl B))) (hBb : ∀ q, q < n * n → B q = nI (b q)) (hb : ∀ q, q < n * n → b q ≤ 2) (hsd : sd = 1 ∨ sd = 2) (p : Nat) (hp : p ≤ n * n) (GR IN RW : Nat → Int32) (gn : Nat → Nat) (g e : Nat) (hG : gr_N n b sd p GR gn g) :
    xa_X l D H0 M_Ref_number R (xa_Zr D H0 0 0 (fun v' h' sz' => v' = none ∧ gr_Q D h r n v b sd h' ∧ sz' = sz)) 0 0 (xN_h D h r n v GR g IN RW e) sz 30 [(0, .ref r), (1, .int (nI sd)), (2, .int (nI p))] [] := by
  have hN : n * n ≤ 169 := Nat.mul_le_mul hn.2 hn.2
  have q0 : xN_h D h r n v GR g IN RW e r = some (xR_o r n (xh_up (xh_up v 6 g) 5 e)) := xN_0
  have qb : xN_h D h r n v GR g IN RW e (r + 1) = some (.inl (D.1 100, 169, .inl B)) := (xN_n (by omega) (by omega) (by omega) (by omega)).trans hB
  have hgp : g ≤ p := by rw [hG.2.2.2]; exact gb_cnt_le _
  refine xa_iload_n d_Ref_number_30 rfl ?_
  refine xa_aload_n d_Ref_number_31 rfl ?_
  refine xa_getf f_Ref_62 d_Ref_number_32 (by assumption) (by rfl) ?_
  refine xa_icmp_geN (tgt := 114) d_Ref_number_35 (by decide) (by omega) (by omega) (fun hb4 => ?_) (fun hb4 => ?_)
  · have hpe : p = n * n := by omega
    subst hpe
    exact xa_return d_Ref_number_114 rfl (by omega) (by omega) ⟨rfl, ⟨GR, IN, RW, gn, g, e, hG, rfl⟩, rfl⟩
  · have hbp := hb p hb4
    have skip : ∀ lsx, b p ≠ sd ∨ gr_dn n b sd p p → xa_lk lsx 0 = some (.ref r) → xa_lk lsx 1 = some (.int (nI sd)) → xa_lk lsx 2 = some (.int (nI p)) → xa_X l D H0 M_Ref_number R (xa_Zr D H0 0 0 (fun v' h' sz' => v' = none ∧ gr_Q D h r n v b sd h' ∧ sz' = sz)) 0 0 (xN_h D h r n v GR g IN RW e) sz 108 lsx [] := by
      intro lsx hno l0 l1 l2
      refine xa_ls (ls' := [(0, .ref r), (1, .int (nI sd)), (2, .int (nI p))]) ⟨l0, l1, l2, trivial⟩ ?_
      refine xa_iincN d_Ref_number_108 rfl rfl rfl ?_
      refine xa_goto (tgt := 30) d_Ref_number_111 (by decide) ?_
      refine xa_ls ?_ (w_num2 hR hn hB hBb hb hsd (p + 1) (by omega) GR IN RW gn g e (gr_N_skip hG hb hb4 hno))
      exact ⟨rfl, rfl, rfl, trivial⟩
    refine xa_aload_n d_Ref_number_38 rfl ?_
    refine xa_getf f_Ref_7 d_Ref_number_39 (by assumption) (by rfl) ?_
    refine xa_iload_n d_Ref_number_42 rfl ?_
    refine xa_ialdE d_Ref_number_43 qb rfl (show p < 169 by omega) (by omega) (hBb p hb4) ?_
    refine xa_iload_n d_Ref_number_44 rfl ?_
    refine xa_icmp_neN (tgt := 108) d_Ref_number_45 (by decide) (by omega) (by omega) (fun hz => ?_) (fun hz => ?_)
    · exact skip _ (Or.inl hz) rfl rfl rfl
    ·
      refine xa_aload_n d_Ref_number_48 rfl ?_
      refine xa_getf f_Ref_41 d_Ref_number_49 (by assumption) (by rfl) ?_
      refine xa_iload_n d_Ref_number_52 rfl ?_
      refine xa_ialdE d_Ref_number_53 xN_9 rfl (show p < 169 by omega) (by omega) rfl ?_
      refine xa_iconst (v := -1) d_Ref_number_54 rfl ?_
      refine xa_icmp_ne (tgt := 108) d_Ref_number_55 (by decide) (fun hz2 => ?_) (fun hz2 => ?_)
      · exact skip _ (Or.inr (Classical.byContradiction fun z => hz2 ((hG.1 p hb4).2 z))) rfl rfl rfl
      · have hnd : ¬ gr_dn n b sd p p := fun z => by
          obtain ⟨z1, z2⟩ := (hG.1 p hb4).1 z
          exact gb_m1 (by omega) (z1.symm.trans hz2)
        refine xa_aload_n d_Ref_number_58 rfl ?_
        refine xa_aload_n d_Ref_number_59 rfl ?_
        refine xa_getf f_Ref_7 d_Ref_number_60 (by assumption) (by rfl) ?_
        refine xa_iload_n d_Ref_number_63 rfl ?_
        refine xa_callV (As := [.ref (r + 1), .int (nI p)]) (st := []) d_Ref_number_64 k_Ref_82 q0 (c_Ref_gather q0 xN_7 xN_8 hn (Or.inl rfl) qb hBb hb4) rfl rfl (Nat.le_of_ble_eq_true rfl) ⟨hR.1, hR.2⟩ (by omega) (by omega) (fun v' h' sz' hq => ?_)
        obtain ⟨IN', RW', rr, e', hG', e1, e2, e3⟩ := hq
        rw [e1, e2, e3, xN_G]
        obtain ⟨g1, g2, g3, g4, g5, g6⟩ := id hG'
        have hle : e' ≤ n * n := by rw [g6]; exact gb_cnt_le _
        refine xa_iconst (v := nI 0) d_Ref_number_67 rfl ?_
        refine xa_istore_n d_Ref_number_68 rfl rfl ?_
        refine xa_ls ?_ (w_num3 (sd := sd) (p := p) (g := g) (GR := GR) (rr := rr) (fun j hj => ⟨(g3 j hj).1, by have := (g3 j hj).2; omega⟩) (by omega) (fun GR' hGR' => ?_) 0 (by omega) GR (fun q => ⟨fun ⟨j, hj, _⟩ => absurd hj (Nat.not_lt_zero _), fun _ => rfl⟩))
        · exact ⟨rfl, rfl, rfl, rfl, trivial⟩
        · obtain ⟨gn', hN'⟩ := gr_N_add (GR' := GR') hG hb hb4 hz hnd (fun q hq => ⟨fun z => (hGR' q).1 ((g4 q).mp z), fun z => (hGR' q).2 (fun y => z ((g4 q).mpr y))⟩)
          have q1 : xN_h D h r n v GR' g IN' RW' e' r = some (xR_o r n (xh_up (xh_up v 6 g) 5 e')) := xN_0
          refine xa_aload_n d_Ref_number_98 rfl ?_
          refine xa_dup d_Ref_number_99 rfl ?_
          refine xa_getf f_Ref_137 d_Ref_number_100 (by assumption) (by rfl) ?_
          refine xa_int (y := nI g) rfl ?_
          refine xa_iconst (v := nI 1) d_Ref_number_103 rfl ?_
          refine xa_iaddN d_Ref_number_104 ?_
          refine xa_putf f_Ref_137 d_Ref_number_105 q1 (Nat.le_of_ble_eq_true rfl) rfl rfl ?_
          refine xa_heap (xN_u0 (g + 1)) ?_
          refine xa_iincN d_Ref_number_108 rfl rfl rfl ?_
          refine xa_goto (tgt := 30) d_Ref_number_111 (by decide) ?_
          refine xa_ls ?_ (w_num2 hR hn hB hBb hb hsd (p + 1) (by omega) GR' IN' RW' gn' (g + 1) e' hN')
          exact ⟨rfl, rfl, rfl, trivial⟩
termination_by n * n - p
decreasing_by all_goals omega
theorem w_num1 {sd e : Nat} {B IN RW : Nat → Int32} (hR : 2 ≤ R.frames ∧ 49 ≤ R.locals) (hn : 2 ≤ n ∧ n ≤ 13) (hB : h (r + 1) = some (.inl (D.1 100, 169, .inl B))) (hBb : ∀ q, q < n * n → B q = nI (b q)) (hb : ∀ q, q < n * n → b q ≤ 2) (hsd : sd = 1 ∨ sd = 2) (p : Nat) (hp : p ≤ n * n) (GR : Nat → Int32) (hG : ∀ q, q < p → GR q = -1) :
    xa_X l D H0 M_Ref_number R (xa_Zr D H0 0 0 (fun v' h' sz' => v' = none ∧ gr_Q D h r n v b sd h' ∧ sz' = sz)) 0 0 (xN_h D h r n v GR 0 IN RW e) sz 7 [(0, .ref r), (1, .int (nI sd)), (2, .int (nI p))] [] := by
  have hN : n * n ≤ 169 := Nat.mul_le_mul hn.2 hn.2
  have q0 : xN_h D h r n v GR 0 IN RW e r = some (xR_o r n (xh_up (xh_up v 6 0) 5 e)) := xN_0
  refine xa_iload_n d_Ref_number_7 rfl ?_
  refine xa_aload_n d_Ref_number_8 rfl ?_
  refine xa_getf f_Ref_62 d_Ref_number_9 (by assumption) (by rfl) ?_
  refine xa_icmp_geN (tgt := 28) d_Ref_number_12 (by decide) (by omega) (by omega) (fun hb4 => ?_) (fun hb4 => ?_)
  · have hpe : p = n * n := by omega
    subst hpe
    refine xa_iconst (v := nI 0) d_Ref_number_28 rfl ?_
    refine xa_istore_n d_Ref_number_29 rfl rfl ?_
    refine xa_ls ?_ (w_num2 hR hn hB hBb hb hsd 0 (by omega) GR IN RW _ 0 e (gr_N_0 hG))
    exact ⟨rfl, rfl, rfl, trivial⟩
  ·
    refine xa_aload_n d_Ref_number_15 rfl ?_
    refine xa_getf f_Ref_41 d_Ref_number_16 (by assumption) (by rfl) ?_
    refine xa_iload_n d_Ref_number_19 rfl ?_
    refine xa_iconst (v := -1) d_Ref_number_20 rfl ?_
    refine xa_iastE d_Ref_number_21 xN_9 rfl (show p < 169 by omega) (by omega) ?_
    refine xa_heap (xN_u9 _) ?_
    refine xa_iincN d_Ref_number_22 rfl rfl rfl ?_
    refine xa_goto (tgt := 7) d_Ref_number_25 (by decide) ?_
    refine xa_ls ?_ (w_num1 hR hn hB hBb hb hsd (p + 1) (by omega) _ (fun q hq => ?_))
    · exact ⟨rfl, rfl, rfl, trivial⟩
    · by_cases he : q = p
      · rw [he]; exact if_pos rfl
      · have hu : upd GR p (-1) q = GR q := if_neg he
        rw [hu]
        exact hG q (by omega)
termination_by n * n - p
decreasing_by omega
theorem c_Ref_number {sd : Nat} {B IN RW GR : Nat → Int32} (h0 : h r = some (xR_o r n v)) (hB : h (r + 1) = some (.inl (D.1 100, 169, .inl B))) (h7 : h (r + 7) = some (.inl (D.1 102, 169, .inl IN))) (h8 : h (r + 8) = some (.inl (D.1 100, 169, .inl RW))) (h9 : h (r + 9) = some (.inl (D.1 100, 169, .inl GR))) (hn : 2 ≤ n ∧ n ≤ 13) (hBb : ∀ q, q < n * n → B q = nI (b q)) (hb : ∀ q, q < n * n → b q ≤ 2) (hsd : sd = 1 ∨ sd = 2) :
    xa_M l D H0 M_Ref_number 2 49 0 0 [.ref r, .int (nI sd)] h sz (fun v' h' sz' => v' = none ∧ gr_Q D h r n v b sd h' ∧ sz' = sz) := by
  refine xa_enter (by decide) rfl rfl ?_
  refine xa_heap (xN_s h0 h7 h8 h9).symm ?_
  have q0 : xN_h D h r n v GR (v 6) IN RW (v 5) r = some (xR_o r n (xh_up (xh_up v 6 (v 6)) 5 (v 5))) := xN_0
  refine xa_aload_n d_Ref_number_0 rfl ?_
  refine xa_iconst (v := nI 0) d_Ref_number_1 rfl ?_
  refine xa_putf f_Ref_137 d_Ref_number_2 q0 (Nat.le_of_ble_eq_true rfl) rfl rfl ?_
  refine xa_heap (xN_u0 0) ?_
  refine xa_iconst (v := nI 0) d_Ref_number_5 rfl ?_
  refine xa_istore_n d_Ref_number_6 rfl rfl ?_
  refine xa_ls ?_ (w_num1 ⟨by decide, by decide⟩ hn hB hBb hb hsd 0 (by omega) GR (fun q hq => absurd hq (Nat.not_lt_zero _)))
  exact ⟨rfl, rfl, rfl, trivial⟩
theorem c_Ref_strings {sd : Nat} (hS : xR_S D h r n fs b m bd pt tb tw cd) (hZ : xZ_I n fs b m bd pt tb tw) (hsd : sd = 1 ∨ sd = 2) :
    xa_M l D H0 M_Ref_strings 3 72 0 0 [.ref r, .int (nI sd)] h sz (fun v h' sz' => v = some (.int (nI (gb_cnt (fun p => b p = sd ∧ gx_lst n (fun q => nI (b q)) p) (n * n)))) ∧ xR_S D h' r n fs b m bd pt tb tw 0 ∧ xR_F h h' r ∧ sz' = sz) := by
  obtain ⟨v, h0, e0, e3, e4, hc⟩ := hS.code
  refine xa_enter (by decide) rfl rfl ?_
  refine xa_aload_n d_Ref_strings_0 rfl ?_
  refine xa_iload_n d_Ref_strings_1 rfl ?_
  refine xa_iconst (v := nI 1) d_Ref_strings_2 rfl ?_
  refine xa_callV (As := [.int (nI sd), .int (nI 1)]) (st := []) d_Ref_strings_3 k_Ref_133 h0 (c_Ref_noSide hS (by omega)) rfl rfl (Nat.le_of_ble_eq_true rfl) ⟨by decide, by decide⟩ (by decide) (by decide) (fun v' h1 sz' hq => ?_)
  obtain ⟨e1, hS1, hF1, e2⟩ := hq
  rw [e1, e2]
  refine xa_if_eqN (tgt := 11) d_Ref_strings_6 (by decide) (by omega) (fun hz => ?_) (fun hz => ?_)
  · obtain ⟨v, B, SD, MV, TB, TW, hA, ⟨f0, f3, f4⟩, hI⟩ := id hS1
    obtain ⟨g0, g1, -, -, -, -, TR, IN, RW, GR, -, -, -, -, -, -, a7, a8, a9, -⟩ := id hA
    refine xa_aload_n d_Ref_strings_11 rfl ?_
    refine xa_iload_n d_Ref_strings_12 rfl ?_
    refine xa_callV (As := [.int (nI sd)]) (st := []) d_Ref_strings_13 k_Ref_140 g0 (c_Ref_number (b := b) g0 g1 a7 a8 a9 hZ.1.1 hI.1 hZ.b2 hsd) rfl rfl (Nat.le_of_ble_eq_true rfl) ⟨by decide, by decide⟩ (by decide) (by decide) (fun v' h' sz' hq => ?_)
    obtain ⟨e1, ⟨GR', IN', RW', gn, g, e, hG, e2⟩, e3⟩ := hq
    rw [e1, e2, e3]
    have q0 : xN_h D h1 r n v GR' g IN' RW' e r = some (xR_o r n (xh_up (xh_up v 6 g) 5 e)) := xN_0
    refine xa_aload_n d_Ref_strings_16 rfl ?_
    refine xa_getf f_Ref_137 d_Ref_strings_17 (by assumption) (by rfl) ?_
    refine xa_int (y := nI g) rfl ?_
    exact xa_ireturn d_Ref_strings_20 rfl (by decide) (by decide) ⟨by rw [hG.2.2.2], ⟨_, B, SD, MV, TB, TW, hA.N, ⟨f0, f3, f4⟩, hI⟩, fun q hq => (xN_n (by omega) (by omega) (by omega) (by omega)).trans (hF1 q hq), rfl⟩
  · omega
theorem c_Ref_stringsX {x : Int32} (hS : xR_S D h r n fs b m bd pt tb tw cd) (hx : x < nI 1 ∨ nI 2 < x) :
    xa_M l D H0 M_Ref_strings 3 72 0 0 [.ref r, .int x] h sz (fun v h' sz' => v = some (.int (nI 0)) ∧ xR_S D h' r n fs b m bd pt tb tw 1 ∧ xR_F h h' r ∧ sz' = sz) := by
  obtain ⟨v, h0, e0, e3, e4, hc⟩ := hS.code
  refine xa_enter (by decide) rfl rfl ?_
  refine xa_aload_n d_Ref_strings_0 rfl ?_
  refine xa_iload_n d_Ref_strings_1 rfl ?_
  refine xa_iconst (v := nI 1) d_Ref_strings_2 rfl ?_
  refine xa_callV (As := [.int x, .int (nI 1)]) (st := []) d_Ref_strings_3 k_Ref_133 h0 (c_Ref_noSideX hS hx) rfl rfl (Nat.le_of_ble_eq_true rfl) ⟨by decide, by decide⟩ (by decide) (by decide) (fun v' h' sz' hq => ?_)
  obtain ⟨e1, hS', hF, e2⟩ := hq
  rw [e1, e2]
  refine xa_if_eqN (tgt := 11) d_Ref_strings_6 (by decide) (by omega) (fun hz => ?_) (fun hz => ?_)
  · omega
  ·
    refine xa_iconst (v := nI 0) d_Ref_strings_9 rfl ?_
    exact xa_ireturn d_Ref_strings_10 rfl (by decide) (by decide) ⟨rfl, hS', hF, rfl⟩
theorem gr_or {s t : Nat} (hs : s ≤ 3) (ht : t ≤ 2) : ∃ u, u ≤ 3 ∧ nI s ||| nI t = nI u ∧ (u % 2 = 1 ↔ s % 2 = 1 ∨ t = 1) ∧ (u / 2 = 1 ↔ s / 2 = 1 ∨ t = 2) := by
  rcases (show s = 0 ∨ s = 1 ∨ s = 2 ∨ s = 3 by omega) with e | e | e | e <;> rcases (show t = 0 ∨ t = 1 ∨ t = 2 by omega) with e' | e' | e' <;> subst e <;> subst e'
  · exact ⟨0, by decide, by decide, by decide, by decide⟩
  · exact ⟨1, by decide, by decide, by decide, by decide⟩
  · exact ⟨2, by decide, by decide, by decide, by decide⟩
  · exact ⟨1, by decide, by decide, by decide, by decide⟩
  · exact ⟨1, by decide, by decide, by decide, by decide⟩
  · exact ⟨3, by decide, by decide, by decide, by decide⟩
  · exact ⟨2, by decide, by decide, by decide, by decide⟩
  · exact ⟨3, by decide, by decide, by decide, by decide⟩
  · exact ⟨2, by decide, by decide, by decide, by decide⟩
  · exact ⟨3, by decide, by decide, by decide, by decide⟩
  · exact ⟨3, by decide, by decide, by decide, by decide⟩
  · exact ⟨3, by decide, by decide, by decide, by decide⟩
def gr_M (n : Nat) (b : Nat → Nat) (rr : Nat → Nat) (i w x : Nat) : Prop := ∃ j u y, (j < i ∧ u < 4 ∨ j = i ∧ u < w) ∧ gb_nb n (rr j) (gr_w u) = some y ∧ b y = x
def gr_S (n : Nat) (b : Nat → Nat) (rr : Nat → Nat) (i w s : Nat) : Prop := s ≤ 3 ∧ (s % 2 = 1 ↔ gr_M n b rr i w 1) ∧ (s / 2 = 1 ↔ gr_M n b rr i w 2)
theorem gr_M_w {rr : Nat → Nat} {i w x : Nat} : gr_M n b rr i (w + 1) x ↔ gr_M n b rr i w x ∨ ∃ y, gb_nb n (rr i) (gr_w w) = some y ∧ b y = x := by
  constructor
  · rintro ⟨j, u, y, h1, h2, h3⟩
    by_cases hc : j = i ∧ u = w
    · obtain ⟨rfl, rfl⟩ := hc
      exact Or.inr ⟨y, h2, h3⟩
    · exact Or.inl ⟨j, u, y, by omega, h2, h3⟩
  · rintro (⟨j, u, y, h1, h2, h3⟩ | ⟨y, h2, h3⟩)
    · exact ⟨j, u, y, by omega, h2, h3⟩
    · exact ⟨i, w, y, by omega, h2, h3⟩
theorem gr_M_i {rr : Nat → Nat} {i x : Nat} : gr_M n b rr (i + 1) 0 x ↔ gr_M n b rr i 4 x := by
  constructor
  · rintro ⟨j, u, y, h1, h2, h3⟩
    exact ⟨j, u, y, by omega, h2, h3⟩
  · rintro ⟨j, u, y, h1, h2, h3⟩
    exact ⟨j, u, y, by omega, h2, h3⟩
theorem w_met2 {Z : xa_Z} {i e : Nat} {B RW : Nat → Int32} {rr : Nat → Nat} (hR : 1 ≤ R.frames ∧ 24 ≤ R.locals) (h0 : h r = some (xR_o r n v)) (h1 : h (r + 1) = some (.inl (D.1 100, 169, .inl B))) (h8 : h (r + 8) = some (.inl (D.1 100, 169, .inl RW))) (hn : 2 ≤ n ∧ n ≤ 13) (hBb : ∀ q, q < n * n → B q = nI (b q)) (hb : ∀ q, q < n * n → b q ≤ 2) (hRW : ∀ j, j < e → RW j = nI (rr j) ∧ rr j < n * n) (he : e ≤ n * n) (hi : i < e)
    (kont : ∀ s, gr_S n b rr i 4 s → xa_X l D H0 M_Ref_met R Z 0 0 h sz 69 [(0, .ref r), (2, .int (nI s)), (3, .int (nI i))] []) (w : Nat) (hw : w ≤ 4) (s : Nat) (hs : gr_S n b rr i w s) :
    xa_X l D H0 M_Ref_met R Z 0 0 h sz 24 [(0, .ref r), (2, .int (nI s)), (3, .int (nI i)), (4, .int (nI w))] [] := by
  have hN : n * n ≤ 169 := Nat.mul_le_mul hn.2 hn.2
  refine xa_iload d_Ref_met_24 rfl ?_
  refine xa_iconst (v := nI 4) d_Ref_met_26 rfl ?_
  refine xa_icmp_geN (tgt := 69) d_Ref_met_27 (by decide) (by omega) (by omega) (fun hb4 => ?_) (fun hb4 => ?_)
  · have hw4 : w = 4 := by omega
    subst hw4
    exact xa_sl (kont s hs) ⟨rfl, rfl, rfl, trivial⟩
  · obtain ⟨r1, r2⟩ := hRW i hi
    refine xa_aload_n d_Ref_met_30 rfl ?_
    refine xa_aload_n d_Ref_met_31 rfl ?_
    refine xa_getf f_Ref_38 d_Ref_met_32 (by assumption) (by rfl) ?_
    refine xa_iload_n d_Ref_met_35 rfl ?_
    refine xa_ialdE d_Ref_met_36 h8 rfl (show i < 169 by omega) (by omega) r1 ?_
    refine xa_iload d_Ref_met_37 rfl ?_
    refine xa_callVr (As := [.int (nI (rr i)), .int (nI w)]) (st := []) d_Ref_met_39 k_Ref_71 h0 (c_Ref_beside h0 hn r2 hb4) rfl rfl (Nat.le_of_ble_eq_true rfl) ⟨hR.1, hR.2⟩ (by omega) (by omega) ?_
    cases hnb : gb_nb n (rr i) (gr_w w) with
    | none =>
      refine xa_int (y := -1) rfl ?_
      refine xa_istore d_Ref_met_42 rfl rfl ?_
      refine xa_iload d_Ref_met_44 rfl ?_
      refine xa_if_lt (tgt := 61) d_Ref_met_46 (by decide) (fun hz => ?_) (fun hz => ?_)
      ·
        refine xa_iload_n d_Ref_met_61 rfl ?_
        refine xa_istore_n d_Ref_met_62 rfl rfl ?_
        refine xa_iincN d_Ref_met_63 rfl rfl rfl ?_
        refine xa_goto (tgt := 24) d_Ref_met_66 (by decide) ?_
        refine xa_ls ?_ (w_met2 hR h0 h1 h8 hn hBb hb hRW he hi kont (w + 1) (by omega) s ⟨hs.1, hs.2.1.trans ?_, hs.2.2.trans ?_⟩)
        · exact ⟨rfl, rfl, rfl, rfl, trivial⟩
        · exact ⟨fun z => gr_M_w.mpr (Or.inl z), fun z => (gr_M_w.mp z).elim (fun z => z) (fun ⟨y, hy, _⟩ => by rw [hnb] at hy; cases hy)⟩
        · exact ⟨fun z => gr_M_w.mpr (Or.inl z), fun z => (gr_M_w.mp z).elim (fun z => z) (fun ⟨y, hy, _⟩ => by rw [hnb] at hy; cases hy)⟩
      · exact absurd (by decide) hz
    | some y =>
      have hy := gb_nb_lt r2 (gr_w_lt w) hnb
      obtain ⟨u, hu3, hu, hu1, hu2⟩ := gr_or hs.1 (hb y hy)
      have hx : ∀ x, (gr_M n b rr i (w + 1) x ↔ gr_M n b rr i w x ∨ b y = x) := fun x => gr_M_w.trans ⟨fun z => z.elim Or.inl (fun ⟨y', hy', e⟩ => by rw [hnb] at hy'; cases hy'; exact Or.inr e), fun z => z.elim Or.inl (fun e => Or.inr ⟨y, hnb, e⟩)⟩
      refine xa_int (y := nI y) rfl ?_
      refine xa_istore d_Ref_met_42 rfl rfl ?_
      refine xa_iload d_Ref_met_44 rfl ?_
      refine xa_if_lt (tgt := 61) d_Ref_met_46 (by decide) (fun hz => ?_) (fun hz => ?_)
      · exact absurd hz (nI_pos (by omega))
      ·
        refine xa_iload_n d_Ref_met_49 rfl ?_
        refine xa_aload_n d_Ref_met_50 rfl ?_
        refine xa_getf f_Ref_7 d_Ref_met_51 (by assumption) (by rfl) ?_
        refine xa_iload d_Ref_met_54 rfl ?_
        refine xa_ialdE d_Ref_met_56 h1 rfl (show y < 169 by omega) (by omega) (hBb y hy) ?_
        refine xa_ior d_Ref_met_57 ?_
        refine xa_int (y := nI u) hu ?_
        refine xa_goto (tgt := 62) d_Ref_met_58 (by decide) ?_
        refine xa_istore_n d_Ref_met_62 rfl rfl ?_
        refine xa_iincN d_Ref_met_63 rfl rfl rfl ?_
        refine xa_goto (tgt := 24) d_Ref_met_66 (by decide) ?_
        refine xa_ls ?_ (w_met2 hR h0 h1 h8 hn hBb hb hRW he hi kont (w + 1) (by omega) u ⟨hu3, ?_, ?_⟩)
        · exact ⟨rfl, rfl, rfl, rfl, trivial⟩
        · rw [hu1, hs.2.1]; exact (hx 1).symm
        · rw [hu2, hs.2.2]; exact (hx 2).symm
termination_by 4 - w
decreasing_by all_goals omega
theorem w_met1 {Z : xa_Z} {e : Nat} {B RW : Nat → Int32} {rr : Nat → Nat} (hR : 1 ≤ R.frames ∧ 24 ≤ R.locals) (h0 : h r = some (xR_o r n v)) (hv : v 5 = e) (h1 : h (r + 1) = some (.inl (D.1 100, 169, .inl B))) (h8 : h (r + 8) = some (.inl (D.1 100, 169, .inl RW))) (hn : 2 ≤ n ∧ n ≤ 13) (hBb : ∀ q, q < n * n → B q = nI (b q)) (hb : ∀ q, q < n * n → b q ≤ 2) (hRW : ∀ j, j < e → RW j = nI (rr j) ∧ rr j < n * n) (he : e ≤ n * n)
    (kont : ∀ s, gr_S n b rr e 0 s → xa_X l D H0 M_Ref_met R Z 0 0 h sz 75 [(2, .int (nI s))] []) (i : Nat) (hi : i ≤ e) (s : Nat) (hs : gr_S n b rr i 0 s) :
    xa_X l D H0 M_Ref_met R Z 0 0 h sz 13 [(0, .ref r), (2, .int (nI s)), (3, .int (nI i))] [] := by
  have hN : n * n ≤ 169 := Nat.mul_le_mul hn.2 hn.2
  refine xa_iload_n d_Ref_met_13 rfl ?_
  refine xa_aload_n d_Ref_met_14 rfl ?_
  refine xa_getf f_Ref_68 d_Ref_met_15 (by assumption) (by rfl) ?_
  refine xa_int (y := nI e) (by rw [hv]) ?_
  refine xa_icmp_geN (tgt := 75) d_Ref_met_18 (by decide) (by omega) (by omega) (fun hb4 => ?_) (fun hb4 => ?_)
  · have hie : i = e := by omega
    subst hie
    exact xa_sl (kont s hs) ⟨rfl, trivial⟩
  ·
    refine xa_iconst (v := nI 0) d_Ref_met_21 rfl ?_
    refine xa_istore d_Ref_met_22 rfl rfl ?_
    refine xa_ls ?_ (w_met2 (b := b) hR h0 h1 h8 hn hBb hb hRW he hb4 (fun s' hs' => ?_) 0 (by omega) s hs)
    · exact ⟨rfl, rfl, rfl, rfl, trivial⟩
    ·
      refine xa_iincN d_Ref_met_69 rfl rfl rfl ?_
      refine xa_goto (tgt := 13) d_Ref_met_72 (by decide) ?_
      refine xa_ls ?_ (w_met1 hR h0 hv h1 h8 hn hBb hb hRW he kont (i + 1) (by omega) s' ⟨hs'.1, hs'.2.1.trans gr_M_i.symm, hs'.2.2.trans gr_M_i.symm⟩)
      exact ⟨rfl, rfl, rfl, trivial⟩
termination_by e - i
decreasing_by omega
theorem c_Ref_met {p : Nat} {B IN RW : Nat → Int32} (h0 : h r = some (xR_o r n v)) (hB : h (r + 1) = some (.inl (D.1 100, 169, .inl B))) (h7 : h (r + 7) = some (.inl (D.1 102, 169, .inl IN))) (h8 : h (r + 8) = some (.inl (D.1 100, 169, .inl RW))) (hn : 2 ≤ n ∧ n ≤ 13) (hBb : ∀ q, q < n * n → B q = nI (b q)) (hb : ∀ q, q < n * n → b q ≤ 2) (hp : p < n * n) :
    xa_M l D H0 M_Ref_met 2 49 0 0 [.ref r, .int (nI p)] h sz (fun v' h' sz' => (∃ s, s ≤ 3 ∧ v' = some (.int (nI s)) ∧ (s % 2 = 1 ↔ gc_meet n b p 1) ∧ (s / 2 = 1 ↔ gc_meet n b p 2)) ∧ (∃ (IN RW : Nat → Int32) (e : Nat), h' = xG_h D h r n v IN RW e) ∧ sz' = sz) := by
  refine xa_enter (by decide) rfl rfl ?_
  refine xa_aload_n d_Ref_met_0 rfl ?_
  refine xa_aload_n d_Ref_met_1 rfl ?_
  refine xa_getf f_Ref_7 d_Ref_met_2 (by assumption) (by rfl) ?_
  refine xa_iload_n d_Ref_met_5 rfl ?_
  refine xa_callV (As := [.ref (r + 1), .int (nI p)]) (st := []) d_Ref_met_6 k_Ref_82 h0 (c_Ref_gather h0 h7 h8 hn (Or.inl rfl) hB hBb hp) rfl rfl (Nat.le_of_ble_eq_true rfl) ⟨by decide, by decide⟩ (by decide) (by decide) (fun v' h' sz' hq => ?_)
  obtain ⟨IN', RW', rr, e', hG, e1, e2, e3⟩ := hq
  rw [e1, e2, e3]
  obtain ⟨g1, g2, g3, g4, g5, g6⟩ := id hG
  have hle : e' ≤ n * n := by rw [g6]; exact gb_cnt_le _
  have q0 : xG_h D h r n v IN' RW' e' r = some (xR_o r n (xh_up v 5 e')) := xG_0
  have qb : xG_h D h r n v IN' RW' e' (r + 1) = some (.inl (D.1 100, 169, .inl B)) := (xG_n (by omega) (by omega) (by omega)).trans hB
  have hmeet : ∀ x, gr_M n b rr e' 0 x ↔ gc_meet n b p x := fun x => by
    constructor
    · rintro ⟨j, u, y, h1, h2, h3⟩
      exact ⟨rr j, gr_w u, y, (g4 _).mpr ⟨j, by omega, rfl⟩, gr_w_lt u, h2, h3⟩
    · rintro ⟨q, w, y, h1, h2, h3, h4⟩
      obtain ⟨j, hj, e⟩ := (g4 q).mp h1
      obtain ⟨u, hu, e4⟩ := gr_w_on h2
      exact ⟨j, u, y, by omega, by rw [e, e4]; exact h3, h4⟩
  refine xa_iconst (v := nI 0) d_Ref_met_9 rfl ?_
  refine xa_istore_n d_Ref_met_10 rfl rfl ?_
  refine xa_iconst (v := nI 0) d_Ref_met_11 rfl ?_
  refine xa_istore_n d_Ref_met_12 rfl rfl ?_
  refine xa_ls ?_ (w_met1 (b := b) ⟨by decide, by decide⟩ q0 (xh_up_eq _ _ _) qb xG_8 hn hBb hb g3 hle (fun s hs => ?_) 0 (by omega) 0 ⟨by omega, ?_, ?_⟩)
  · exact ⟨rfl, rfl, rfl, trivial⟩
  ·
    refine xa_iload_n d_Ref_met_75 rfl ?_
    exact xa_ireturn d_Ref_met_76 rfl (by decide) (by decide) ⟨⟨s, hs.1, rfl, hs.2.1.trans (hmeet 1), hs.2.2.trans (hmeet 2)⟩, ⟨IN', RW', e', rfl⟩, rfl⟩
  · exact ⟨fun z => by omega, fun ⟨j, u, y, h1, _⟩ => by omega⟩
  · exact ⟨fun z => by omega, fun ⟨j, u, y, h1, _⟩ => by omega⟩
theorem c_Ref_ownerOf {p : Nat} (hS : xR_S D h r n fs b m bd pt tb tw cd) (hZ : xZ_I n fs b m bd pt tb tw) (hp : p < n * n) :
    xa_M l D H0 M_Ref_ownerOf 3 74 0 0 [.ref r, .int (nI p)] h sz (fun v h' sz' => v = some (.int (nI (gx_own n b p))) ∧ xR_S D h' r n fs b m bd pt tb tw cd ∧ xR_F h h' r ∧ sz' = sz) := by
  have hn := hZ.1.1
  have hN : n * n ≤ 169 := Nat.mul_le_mul hn.2 hn.2
  have hb := hZ.b2
  have hbp := hb p hp
  obtain ⟨v, B, SD, MV, TB, TW, hA, ⟨f0, f3, f4⟩, hI⟩ := id hS
  obtain ⟨g0, g1, -, -, -, -, TR, IN, RW, -, -, -, -, -, -, -, a7, a8, -⟩ := id hA
  refine xa_enter (by decide) rfl rfl ?_
  refine xa_aload_n d_Ref_ownerOf_0 rfl ?_
  refine xa_getf f_Ref_7 d_Ref_ownerOf_1 (by assumption) (by rfl) ?_
  refine xa_iload_n d_Ref_ownerOf_4 rfl ?_
  refine xa_ialdE d_Ref_ownerOf_5 g1 rfl (show p < 169 by omega) (by omega) (hI.1 p hp) ?_
  refine xa_if_eqN (tgt := 16) d_Ref_ownerOf_6 (by decide) (by omega) (fun hz => ?_) (fun hz => ?_)
  ·
    refine xa_aload_n d_Ref_ownerOf_16 rfl ?_
    refine xa_iload_n d_Ref_ownerOf_17 rfl ?_
    refine xa_callV (As := [.int (nI p)]) (st := []) d_Ref_ownerOf_18 k_Ref_143 g0 (c_Ref_met g0 g1 a7 a8 hn hI.1 hb hp) rfl rfl (Nat.le_of_ble_eq_true rfl) ⟨by decide, by decide⟩ (by decide) (by decide) (fun v' h' sz' hq => ?_)
    obtain ⟨⟨s, hs3, e1, hs1, hs2⟩, ⟨IN', RW', e', e2⟩, e3⟩ := hq
    rw [e1, e2, e3]
    have hS2 : xR_S D (xG_h D h r n v IN' RW' e') r n fs b m bd pt tb tw cd := ⟨_, B, SD, MV, TB, TW, hA.G, ⟨f0, f3, f4⟩, hI⟩
    have hFc : xR_F h (xG_h D h r n v IN' RW' e') r := fun q hq => xG_n (by omega) (by omega) (by omega)
    have how : gx_own n b p = gc_hold n b p := if_pos hz
    have hres : gx_own n b p = if s = 3 then 0 else s := by
      rw [how]
      unfold gc_hold
      rcases (show s = 0 ∨ s = 1 ∨ s = 2 ∨ s = 3 by omega) with e | e | e | e <;> subst e
      · rw [if_neg (fun z => by have := hs1.mpr z.1; omega), if_neg (fun z => by have := hs2.mpr z.1; omega)]; rfl
      · rw [if_pos ⟨hs1.mp (by omega), fun z => by have := hs2.mpr z; omega⟩]; rfl
      · rw [if_neg (fun z => by have := hs1.mpr z.1; omega), if_pos ⟨hs2.mp (by omega), fun z => by have := hs1.mpr z; omega⟩]; rfl
      · rw [if_neg (fun z => z.2 (hs2.mp (by omega))), if_neg (fun z => z.2 (hs1.mp (by omega)))]; rfl
    show xa_X l D H0 M_Ref_ownerOf _ _ _ _ _ _ 21 _ [.int (nI s)]
    refine xa_istore_n d_Ref_ownerOf_21 rfl rfl ?_
    refine xa_iload_n d_Ref_ownerOf_22 rfl ?_
    refine xa_iconst (v := nI 3) d_Ref_ownerOf_23 rfl ?_
    refine xa_icmp_neN (tgt := 31) d_Ref_ownerOf_24 (by decide) (by omega) (by omega) (fun hz2 => ?_) (fun hz2 => ?_)
    ·
      refine xa_iload_n d_Ref_ownerOf_31 rfl ?_
      exact xa_ireturn d_Ref_ownerOf_32 rfl (by decide) (by decide) ⟨by rw [hres, if_neg hz2], hS2, hFc, rfl⟩
    ·
      refine xa_iconst (v := nI 0) d_Ref_ownerOf_27 rfl ?_
      refine xa_goto (tgt := 32) d_Ref_ownerOf_28 (by decide) ?_
      exact xa_ireturn d_Ref_ownerOf_32 rfl (by decide) (by decide) ⟨by rw [hres, if_pos hz2], hS2, hFc, rfl⟩
  ·
    refine xa_aload_n d_Ref_ownerOf_9 rfl ?_
    refine xa_getf f_Ref_7 d_Ref_ownerOf_10 (by assumption) (by rfl) ?_
    refine xa_iload_n d_Ref_ownerOf_13 rfl ?_
    refine xa_ialdE d_Ref_ownerOf_14 g1 rfl (show p < 169 by omega) (by omega) (hI.1 p hp) ?_
    have how : gx_own n b p = b p := if_neg (by omega)
    exact xa_ireturn d_Ref_ownerOf_15 rfl (by decide) (by decide) ⟨by rw [how], hS, fun q hq => rfl, rfl⟩
theorem c_Ref_owner {p : Nat} (hS : xR_S D h r n fs b m bd pt tb tw cd) (hZ : xZ_I n fs b m bd pt tb tw) (hp : p < n * n) :
    xa_M l D H0 M_Ref_owner 4 96 0 0 [.ref r, .int (nI p)] h sz (fun v h' sz' => v = some (.int (nI (gx_own n b p))) ∧ xR_S D h' r n fs b m bd pt tb tw 0 ∧ xR_F h h' r ∧ sz' = sz) := by
  obtain ⟨v, h0, e0, e3, e4, hc⟩ := hS.code
  refine xa_enter (by decide) rfl rfl ?_
  refine xa_aload_n d_Ref_owner_0 rfl ?_
  refine xa_iload_n d_Ref_owner_1 rfl ?_
  refine xa_callV (As := [.int (nI p)]) (st := []) d_Ref_owner_2 k_Ref_118 h0 (c_Ref_noPoint hS hZ.1.1 hp) rfl rfl (Nat.le_of_ble_eq_true rfl) ⟨by decide, by decide⟩ (by decide) (by decide) (fun v' h1 sz' hq => ?_)
  obtain ⟨e1, hS1, hF1, e2⟩ := hq
  rw [e1, e2]
  obtain ⟨v2, g0, -⟩ := hS1.code
  refine xa_if_eqN (tgt := 12) d_Ref_owner_5 (by decide) (by omega) (fun hz => ?_) (fun hz => ?_)
  ·
    refine xa_aload_n d_Ref_owner_12 rfl ?_
    refine xa_iload_n d_Ref_owner_13 rfl ?_
    refine xa_callV (As := [.int (nI p)]) (st := []) d_Ref_owner_14 k_Ref_146 g0 (c_Ref_ownerOf hS1 hZ hp) rfl rfl (Nat.le_of_ble_eq_true rfl) ⟨by decide, by decide⟩ (by decide) (by decide) (fun v' h'' sz'' hq => ?_)
    obtain ⟨e1, hS2, hF2, e2⟩ := hq
    rw [e1, e2]
    exact xa_ireturn d_Ref_owner_17 rfl (by decide) (by decide) ⟨rfl, hS2, gr_F_tr hF1 hF2, rfl⟩
  · omega
theorem c_Ref_ownerX {x : Int32} (hS : xR_S D h r n fs b m bd pt tb tw cd) (hx : x < 0 ∨ nI (n * n) ≤ x) :
    xa_M l D H0 M_Ref_owner 4 96 0 0 [.ref r, .int x] h sz (fun v h' sz' => v = some (.int (nI 0)) ∧ xR_S D h' r n fs b m bd pt tb tw 1 ∧ xR_F h h' r ∧ sz' = sz) := by
  obtain ⟨v, h0, e0, e3, e4, hc⟩ := hS.code
  refine xa_enter (by decide) rfl rfl ?_
  refine xa_aload_n d_Ref_owner_0 rfl ?_
  refine xa_iload_n d_Ref_owner_1 rfl ?_
  refine xa_callV (As := [.int x]) (st := []) d_Ref_owner_2 k_Ref_118 h0 (c_Ref_noPointX hS hx) rfl rfl (Nat.le_of_ble_eq_true rfl) ⟨by decide, by decide⟩ (by decide) (by decide) (fun v' h1 sz' hq => ?_)
  obtain ⟨e1, hS1, hF1, e2⟩ := hq
  rw [e1, e2]
  refine xa_if_eqN (tgt := 12) d_Ref_owner_5 (by decide) (by omega) (fun hz => ?_) (fun hz => ?_)
  · omega
  ·
    refine xa_iconst (v := nI 0) d_Ref_owner_8 rfl ?_
    refine xa_goto (tgt := 17) d_Ref_owner_9 (by decide) ?_
    exact xa_ireturn d_Ref_owner_17 rfl (by decide) (by decide) ⟨rfl, hS1, hF1, rfl⟩
theorem w_Ref_ground {sd : Nat} (hR : 4 ≤ R.frames ∧ 96 ≤ R.locals) (hZ : xZ_I n fs b m bd pt tb tw) (hsd : sd ≤ 2) (h0 : xa_H) (p : Nat) (hp : p ≤ n * n) (h : xa_H) (hS : xR_S D h r n fs b m bd pt tb tw cd) (hfr : xR_F h0 h r) :
    xa_X l D H0 M_Ref_ground R (xa_Zr D H0 0 0 (fun v h' sz' => v = some (.int (nI (gb_cnt (fun p => gx_own n b p = sd) (n * n)))) ∧ xR_S D h' r n fs b m bd pt tb tw cd ∧ xR_F h0 h' r ∧ sz' = sz)) 0 0 h sz 15 [(0, .ref r), (1, .int (nI sd)), (2, .int (nI (gb_cnt (fun p => gx_own n b p = sd) p))), (3, .int (nI p))] [] := by
  obtain ⟨v, g0, -⟩ := hS.code
  have hN : n * n ≤ 169 := Nat.mul_le_mul hZ.1.1.2 hZ.1.1.2
  refine xa_iload_n d_Ref_ground_15 rfl ?_
  refine xa_aload_n d_Ref_ground_16 rfl ?_
  refine xa_getf f_Ref_62 d_Ref_ground_17 (by assumption) (by rfl) ?_
  refine xa_icmp_geN (tgt := 46) d_Ref_ground_20 (by decide) (by omega) (by omega) (fun hb => ?_) (fun hb => ?_)
  · have hpe : p = n * n := by omega
    subst hpe
    refine xa_iload_n d_Ref_ground_46 rfl ?_
    exact xa_ireturn d_Ref_ground_47 rfl (by omega) (by omega) ⟨rfl, hS, hfr, rfl⟩
  · have hle := gx_own_le hb hZ.b2
    refine xa_aload_n d_Ref_ground_23 rfl ?_
    refine xa_iload_n d_Ref_ground_24 rfl ?_
    refine xa_callV (As := [.int (nI p)]) (st := []) d_Ref_ground_25 k_Ref_146 g0 (c_Ref_ownerOf hS hZ hb) rfl rfl (Nat.le_of_ble_eq_true rfl) ⟨hR.1, hR.2⟩ (by omega) (by omega) (fun v h' sz' hq => ?_)
    obtain ⟨e1, hS', hF', e2⟩ := hq
    rw [e1, e2]
    have hfr2 := gr_F_tr hfr hF'
    show xa_X l D H0 M_Ref_ground R _ _ _ h' sz 28 _ [.int (nI (gx_own n b p))]
    refine xa_iload_n d_Ref_ground_28 rfl ?_
    refine xa_icmp_neN (tgt := 38) d_Ref_ground_29 (by decide) (by omega) (by omega) (fun hz2 => ?_) (fun hz2 => ?_)
    ·
      refine xa_iload_n d_Ref_ground_38 rfl ?_
      refine xa_istore_n d_Ref_ground_39 rfl rfl ?_
      refine xa_iincN d_Ref_ground_40 rfl rfl rfl ?_
      refine xa_goto (tgt := 15) d_Ref_ground_43 (by decide) ?_
      refine xa_ls ?_ (w_Ref_ground hR hZ hsd h0 (p + 1) (by omega) h' hS' hfr2)
      exact ⟨rfl, rfl, by rw [gb_cnt_n (P := fun p => gx_own n b p = sd) hz2]; rfl, rfl, trivial⟩
    ·
      refine xa_iload_n d_Ref_ground_32 rfl ?_
      refine xa_iconst (v := nI 1) d_Ref_ground_33 rfl ?_
      refine xa_iaddN d_Ref_ground_34 ?_
      refine xa_goto (tgt := 39) d_Ref_ground_35 (by decide) ?_
      refine xa_istore_n d_Ref_ground_39 rfl rfl ?_
      refine xa_iincN d_Ref_ground_40 rfl rfl rfl ?_
      refine xa_goto (tgt := 15) d_Ref_ground_43 (by decide) ?_
      refine xa_ls ?_ (w_Ref_ground hR hZ hsd h0 (p + 1) (by omega) h' hS' hfr2)
      exact ⟨rfl, rfl, by rw [gb_cnt_y (P := fun p => gx_own n b p = sd) hz2]; rfl, rfl, trivial⟩
termination_by n * n - p
decreasing_by all_goals omega
theorem c_Ref_ground {sd : Nat} (hS : xR_S D h r n fs b m bd pt tb tw cd) (hZ : xZ_I n fs b m bd pt tb tw) (hsd : sd ≤ 2) :
    xa_M l D H0 M_Ref_ground 4 96 0 0 [.ref r, .int (nI sd)] h sz (fun v h' sz' => v = some (.int (nI (gb_cnt (fun p => gx_own n b p = sd) (n * n)))) ∧ xR_S D h' r n fs b m bd pt tb tw 0 ∧ xR_F h h' r ∧ sz' = sz) := by
  obtain ⟨v, h0, e0, e3, e4, hc⟩ := hS.code
  refine xa_enter (by decide) rfl rfl ?_
  refine xa_aload_n d_Ref_ground_0 rfl ?_
  refine xa_iload_n d_Ref_ground_1 rfl ?_
  refine xa_iconst (v := nI 0) d_Ref_ground_2 rfl ?_
  refine xa_callV (As := [.int (nI sd), .int (nI 0)]) (st := []) d_Ref_ground_3 k_Ref_133 h0 (c_Ref_noSide hS (by omega)) rfl rfl (Nat.le_of_ble_eq_true rfl) ⟨by decide, by decide⟩ (by decide) (by decide) (fun v' h1 sz' hq => ?_)
  obtain ⟨e1, hS1, hF1, e2⟩ := hq
  rw [e1, e2]
  refine xa_if_eqN (tgt := 11) d_Ref_ground_6 (by decide) (by omega) (fun hz => ?_) (fun hz => ?_)
  ·
    refine xa_iconst (v := nI 0) d_Ref_ground_11 rfl ?_
    refine xa_istore_n d_Ref_ground_12 rfl rfl ?_
    refine xa_iconst (v := nI 0) d_Ref_ground_13 rfl ?_
    refine xa_istore_n d_Ref_ground_14 rfl rfl ?_
    refine xa_ls ?_ (w_Ref_ground ⟨by decide, by decide⟩ hZ hsd h 0 (by omega) h1 hS1 hF1)
    exact ⟨rfl, rfl, rfl, rfl, trivial⟩
  · omega
theorem c_Ref_groundX {x : Int32} (hS : xR_S D h r n fs b m bd pt tb tw cd) (hx : x < nI 0 ∨ nI 2 < x) :
    xa_M l D H0 M_Ref_ground 4 96 0 0 [.ref r, .int x] h sz (fun v h' sz' => v = some (.int (nI 0)) ∧ xR_S D h' r n fs b m bd pt tb tw 1 ∧ xR_F h h' r ∧ sz' = sz) := by
  obtain ⟨v, h0, e0, e3, e4, hc⟩ := hS.code
  refine xa_enter (by decide) rfl rfl ?_
  refine xa_aload_n d_Ref_ground_0 rfl ?_
  refine xa_iload_n d_Ref_ground_1 rfl ?_
  refine xa_iconst (v := nI 0) d_Ref_ground_2 rfl ?_
  refine xa_callV (As := [.int x, .int (nI 0)]) (st := []) d_Ref_ground_3 k_Ref_133 h0 (c_Ref_noSideX hS hx) rfl rfl (Nat.le_of_ble_eq_true rfl) ⟨by decide, by decide⟩ (by decide) (by decide) (fun v' h' sz' hq => ?_)
  obtain ⟨e1, hS', hF, e2⟩ := hq
  rw [e1, e2]
  refine xa_if_eqN (tgt := 11) d_Ref_ground_6 (by decide) (by omega) (fun hz => ?_) (fun hz => ?_)
  · omega
  ·
    refine xa_iconst (v := nI 0) d_Ref_ground_9 rfl ?_
    exact xa_ireturn d_Ref_ground_10 rfl (by decide) (by decide) ⟨rfl, hS', hF, rfl⟩
end RU
