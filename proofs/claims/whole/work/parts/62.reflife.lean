/-! The reference: groups and regions by points; isBeside, belongs, regionsOf, fellRegions. -/
/-- groups and regions, numbered -/
def gr_U (n : Nat) (kb : Nat → Nat) (GR RG : Nat → Int32) (gn rn : Nat → Nat) (g e : Nat) : Prop :=
  (∀ q, q < n * n → kb q = 1 → GR q = nI (gn q) ∧ gn q < g ∧ RG q = -1) ∧ (∀ q, q < n * n → kb q = 0 → RG q = nI (rn q) ∧ rn q < e ∧ GR q = -1) ∧ (∀ q q', q < n * n → q' < n * n → kb q = 1 → kb q' = 1 → (gn q = gn q' ↔ gb_conn n (fun q => nI (kb q)) q q')) ∧ (∀ q q', q < n * n → q' < n * n → kb q = 0 → kb q' = 0 → (rn q = rn q' ↔ gb_conn n (fun q => nI (kb q)) q q')) ∧ (∀ a, a < g → ∃ q, q < n * n ∧ kb q = 1 ∧ gn q = a) ∧ (∀ a, a < e → ∃ q, q < n * n ∧ kb q = 0 ∧ rn q = a) ∧ g ≤ n * n ∧ e ≤ n * n ∧ ∀ q, q < n * n → kb q = 0 ∨ kb q = 1
theorem gr_kconn {n : Nat} {b : Nat → Nat} {sd p q : Nat} (hp : p < n * n) (hb : ∀ q, q < n * n → b q ≤ 2) (hbp : b p = sd) : gb_conn n (fun q => nI (b q)) p q ↔ gb_conn n (fun q => nI (gl_k b sd q)) p q := by
  have kk : ∀ x, gb_conn n (fun q => nI (b q)) p x → b x = sd := fun x hx => (gb_b_eq hp hb hx).trans hbp
  constructor
  · intro h
    exact (h (fun y => gb_conn n (fun q => nI (b q)) p y ∧ gb_conn n (fun q => nI (gl_k b sd q)) p y) ⟨gb_conn_rf, gb_conn_rf⟩ (fun a w c ha hw hc hk => by
      have h1 := gb_conn_st ha.1 hw hc hk
      exact ⟨h1, gb_conn_st ha.2 hw hc (by show nI (gl_k b sd c) = nI (gl_k b sd a); rw [gl_k_1 (kk c h1), gl_k_1 (kk a ha.1)])⟩)).2
  · intro h
    exact (h (fun y => gb_conn n (fun q => nI (gl_k b sd q)) p y ∧ gb_conn n (fun q => nI (b q)) p y) ⟨gb_conn_rf, gb_conn_rf⟩ (fun a w c ha hw hc hk => by
      refine ⟨gb_conn_st ha.1 hw hc hk, gb_conn_st ha.2 hw hc ?_⟩
      have hba := kk a ha.2
      have hk' : nI (gl_k b sd c) = nI (gl_k b sd a) := hk
      have hbc : b c = sd := Classical.byContradiction fun z => by
        rw [gl_k_0 z, gl_k_1 hba] at hk'
        exact absurd hk' (by decide)
      show nI (b c) = nI (b a)
      rw [hbc, hba])).2
theorem gr_U_of {n : Nat} {b : Nat → Nat} {sd g e : Nat} {GR RG : Nat → Int32} {gn rn : Nat → Nat} (hb : ∀ q, q < n * n → b q ≤ 2) (h1 : gr_N n b sd (n * n) GR gn g) (h2 : gr_N n (gl_k b sd) 0 (n * n) RG rn e) : gr_U n (gl_k b sd) GR RG gn rn g e := by
  have k1 : ∀ q, gl_k b sd q = 1 → b q = sd := fun q hq => Classical.byContradiction fun z => by
    rw [gl_k_0 z] at hq
    omega
  have d1 : ∀ q, q < n * n → b q = sd → gr_dn n b sd (n * n) q := fun q hq hb => ⟨hb, q, hq, gb_conn_rf⟩
  have d2 : ∀ q, q < n * n → gl_k b sd q = 0 → gr_dn n (gl_k b sd) 0 (n * n) q := fun q hq hb => ⟨hb, q, hq, gb_conn_rf⟩
  refine ⟨fun q hq hk => ?_, fun q hq hk => ?_, fun q q' hq hq' hk hk' => ?_, fun q q' hq hq' hk hk' => ?_, fun a ha => ?_, fun a ha => ?_, ?_, ?_, fun q _ => ?_⟩
  · have := (h1.1 q hq).1 (d1 q hq (k1 q hk))
    exact ⟨this.1, this.2, (h2.1 q hq).2 (fun z => by have := z.1; omega)⟩
  · have := (h2.1 q hq).1 (d2 q hq hk)
    exact ⟨this.1, this.2, (h1.1 q hq).2 (fun z => by have := gl_k_1 z.1; omega)⟩
  · exact (h1.2.1 q q' hq hq' (d1 q hq (k1 q hk)) (d1 q' hq' (k1 q' hk'))).trans (gr_kconn hq hb (k1 q hk))
  · exact h2.2.1 q q' hq hq' (d2 q hq hk) (d2 q' hq' hk')
  · obtain ⟨q, hq, z, e⟩ := h1.2.2.1 a ha
    exact ⟨q, hq, gl_k_1 z.1, e⟩
  · obtain ⟨q, hq, z, e⟩ := h2.2.2.1 a ha
    exact ⟨q, hq, z.1, e⟩
  · rw [h1.2.2.2]; exact gb_cnt_le _
  · rw [h2.2.2.2]; exact gb_cnt_le _
  · have := gl_k_le b sd q
    omega
section UU
variable {n : Nat} {kb : Nat → Nat} {GR RG : Nat → Int32} {gn rn : Nat → Nat} {g e : Nat}
/-- p is beside the group a -/
def gr_bs (n : Nat) (kb gn : Nat → Nat) (p a : Nat) : Prop := ∃ w y, w < 4 ∧ gb_nb n p w = some y ∧ kb y = 1 ∧ gn y = a
/-- the region i belongs to the group a -/
def gr_bel (n : Nat) (kb gn rn : Nat → Nat) (i a : Nat) : Prop := ∀ p, p < n * n → kb p = 0 → rn p = i → gr_bs n kb gn p a
theorem gr_GR_iff (hU : gr_U n kb GR RG gn rn g e) {y a : Nat} (hy : y < n * n) (ha : a < g) (hN : n * n ≤ 169) : GR y = nI a ↔ kb y = 1 ∧ gn y = a := by
  have hg : g ≤ n * n := hU.2.2.2.2.2.2.1
  constructor
  · intro h
    rcases hU.2.2.2.2.2.2.2.2 y hy with k | k
    · rw [(hU.2.1 y hy k).2.2] at h
      exact absurd h.symm (gb_m1 (by omega))
    · obtain ⟨u1, u2, u3⟩ := hU.1 y hy k
      rw [u1] at h
      exact ⟨k, (nI_eq (by omega) (by omega)).mp h⟩
  · rintro ⟨k, h⟩
    rw [(hU.1 y hy k).1, h]
theorem gr_RG_iff (hU : gr_U n kb GR RG gn rn g e) {y a : Nat} (hy : y < n * n) (ha : a < e) (hN : n * n ≤ 169) : RG y = nI a ↔ kb y = 0 ∧ rn y = a := by
  have hg : e ≤ n * n := hU.2.2.2.2.2.2.2.1
  constructor
  · intro h
    rcases hU.2.2.2.2.2.2.2.2 y hy with k | k
    · obtain ⟨u1, u2, u3⟩ := hU.2.1 y hy k
      rw [u1] at h
      exact ⟨k, (nI_eq (by omega) (by omega)).mp h⟩
    · rw [(hU.1 y hy k).2.2] at h
      exact absurd h.symm (gb_m1 (by omega))
  · rintro ⟨k, h⟩
    rw [(hU.2.1 y hy k).1, h]
theorem gr_conn_kb (hU : gr_U n kb GR RG gn rn g e) {p q : Nat} (hp : p < n * n) (hc : gb_conn n (fun q => nI (kb q)) p q) : kb q = kb p := by
  have hq := gb_conn_lt hp hc
  have h := gb_conn_k hc
  have h' : nI (kb q) = nI (kb p) := h
  have h1 := hU.2.2.2.2.2.2.2.2 q hq
  have h2 := hU.2.2.2.2.2.2.2.2 p hp
  exact (nI_eq (by omega) (by omega)).mp h'
theorem gr_bel_belp (hU : gr_U n kb GR RG gn rn g e) {x p : Nat} (hx : x < n * n) (hkx : kb x = 0) (hp : p < n * n) (hkp : kb p = 1) : gr_bel n kb gn rn (rn x) (gn p) ↔ gl_belp n (fun q => nI (kb q)) x p := by
  constructor
  · intro h q hc
    have hq := gb_conn_lt hx hc
    have hkq := (gr_conn_kb hU hx hc).trans hkx
    obtain ⟨w, y, hw, hy, k1, k2⟩ := h q hq hkq ((hU.2.2.2.1 x q hx hq hkx hkq).mpr hc).symm
    exact ⟨w, y, hw, hy, (hU.2.2.1 p y hp (gb_nb_lt hq hw hy) hkp k1).mp k2.symm⟩
  · intro h q hq hkq hr
    obtain ⟨w, y, hw, hy, hc⟩ := h q ((hU.2.2.2.1 x q hx hq hkx hkq).mp hr.symm)
    have hky := (gr_conn_kb hU hp hc).trans hkp
    exact ⟨w, y, hw, hy, hky, ((hU.2.2.1 p y hp (gb_nb_lt hq hw hy) hkp hky).mpr hc).symm⟩
theorem gb_least {P : Nat → Prop} {N : Nat} (h : ∃ x, x < N ∧ P x) : ∃ x, x < N ∧ P x ∧ ∀ y, y < N → P y → x ≤ y := by
  obtain ⟨x, hx, hP⟩ := h
  induction x using Nat.strongRecOn with
  | _ x ih =>
    by_cases hz : ∃ y, y < x ∧ P y
    · obtain ⟨y, hy, hPy⟩ := hz
      exact ih y hy (by omega) hPy
    · exact ⟨x, hx, hP, fun y _ hPy => Nat.le_of_not_lt (fun z => hz ⟨y, z, hPy⟩)⟩
/-- the count of a string's regions, by points -/
theorem gr_rcnt (hU : gr_U n kb GR RG gn rn g e) {SR : Nat → Int32} {p : Nat} (hp : p < n * n) (hkp : kb p = 1) :
    gb_cnt (fun i => SR i = 1 ∧ gr_bel n kb gn rn i (gn p)) e = gb_cnt (fun x => (kb x = 0 ∧ SR (rn x) = 1 ∧ gl_belp n (fun q => nI (kb q)) x p) ∧ gx_lst n (fun q => nI (kb q)) x) (n * n) := by
  have hlp : ∀ i, ∃ x, i < e → x < n * n ∧ kb x = 0 ∧ rn x = i ∧ gx_lst n (fun q => nI (kb q)) x := fun i => by
    by_cases hi : i < e
    · obtain ⟨q, hq, hk, hr⟩ := hU.2.2.2.2.2.1 i hi
      obtain ⟨x, hx, ⟨hkx, hrx⟩, hmin⟩ := gb_least (P := fun x => kb x = 0 ∧ rn x = i) ⟨q, hq, hk, hr⟩
      refine ⟨x, fun _ => ⟨hx, hkx, hrx, fun y hc => ?_⟩⟩
      have hy := gb_conn_lt hx hc
      have hky := (gr_conn_kb hU hx hc).trans hkx
      exact hmin y hy ⟨hky, ((hU.2.2.2.1 x y hx hy hkx hky).mpr hc).symm.trans hrx⟩
    · exact ⟨0, fun z => absurd z hi⟩
  let f : Nat → Nat := fun i => Classical.choose (hlp i)
  have hf : ∀ i, i < e → f i < n * n ∧ kb (f i) = 0 ∧ rn (f i) = i ∧ gx_lst n (fun q => nI (kb q)) (f i) := fun i hi => Classical.choose_spec (hlp i) hi
  rw [← gb_cnt_img (f := f) (N := n * n) e (fun i hi _ => (hf i hi).1) (fun i j hi hj h => by
    have h1 := (hf i hi).2.2.1
    have h2 := (hf j hj).2.2.1
    rw [h] at h1
    omega)]
  refine gb_cnt_eq _ (fun x hx => ⟨?_, ?_⟩)
  · rintro ⟨i, hi, ⟨s1, s2⟩, rfl⟩
    obtain ⟨f1, f2, f3, f4⟩ := hf i hi
    exact ⟨⟨f2, by rw [f3]; exact s1, (gr_bel_belp hU f1 f2 hp hkp).mp (by rw [f3]; exact s2)⟩, f4⟩
  · rintro ⟨⟨k1, k2, k3⟩, k4⟩
    have hr := (hU.2.1 x hx k1).2.1
    obtain ⟨f1, f2, f3, f4⟩ := hf (rn x) hr
    have hc := (hU.2.2.2.1 (f (rn x)) x f1 hx f2 k1).mp f3
    have h1 := f4 x hc
    have h2 := k4 _ (gb_conn_sy f1 hc)
    exact ⟨rn x, hr, ⟨k2, (gr_bel_belp hU hx k1 hp hkp).mpr k3⟩, by omega⟩
/-- who stands -/
def gr_st (kb gn rn : Nat → Nat) (SG SR : Nat → Int32) (p : Nat) : Prop := (kb p = 1 ∧ SG (gn p) = 1) ∨ (kb p = 0 ∧ SR (rn p) = 1)
/-- the state of the fall -/
def gr_J (n : Nat) (kb gn rn : Nat → Nat) (g e : Nat) (SG SR : Nat → Int32) : Prop :=
  (∀ P, gl_fix n kb P → ∀ p, p < n * n → P p → gr_st kb gn rn SG SR p) ∧ (∀ p w q, p < n * n → kb p = 0 → SR (rn p) = 1 → w < 4 → gb_nb n p w = some q → kb q = 1 → SG (gn q) = 1) ∧ (∀ a, a < g → SG a = 0 ∨ SG a = 1) ∧ (∀ a, a < e → SR a = 0 ∨ SR a = 1)
def gr_fa (n : Nat) (kb gn rn : Nat → Nat) (e : Nat) (SG SR : Nat → Int32) (a : Nat) : Prop := SG a = 1 ∧ gb_cnt (fun i => SR i = 1 ∧ gr_bel n kb gn rn i a) e < 2
def gr_fr (n : Nat) (kb gn rn : Nat → Nat) (SG : Nat → Int32) (i : Nat) : Prop := ∃ p w q, p < n * n ∧ kb p = 0 ∧ rn p = i ∧ w < 4 ∧ gb_nb n p w = some q ∧ kb q = 1 ∧ SG (gn q) = 0
theorem gr_J_0 {SG SR : Nat → Int32} (hU : gr_U n kb GR RG gn rn g e) (h1 : ∀ a, a < g → SG a = 1) (h2 : ∀ a, a < e → SR a = 1) : gr_J n kb gn rn g e SG SR :=
  ⟨fun P _ p hp _ => (hU.2.2.2.2.2.2.2.2 p hp).elim (fun k => Or.inr ⟨k, h2 _ (hU.2.1 p hp k).2.1⟩) (fun k => Or.inl ⟨k, h1 _ (hU.1 p hp k).2.1⟩), fun p w q hp _ _ hw hq hk => h1 _ (hU.1 q (gb_nb_lt hp hw hq) hk).2.1, fun a ha => Or.inr (h1 a ha), fun a ha => Or.inr (h2 a ha)⟩
theorem gr_J_end {SG SR : Nat → Int32} (hU : gr_U n kb GR RG gn rn g e) (hJ : gr_J n kb gn rn g e SG SR) (hno : ∀ a, a < g → ¬ gr_fa n kb gn rn e SG SR a) : ∀ p, p < n * n → (gr_st kb gn rn SG SR p ↔ gl_al n kb p) := fun p hp => by
  have st1 : ∀ q, kb q = 1 → gr_st kb gn rn SG SR q → SG (gn q) = 1 := fun q hk hs => hs.elim (fun z => z.2) (fun z => by have := z.1; omega)
  have st0 : ∀ q, kb q = 0 → gr_st kb gn rn SG SR q → SR (rn q) = 1 := fun q hk hs => hs.elim (fun z => by have := z.1; omega) (fun z => z.2)
  constructor
  · intro h1
    refine ⟨fun q => q < n * n ∧ gr_st kb gn rn SG SR q, ⟨fun p q hp hc hpp => ?_, fun p hp hk hpp => ?_, fun p w q hp hk hpp hw hq hkq => ?_⟩, hp, h1⟩
    · have hq := gb_conn_lt hp hc
      have hkq := gr_conn_kb hU hp hc
      refine ⟨hq, ?_⟩
      rcases hU.2.2.2.2.2.2.2.2 p hp with k | k
      · exact Or.inr ⟨hkq.trans k, by rw [← (hU.2.2.2.1 p q hp hq k (hkq.trans k)).mpr hc]; exact st0 p k hpp.2⟩
      · exact Or.inl ⟨hkq.trans k, by rw [← (hU.2.2.1 p q hp hq k (hkq.trans k)).mpr hc]; exact st1 p k hpp.2⟩
    · have hn := hno (gn p) (hU.1 p hp hk).2.1
      have : ¬ gb_cnt (fun i => SR i = 1 ∧ gr_bel n kb gn rn i (gn p)) e < 2 := fun z => hn ⟨st1 p hk hpp.2, z⟩
      rw [gr_rcnt hU hp hk] at this
      refine Nat.le_trans (Nat.le_of_not_lt this) (gb_cnt_mono _ (fun x hx hz => ⟨⟨hz.1.1, ⟨hx, Or.inr ⟨hz.1.1, hz.1.2.1⟩⟩, hz.1.2.2⟩, hz.2⟩))
    · exact ⟨gb_nb_lt hp hw hq, Or.inl ⟨hkq, hJ.2.1 p w q hp hk (st0 p hk hpp.2) hw hq hkq⟩⟩
  · rintro ⟨P, hP, hp'⟩
    exact hJ.1 P hP p hp hp'
theorem gr_J_step {SG SR SG' SR' : Nat → Int32} (hU : gr_U n kb GR RG gn rn g e) (hJ : gr_J n kb gn rn g e SG SR)
    (h1 : ∀ a, a < g → (gr_fa n kb gn rn e SG SR a → SG' a = 0) ∧ (¬ gr_fa n kb gn rn e SG SR a → SG' a = SG a)) (h2 : ∀ i, i < e → (gr_fr n kb gn rn SG' i → SR' i = 0) ∧ (¬ gr_fr n kb gn rn SG' i → SR' i = SR i)) : gr_J n kb gn rn g e SG' SR' ∧ (∀ a, a < g → SG a = 0 → SG' a = 0) := by
  obtain ⟨j1, j2, j3, j4⟩ := hJ
  have st1 : ∀ q, kb q = 1 → gr_st kb gn rn SG SR q → SG (gn q) = 1 := fun q hk hs => hs.elim (fun z => z.2) (fun z => by have := z.1; omega)
  have st0 : ∀ q, kb q = 0 → gr_st kb gn rn SG SR q → SR (rn q) = 1 := fun q hk hs => hs.elim (fun z => by have := z.1; omega) (fun z => z.2)
  have hs1 : ∀ a, a < g → SG' a = 0 ∨ SG' a = 1 := fun a ha => by
    by_cases hF : gr_fa n kb gn rn e SG SR a
    · exact Or.inl ((h1 a ha).1 hF)
    · rw [(h1 a ha).2 hF]; exact j3 a ha
  have hs2 : ∀ a, a < e → SR' a = 0 ∨ SR' a = 1 := fun a ha => by
    by_cases hF : gr_fr n kb gn rn SG' a
    · exact Or.inl ((h2 a ha).1 hF)
    · rw [(h2 a ha).2 hF]; exact j4 a ha
  have hfix1 : ∀ P, gl_fix n kb P → ∀ p, p < n * n → kb p = 1 → P p → SG' (gn p) = 1 := fun P hP p hp hk hpp => by
    by_cases hF : gr_fa n kb gn rn e SG SR (gn p)
    · exfalso
      have f3 := hF.2
      have hc := hP.2.1 p hp hk hpp
      rw [gr_rcnt hU hp hk] at f3
      have hm := gb_cnt_mono (P := fun x => (kb x = 0 ∧ P x ∧ gl_belp n (fun q => nI (kb q)) x p) ∧ gx_lst n (fun q => nI (kb q)) x) (P' := fun x => (kb x = 0 ∧ SR (rn x) = 1 ∧ gl_belp n (fun q => nI (kb q)) x p) ∧ gx_lst n (fun q => nI (kb q)) x) (n * n) (fun x hx hz => ⟨⟨hz.1.1, st0 x hz.1.1 (j1 P hP x hx hz.1.2.1), hz.1.2.2⟩, hz.2⟩)
      omega
    · rw [(h1 _ (hU.1 p hp hk).2.1).2 hF]; exact st1 p hk (j1 P hP p hp hpp)
  refine ⟨⟨fun P hP p hp hpp => ?_, fun p w q hp hk hs hw hq hkq => ?_, hs1, hs2⟩, fun a ha h0 => ?_⟩
  · rcases hU.2.2.2.2.2.2.2.2 p hp with k | k
    · have hnF : ¬ gr_fr n kb gn rn SG' (rn p) := fun ⟨x, w, q, hx, hkx, hr, hw, hq, hkq, hsq⟩ => by
        have hPx : P x := hP.1 p x hp ((hU.2.2.2.1 p x hp hx k hkx).mp hr.symm) hpp
        have hPq := hP.2.2 x w q hx hkx hPx hw hq hkq
        have := hfix1 P hP q (gb_nb_lt hx hw hq) hkq hPq
        rw [hsq] at this
        exact absurd this (by decide)
      refine Or.inr ⟨k, ?_⟩
      rw [(h2 _ (hU.2.1 p hp k).2.1).2 hnF]
      exact st0 p k (j1 P hP p hp hpp)
    · exact Or.inl ⟨k, hfix1 P hP p hp k hpp⟩
  · rcases hs1 (gn q) (hU.1 q (gb_nb_lt hp hw hq) hkq).2.1 with z | z
    · exfalso
      have := (h2 _ (hU.2.1 p hp hk).2.1).1 ⟨p, w, q, hp, hk, rfl, hw, hq, hkq, z⟩
      rw [this] at hs
      exact absurd hs (by decide)
    · exact z
  · by_cases hF : gr_fa n kb gn rn e SG SR a
    · exact (h1 a ha).1 hF
    · rw [(h1 a ha).2 hF]; exact h0
end UU
section RI
variable {l : Launch} {D : va_G} {H0 : Heap} {h : xa_H} {sz : Nat} {R : Room} {r n : Nat} {v : Nat → Nat} {kb : Nat → Nat} {GR RG : Nat → Int32} {gn rn : Nat → Nat} {g e : Nat}
theorem w_Ref_isBeside {p a : Nat} (hR : 1 ≤ R.frames ∧ 24 ≤ R.locals) (h0 : h r = some (xR_o r n v)) (h9 : h (r + 9) = some (.inl (D.1 100, 169, .inl GR))) (hn : 2 ≤ n ∧ n ≤ 13) (hU : gr_U n kb GR RG gn rn g e) (hp : p < n * n) (ha : a < g) (w : Nat) (hw : w ≤ 4) (x : Nat) (hx : (x = 1 ∧ ∃ u y, u < w ∧ gb_nb n p (gr_w u) = some y ∧ kb y = 1 ∧ gn y = a) ∨ (x = 0 ∧ ¬ ∃ u y, u < w ∧ gb_nb n p (gr_w u) = some y ∧ kb y = 1 ∧ gn y = a)) :
    xa_X l D H0 M_Ref_isBeside R (xa_Zr D H0 0 0 (fun v' h' sz' => ((v' = some (.int 1) ∧ gr_bs n kb gn p a) ∨ (v' = some (.int 0) ∧ ¬ gr_bs n kb gn p a)) ∧ h' = h ∧ sz' = sz)) 0 0 h sz 5 [(0, .ref r), (1, .int (nI p)), (2, .int (nI a)), (3, .int (nI x)), (4, .int (nI w))] [] := by
  have hN : n * n ≤ 169 := Nat.mul_le_mul hn.2 hn.2
  have hgN : g ≤ n * n := hU.2.2.2.2.2.2.1
  refine xa_iload d_Ref_isBeside_5 rfl ?_
  refine xa_iconst (v := nI 4) d_Ref_isBeside_7 rfl ?_
  refine xa_icmp_geN (tgt := 52) d_Ref_isBeside_8 (by decide) (by omega) (by omega) (fun hb4 => ?_) (fun hb4 => ?_)
  · have hw4 : w = 4 := by omega
    subst hw4
    refine xa_iload_n d_Ref_isBeside_52 rfl ?_
    rcases hx with ⟨e, u, y, hu, hy, hk⟩ | ⟨e, hno⟩
    · subst e
      exact xa_zreturn (v := nI 1) d_Ref_isBeside_53 rfl (by decide) (by omega) (by omega) ⟨Or.inl ⟨rfl, gr_w u, y, gr_w_lt u, hy, hk⟩, rfl, rfl⟩
    · subst e
      exact xa_zreturn (v := nI 0) d_Ref_isBeside_53 rfl (by decide) (by omega) (by omega) ⟨Or.inr ⟨rfl, fun ⟨w, y, hw, hy, hk⟩ => by
        obtain ⟨u, hu, eu⟩ := gr_w_on hw
        exact hno ⟨u, y, hu, by rw [eu]; exact hy, hk⟩⟩, rfl, rfl⟩
  · have hx1 : x ≤ 1 := by omega
    refine xa_aload_n d_Ref_isBeside_11 rfl ?_
    refine xa_iload_n d_Ref_isBeside_12 rfl ?_
    refine xa_iload d_Ref_isBeside_13 rfl ?_
    refine xa_callVr (As := [.int (nI p), .int (nI w)]) (st := []) d_Ref_isBeside_15 k_Ref_71 h0 (c_Ref_beside h0 hn hp hb4) rfl rfl (Nat.le_of_ble_eq_true rfl) ⟨hR.1, hR.2⟩ (by omega) (by omega) ?_
    refine xa_istore d_Ref_isBeside_18 rfl rfl ?_
    refine xa_iload_n d_Ref_isBeside_20 rfl ?_
    have yes : (∃ u y, u < w + 1 ∧ gb_nb n p (gr_w u) = some y ∧ kb y = 1 ∧ gn y = a) → ∀ z : Int32, xa_X l D H0 M_Ref_isBeside R (xa_Zr D H0 0 0 (fun v' h' sz' => ((v' = some (.int 1) ∧ gr_bs n kb gn p a) ∨ (v' = some (.int 0) ∧ ¬ gr_bs n kb gn p a)) ∧ h' = h ∧ sz' = sz)) 0 0 h sz 40 [(5, .int z), (0, .ref r), (1, .int (nI p)), (2, .int (nI a)), (3, .int (nI x)), (4, .int (nI w))] [] := by
      intro hyes z
      refine xa_iconst (v := nI 1) d_Ref_isBeside_40 rfl ?_
      refine xa_goto (tgt := 45) d_Ref_isBeside_41 (by decide) ?_
      refine xa_istore_n d_Ref_isBeside_45 rfl rfl ?_
      refine xa_iincN d_Ref_isBeside_46 rfl rfl rfl ?_
      refine xa_goto (tgt := 5) d_Ref_isBeside_49 (by decide) ?_
      refine xa_ls ?_ (w_Ref_isBeside hR h0 h9 hn hU hp ha (w + 1) (by omega) 1 (Or.inl ⟨rfl, hyes⟩))
      exact ⟨rfl, rfl, rfl, rfl, rfl, trivial⟩
    have no : (¬ ∃ u y, u < w + 1 ∧ gb_nb n p (gr_w u) = some y ∧ kb y = 1 ∧ gn y = a) → ∀ z : Int32, xa_X l D H0 M_Ref_isBeside R (xa_Zr D H0 0 0 (fun v' h' sz' => ((v' = some (.int 1) ∧ gr_bs n kb gn p a) ∨ (v' = some (.int 0) ∧ ¬ gr_bs n kb gn p a)) ∧ h' = h ∧ sz' = sz)) 0 0 h sz 44 [(5, .int z), (0, .ref r), (1, .int (nI p)), (2, .int (nI a)), (3, .int (nI x)), (4, .int (nI w))] [] := by
      intro hno z
      refine xa_iconst (v := nI 0) d_Ref_isBeside_44 rfl ?_
      refine xa_istore_n d_Ref_isBeside_45 rfl rfl ?_
      refine xa_iincN d_Ref_isBeside_46 rfl rfl rfl ?_
      refine xa_goto (tgt := 5) d_Ref_isBeside_49 (by decide) ?_
      refine xa_ls ?_ (w_Ref_isBeside hR h0 h9 hn hU hp ha (w + 1) (by omega) 0 (Or.inr ⟨rfl, hno⟩))
      exact ⟨rfl, rfl, rfl, rfl, rfl, trivial⟩
    refine xa_if_neN (tgt := 40) d_Ref_isBeside_21 (by decide) (by omega) (fun hz => ?_) (fun hz => ?_)
    · obtain ⟨u, y, hu, hy⟩ := (hx.resolve_right (fun z => by omega)).2
      refine xa_ls ?_ (yes ⟨u, y, by omega, hy⟩ (gb_oi (gb_nb n p (gr_w w))))
      exact ⟨rfl, rfl, rfl, rfl, rfl, rfl, trivial⟩
    · have hno := (hx.resolve_left (fun z => by omega)).2
      refine xa_iload d_Ref_isBeside_24 rfl ?_
      cases hnb : gb_nb n p (gr_w w) with
      | none =>
        refine xa_int (y := -1) rfl ?_
        have hno' : ¬ ∃ u y, u < w + 1 ∧ gb_nb n p (gr_w u) = some y ∧ kb y = 1 ∧ gn y = a := fun ⟨u, y, hu, hy, hk⟩ => by
          by_cases huw : u = w
          · rw [huw, hnb] at hy; cases hy
          · exact hno ⟨u, y, by omega, hy, hk⟩
        refine xa_if_lt (tgt := 44) d_Ref_isBeside_26 (by decide) (fun hz2 => ?_) (fun hz2 => ?_)
        · refine xa_ls ?_ (no hno' (gb_oi none))
          exact ⟨rfl, rfl, rfl, rfl, rfl, rfl, trivial⟩
        · exact absurd (by decide) hz2
      | some y =>
        have hy := gb_nb_lt hp (gr_w_lt w) hnb
        refine xa_int (y := nI y) rfl ?_
        refine xa_if_lt (tgt := 44) d_Ref_isBeside_26 (by decide) (fun hz2 => ?_) (fun hz2 => ?_)
        · exact absurd hz2 (nI_pos (by omega))
        ·
          refine xa_aload_n d_Ref_isBeside_29 rfl ?_
          refine xa_getf f_Ref_41 d_Ref_isBeside_30 (by assumption) (by rfl) ?_
          refine xa_iload (x := nI y) d_Ref_isBeside_33 rfl ?_
          refine xa_ialdE d_Ref_isBeside_35 h9 rfl (show y < 169 by omega) (by omega) rfl ?_
          refine xa_iload_n d_Ref_isBeside_36 rfl ?_
          refine xa_icmp_ne (tgt := 44) d_Ref_isBeside_37 (by decide) (fun hz3 => ?_) (fun hz3 => ?_)
          · have hno' : ¬ ∃ u y, u < w + 1 ∧ gb_nb n p (gr_w u) = some y ∧ kb y = 1 ∧ gn y = a := fun ⟨u, y', hu, hy', hk⟩ => by
              by_cases huw : u = w
              · rw [huw, hnb] at hy'
                cases hy'
                exact hz3 ((gr_GR_iff hU hy ha hN).mpr hk)
              · exact hno ⟨u, y', by omega, hy', hk⟩
            refine xa_ls ?_ (no hno' (gb_oi (some y)))
            exact ⟨rfl, rfl, rfl, rfl, rfl, rfl, trivial⟩
          · refine xa_ls ?_ (yes ⟨w, y, by omega, hnb, (gr_GR_iff hU hy ha hN).mp hz3⟩ (gb_oi (some y)))
            exact ⟨rfl, rfl, rfl, rfl, rfl, rfl, trivial⟩
termination_by 4 - w
decreasing_by all_goals omega
theorem c_Ref_isBeside {p a : Nat} (h0 : h r = some (xR_o r n v)) (h9 : h (r + 9) = some (.inl (D.1 100, 169, .inl GR))) (hn : 2 ≤ n ∧ n ≤ 13) (hU : gr_U n kb GR RG gn rn g e) (hp : p < n * n) (ha : a < g) :
    xa_M l D H0 M_Ref_isBeside 1 24 0 0 [.ref r, .int (nI p), .int (nI a)] h sz (fun v' h' sz' => ((v' = some (.int 1) ∧ gr_bs n kb gn p a) ∨ (v' = some (.int 0) ∧ ¬ gr_bs n kb gn p a)) ∧ h' = h ∧ sz' = sz) := by
  refine xa_enter (by decide) rfl rfl ?_
  refine xa_iconst (v := nI 0) d_Ref_isBeside_0 rfl ?_
  refine xa_istore_n d_Ref_isBeside_1 rfl rfl ?_
  refine xa_iconst (v := nI 0) d_Ref_isBeside_2 rfl ?_
  refine xa_istore d_Ref_isBeside_3 rfl rfl ?_
  refine xa_ls ?_ (w_Ref_isBeside ⟨by decide, by decide⟩ h0 h9 hn hU hp ha 0 (by omega) 0 (Or.inr ⟨rfl, fun ⟨u, y, hu, _⟩ => absurd hu (Nat.not_lt_zero _)⟩))
  exact ⟨rfl, rfl, rfl, rfl, rfl, trivial⟩
theorem w_Ref_belongs {i a : Nat} (hR : 2 ≤ R.frames ∧ 49 ≤ R.locals) (h0 : h r = some (xR_o r n v)) (h9 : h (r + 9) = some (.inl (D.1 100, 169, .inl GR))) (h10 : h (r + 10) = some (.inl (D.1 100, 169, .inl RG))) (hn : 2 ≤ n ∧ n ≤ 13) (hU : gr_U n kb GR RG gn rn g e) (hi : i < e) (ha : a < g) (p : Nat) (hp : p ≤ n * n) (x : Nat) (hx : (x = 1 ∧ ∀ q, q < p → kb q = 0 → rn q = i → gr_bs n kb gn q a) ∨ (x = 0 ∧ ¬ gr_bel n kb gn rn i a)) :
    xa_X l D H0 M_Ref_belongs R (xa_Zr D H0 0 0 (fun v' h' sz' => ((v' = some (.int 1) ∧ gr_bel n kb gn rn i a) ∨ (v' = some (.int 0) ∧ ¬ gr_bel n kb gn rn i a)) ∧ h' = h ∧ sz' = sz)) 0 0 h sz 5 [(0, .ref r), (1, .int (nI i)), (2, .int (nI a)), (3, .int (nI x)), (4, .int (nI p))] [] := by
  have hN : n * n ≤ 169 := Nat.mul_le_mul hn.2 hn.2
  have heN : e ≤ n * n := hU.2.2.2.2.2.2.2.1
  have hx1 : x ≤ 1 := by omega
  refine xa_iload d_Ref_belongs_5 rfl ?_
  refine xa_aload_n d_Ref_belongs_7 rfl ?_
  refine xa_getf f_Ref_62 d_Ref_belongs_8 (by assumption) (by rfl) ?_
  refine xa_icmp_geN (tgt := 51) d_Ref_belongs_11 (by decide) (by omega) (by omega) (fun hb4 => ?_) (fun hb4 => ?_)
  · have hpe : p = n * n := by omega
    subst hpe
    refine xa_iload_n d_Ref_belongs_51 rfl ?_
    rcases hx with ⟨e, hall⟩ | ⟨e, hno⟩
    · subst e
      exact xa_zreturn (v := nI 1) d_Ref_belongs_52 rfl (by decide) (by omega) (by omega) ⟨Or.inl ⟨rfl, hall⟩, rfl, rfl⟩
    · subst e
      exact xa_zreturn (v := nI 0) d_Ref_belongs_52 rfl (by decide) (by omega) (by omega) ⟨Or.inr ⟨rfl, hno⟩, rfl, rfl⟩
  · have yes : (∀ q, q < p + 1 → kb q = 0 → rn q = i → gr_bs n kb gn q a) → xa_X l D H0 M_Ref_belongs R (xa_Zr D H0 0 0 (fun v' h' sz' => ((v' = some (.int 1) ∧ gr_bel n kb gn rn i a) ∨ (v' = some (.int 0) ∧ ¬ gr_bel n kb gn rn i a)) ∧ h' = h ∧ sz' = sz)) 0 0 h sz 39 [(0, .ref r), (1, .int (nI i)), (2, .int (nI a)), (3, .int (nI x)), (4, .int (nI p))] [] := by
      intro hyes
      refine xa_iconst (v := nI 1) d_Ref_belongs_39 rfl ?_
      refine xa_goto (tgt := 44) d_Ref_belongs_40 (by decide) ?_
      refine xa_istore_n d_Ref_belongs_44 rfl rfl ?_
      refine xa_iincN d_Ref_belongs_45 rfl rfl rfl ?_
      refine xa_goto (tgt := 5) d_Ref_belongs_48 (by decide) ?_
      refine xa_ls ?_ (w_Ref_belongs hR h0 h9 h10 hn hU hi ha (p + 1) (by omega) 1 (Or.inl ⟨rfl, hyes⟩))
      exact ⟨rfl, rfl, rfl, rfl, rfl, trivial⟩
    have no : ¬ gr_bel n kb gn rn i a → xa_X l D H0 M_Ref_belongs R (xa_Zr D H0 0 0 (fun v' h' sz' => ((v' = some (.int 1) ∧ gr_bel n kb gn rn i a) ∨ (v' = some (.int 0) ∧ ¬ gr_bel n kb gn rn i a)) ∧ h' = h ∧ sz' = sz)) 0 0 h sz 43 [(0, .ref r), (1, .int (nI i)), (2, .int (nI a)), (3, .int (nI x)), (4, .int (nI p))] [] := by
      intro hno
      refine xa_iconst (v := nI 0) d_Ref_belongs_43 rfl ?_
      refine xa_istore_n d_Ref_belongs_44 rfl rfl ?_
      refine xa_iincN d_Ref_belongs_45 rfl rfl rfl ?_
      refine xa_goto (tgt := 5) d_Ref_belongs_48 (by decide) ?_
      refine xa_ls ?_ (w_Ref_belongs hR h0 h9 h10 hn hU hi ha (p + 1) (by omega) 0 (Or.inr ⟨rfl, hno⟩))
      exact ⟨rfl, rfl, rfl, rfl, rfl, trivial⟩
    refine xa_iload_n d_Ref_belongs_14 rfl ?_
    refine xa_if_eqN (tgt := 43) d_Ref_belongs_15 (by decide) (by omega) (fun hz => ?_) (fun hz => ?_)
    · exact no (hx.resolve_left (fun z => by omega)).2
    · have hall := (hx.resolve_right (fun z => by omega)).2
      refine xa_aload_n d_Ref_belongs_18 rfl ?_
      refine xa_getf f_Ref_44 d_Ref_belongs_19 (by assumption) (by rfl) ?_
      refine xa_iload d_Ref_belongs_22 rfl ?_
      refine xa_ialdE d_Ref_belongs_24 h10 rfl (show p < 169 by omega) (by omega) rfl ?_
      refine xa_iload_n d_Ref_belongs_25 rfl ?_
      refine xa_icmp_ne (tgt := 39) d_Ref_belongs_26 (by decide) (fun hz2 => ?_) (fun hz2 => ?_)
      · refine yes (fun q hq hk hr => ?_)
        by_cases he : q = p
        · rw [he] at hk hr
          exact absurd ((gr_RG_iff hU hb4 hi hN).mpr ⟨hk, hr⟩) hz2
        · exact hall q (by omega) hk hr
      · obtain ⟨k1, k2⟩ := (gr_RG_iff hU hb4 hi hN).mp hz2
        refine xa_aload_n d_Ref_belongs_29 rfl ?_
        refine xa_iload d_Ref_belongs_30 rfl ?_
        refine xa_iload_n d_Ref_belongs_32 rfl ?_
        refine xa_callV (As := [.int (nI p), .int (nI a)]) (st := []) d_Ref_belongs_33 k_Ref_155 h0 (c_Ref_isBeside h0 h9 hn hU hb4 ha) rfl rfl (Nat.le_of_ble_eq_true rfl) ⟨hR.1, hR.2⟩ (by omega) (by omega) (fun v' h' sz' hq => ?_)
        obtain ⟨hv, e2, e3⟩ := hq
        rw [e2, e3]
        rcases hv with ⟨hv, hbs⟩ | ⟨hv, hbs⟩
        · rw [hv]
          refine xa_int (y := nI 1) rfl ?_
          refine xa_if_eqN (tgt := 43) d_Ref_belongs_36 (by decide) (by omega) (fun hz3 => ?_) (fun hz3 => ?_)
          · omega
          · refine yes (fun q hq hk hr => ?_)
            by_cases he : q = p
            · rw [he]; exact hbs
            · exact hall q (by omega) hk hr
        · rw [hv]
          refine xa_int (y := nI 0) rfl ?_
          refine xa_if_eqN (tgt := 43) d_Ref_belongs_36 (by decide) (by omega) (fun hz3 => ?_) (fun hz3 => ?_)
          · exact no (fun z => hbs (z p hb4 k1 k2))
          · omega
termination_by n * n - p
decreasing_by all_goals omega
theorem c_Ref_belongs {i a : Nat} (h0 : h r = some (xR_o r n v)) (h9 : h (r + 9) = some (.inl (D.1 100, 169, .inl GR))) (h10 : h (r + 10) = some (.inl (D.1 100, 169, .inl RG))) (hn : 2 ≤ n ∧ n ≤ 13) (hU : gr_U n kb GR RG gn rn g e) (hi : i < e) (ha : a < g) :
    xa_M l D H0 M_Ref_belongs 2 49 0 0 [.ref r, .int (nI i), .int (nI a)] h sz (fun v' h' sz' => ((v' = some (.int 1) ∧ gr_bel n kb gn rn i a) ∨ (v' = some (.int 0) ∧ ¬ gr_bel n kb gn rn i a)) ∧ h' = h ∧ sz' = sz) := by
  refine xa_enter (by decide) rfl rfl ?_
  refine xa_iconst (v := nI 1) d_Ref_belongs_0 rfl ?_
  refine xa_istore_n d_Ref_belongs_1 rfl rfl ?_
  refine xa_iconst (v := nI 0) d_Ref_belongs_2 rfl ?_
  refine xa_istore d_Ref_belongs_3 rfl rfl ?_
  refine xa_ls ?_ (w_Ref_belongs ⟨by decide, by decide⟩ h0 h9 h10 hn hU hi ha 0 (by omega) 1 (Or.inl ⟨rfl, fun q hq => absurd hq (Nat.not_lt_zero _)⟩))
  exact ⟨rfl, rfl, rfl, rfl, rfl, trivial⟩
theorem w_regionsOf {a : Nat} {SR : Nat → Int32} (hR : 3 ≤ R.frames ∧ 73 ≤ R.locals) (h0 : h r = some (xR_o r n v)) (hv7 : v 7 = e) (h9 : h (r + 9) = some (.inl (D.1 100, 169, .inl GR))) (h10 : h (r + 10) = some (.inl (D.1 100, 169, .inl RG))) (h12 : h (r + 12) = some (.inl (D.1 102, 170, .inl SR))) (hn : 2 ≤ n ∧ n ≤ 13) (hU : gr_U n kb GR RG gn rn g e) (hs : ∀ i, i < e → SR i = 0 ∨ SR i = 1) (ha : a < g) (i : Nat) (hi : i ≤ e) :
    xa_X l D H0 M_Ref_regionsOf R (xa_Zr D H0 0 0 (fun v' h' sz' => v' = some (.int (nI (gb_cnt (fun i => SR i = 1 ∧ gr_bel n kb gn rn i a) e))) ∧ h' = h ∧ sz' = sz)) 0 0 h sz 4 [(0, .ref r), (1, .int (nI a)), (2, .int (nI (gb_cnt (fun i => SR i = 1 ∧ gr_bel n kb gn rn i a) i))), (3, .int (nI i))] [] := by
  have hN : n * n ≤ 169 := Nat.mul_le_mul hn.2 hn.2
  have heN : e ≤ n * n := hU.2.2.2.2.2.2.2.1
  refine xa_iload_n d_Ref_regionsOf_4 rfl ?_
  refine xa_aload_n d_Ref_regionsOf_5 rfl ?_
  refine xa_getf f_Ref_149 d_Ref_regionsOf_6 (by assumption) (by rfl) ?_
  refine xa_int (y := nI e) (by rw [hv7]) ?_
  refine xa_icmp_geN (tgt := 44) d_Ref_regionsOf_9 (by decide) (by omega) (by omega) (fun hb4 => ?_) (fun hb4 => ?_)
  · have hie : i = e := by omega
    subst hie
    refine xa_iload_n d_Ref_regionsOf_44 rfl ?_
    exact xa_ireturn d_Ref_regionsOf_45 rfl (by omega) (by omega) ⟨rfl, rfl, rfl⟩
  · have no : ¬ (SR i = 1 ∧ gr_bel n kb gn rn i a) → xa_X l D H0 M_Ref_regionsOf R (xa_Zr D H0 0 0 (fun v' h' sz' => v' = some (.int (nI (gb_cnt (fun i => SR i = 1 ∧ gr_bel n kb gn rn i a) e))) ∧ h' = h ∧ sz' = sz)) 0 0 h sz 36 [(0, .ref r), (1, .int (nI a)), (2, .int (nI (gb_cnt (fun i => SR i = 1 ∧ gr_bel n kb gn rn i a) i))), (3, .int (nI i))] [] := by
      intro hno
      refine xa_iload_n d_Ref_regionsOf_36 rfl ?_
      refine xa_istore_n d_Ref_regionsOf_37 rfl rfl ?_
      refine xa_iincN d_Ref_regionsOf_38 rfl rfl rfl ?_
      refine xa_goto (tgt := 4) d_Ref_regionsOf_41 (by decide) ?_
      refine xa_ls ?_ (w_regionsOf hR h0 hv7 h9 h10 h12 hn hU hs ha (i + 1) (by omega))
      exact ⟨rfl, rfl, by rw [gb_cnt_n (P := fun i => SR i = 1 ∧ gr_bel n kb gn rn i a) hno]; rfl, rfl, trivial⟩
    refine xa_aload_n d_Ref_regionsOf_12 rfl ?_
    refine xa_getf f_Ref_50 d_Ref_regionsOf_13 (by assumption) (by rfl) ?_
    refine xa_iload_n d_Ref_regionsOf_16 rfl ?_
    refine xa_zaldE d_Ref_regionsOf_17 h12 rfl (show i < 170 by omega) (by omega) rfl ?_
    refine xa_if_eq (tgt := 36) d_Ref_regionsOf_18 (by decide) (fun hz => ?_) (fun hz => ?_)
    · exact no (fun z => by rw [hz] at z; exact absurd z.1 (by decide))
    · have hs1 := (hs i hb4).resolve_left hz
      refine xa_aload_n d_Ref_regionsOf_21 rfl ?_
      refine xa_iload_n d_Ref_regionsOf_22 rfl ?_
      refine xa_iload_n d_Ref_regionsOf_23 rfl ?_
      refine xa_callV (As := [.int (nI i), .int (nI a)]) (st := []) d_Ref_regionsOf_24 k_Ref_158 h0 (c_Ref_belongs h0 h9 h10 hn hU hb4 ha) rfl rfl (Nat.le_of_ble_eq_true rfl) ⟨hR.1, hR.2⟩ (by omega) (by omega) (fun v' h' sz' hq => ?_)
      obtain ⟨hv, e2, e3⟩ := hq
      rw [e2, e3]
      rcases hv with ⟨hv, hbe⟩ | ⟨hv, hbe⟩
      · rw [hv]
        refine xa_int (y := nI 1) rfl ?_
        refine xa_if_eqN (tgt := 36) d_Ref_regionsOf_27 (by decide) (by omega) (fun hz3 => ?_) (fun hz3 => ?_)
        · omega
        ·
          refine xa_iload_n d_Ref_regionsOf_30 rfl ?_
          refine xa_iconst (v := nI 1) d_Ref_regionsOf_31 rfl ?_
          refine xa_iaddN d_Ref_regionsOf_32 ?_
          refine xa_goto (tgt := 37) d_Ref_regionsOf_33 (by decide) ?_
          refine xa_istore_n d_Ref_regionsOf_37 rfl rfl ?_
          refine xa_iincN d_Ref_regionsOf_38 rfl rfl rfl ?_
          refine xa_goto (tgt := 4) d_Ref_regionsOf_41 (by decide) ?_
          refine xa_ls ?_ (w_regionsOf hR h0 hv7 h9 h10 h12 hn hU hs ha (i + 1) (by omega))
          exact ⟨rfl, rfl, by rw [gb_cnt_y (P := fun i => SR i = 1 ∧ gr_bel n kb gn rn i a) ⟨hs1, hbe⟩]; rfl, rfl, trivial⟩
      · rw [hv]
        refine xa_int (y := nI 0) rfl ?_
        refine xa_if_eqN (tgt := 36) d_Ref_regionsOf_27 (by decide) (by omega) (fun hz3 => ?_) (fun hz3 => ?_)
        · exact no (fun z => hbe z.2)
        · omega
termination_by e - i
decreasing_by all_goals omega
theorem c_Ref_regionsOf {a : Nat} {SR : Nat → Int32} (h0 : h r = some (xR_o r n v)) (hv7 : v 7 = e) (h9 : h (r + 9) = some (.inl (D.1 100, 169, .inl GR))) (h10 : h (r + 10) = some (.inl (D.1 100, 169, .inl RG))) (h12 : h (r + 12) = some (.inl (D.1 102, 170, .inl SR))) (hn : 2 ≤ n ∧ n ≤ 13) (hU : gr_U n kb GR RG gn rn g e) (hs : ∀ i, i < e → SR i = 0 ∨ SR i = 1) (ha : a < g) :
    xa_M l D H0 M_Ref_regionsOf 3 73 0 0 [.ref r, .int (nI a)] h sz (fun v' h' sz' => v' = some (.int (nI (gb_cnt (fun i => SR i = 1 ∧ gr_bel n kb gn rn i a) e))) ∧ h' = h ∧ sz' = sz) := by
  refine xa_enter (by decide) rfl rfl ?_
  refine xa_iconst (v := nI 0) d_Ref_regionsOf_0 rfl ?_
  refine xa_istore_n d_Ref_regionsOf_1 rfl rfl ?_
  refine xa_iconst (v := nI 0) d_Ref_regionsOf_2 rfl ?_
  refine xa_istore_n d_Ref_regionsOf_3 rfl rfl ?_
  refine xa_ls ?_ (w_regionsOf ⟨by decide, by decide⟩ h0 hv7 h9 h10 h12 hn hU hs ha 0 (by omega))
  exact ⟨rfl, rfl, rfl, rfl, trivial⟩
/-- the regions that a fallen string beside them fells, as far as looked at -/
def gr_frp (n : Nat) (kb gn rn : Nat → Nat) (SG : Nat → Int32) (p w i : Nat) : Prop := ∃ x u q, (x < p ∧ u < 4 ∨ x = p ∧ u < w) ∧ kb x = 0 ∧ rn x = i ∧ gb_nb n x (gr_w u) = some q ∧ kb q = 1 ∧ SG (gn q) = 0
def gr_FR (n : Nat) (kb gn rn : Nat → Nat) (e : Nat) (SG SR : Nat → Int32) (p w : Nat) (SR' : Nat → Int32) : Prop := ∀ i, i < e → (gr_frp n kb gn rn SG p w i → SR' i = 0) ∧ (¬ gr_frp n kb gn rn SG p w i → SR' i = SR i)
theorem gr_frp_w {SG : Nat → Int32} {p w i : Nat} : gr_frp n kb gn rn SG p (w + 1) i ↔ gr_frp n kb gn rn SG p w i ∨ (kb p = 0 ∧ rn p = i ∧ ∃ q, gb_nb n p (gr_w w) = some q ∧ kb q = 1 ∧ SG (gn q) = 0) := by
  constructor
  · rintro ⟨x, u, q, h1, h2, h3, h4⟩
    by_cases hc : x = p ∧ u = w
    · obtain ⟨rfl, rfl⟩ := hc
      exact Or.inr ⟨h2, h3, q, h4⟩
    · exact Or.inl ⟨x, u, q, by omega, h2, h3, h4⟩
  · rintro (⟨x, u, q, h1, h2, h3, h4⟩ | ⟨h2, h3, q, h4⟩)
    · exact ⟨x, u, q, by omega, h2, h3, h4⟩
    · exact ⟨p, w, q, by omega, h2, h3, h4⟩
theorem gr_frp_p {SG : Nat → Int32} {p w i : Nat} (hw : w ≤ 4) (hk : w = 4 ∨ kb p ≠ 0) : gr_frp n kb gn rn SG (p + 1) 0 i ↔ gr_frp n kb gn rn SG p w i := by
  constructor
  · rintro ⟨x, u, q, h1, h2, h3, h4⟩
    by_cases hx : x = p
    · subst hx
      exact ⟨x, u, q, Or.inr ⟨rfl, by omega⟩, h2, h3, h4⟩
    · exact ⟨x, u, q, by omega, h2, h3, h4⟩
  · rintro ⟨x, u, q, h1, h2, h3, h4⟩
    exact ⟨x, u, q, by omega, h2, h3, h4⟩
theorem w_fell2 {Z : xa_Z} {p : Nat} {SG SR : Nat → Int32} (hR : 1 ≤ R.frames ∧ 24 ≤ R.locals) (h0 : h r = some (xR_o r n v)) (h9 : h (r + 9) = some (.inl (D.1 100, 169, .inl GR))) (h10 : h (r + 10) = some (.inl (D.1 100, 169, .inl RG))) (h11 : h (r + 11) = some (.inl (D.1 102, 170, .inl SG))) (hn : 2 ≤ n ∧ n ≤ 13) (hU : gr_U n kb GR RG gn rn g e) (hsg : ∀ a, a < g → SG a = 0 ∨ SG a = 1) (hp : p < n * n)
    (kont : ∀ SR', gr_FR n kb gn rn e SG SR (p + 1) 0 SR' → xa_X l D H0 M_Ref_fellRegions R Z 0 0 (xa_u h (r + 12) (.inl (D.1 102, 170, .inl SR'))) sz 78 [(0, .ref r), (1, .int (nI p))] []) (w : Nat) (hw : w ≤ 4) (SR' : Nat → Int32) (hF : gr_FR n kb gn rn e SG SR p w SR') :
    xa_X l D H0 M_Ref_fellRegions R Z 0 0 (xa_u h (r + 12) (.inl (D.1 102, 170, .inl SR'))) sz 12 [(0, .ref r), (1, .int (nI p)), (2, .int (nI w))] [] := by
  have hN : n * n ≤ 169 := Nat.mul_le_mul hn.2 hn.2
  have heN : e ≤ n * n := hU.2.2.2.2.2.2.2.1
  have hgN : g ≤ n * n := hU.2.2.2.2.2.2.1
  have q0 : xa_u h (r + 12) (.inl (D.1 102, 170, .inl SR')) r = some (xR_o r n v) := xa_u_ne h0 (by omega)
  have q9 : xa_u h (r + 12) (.inl (D.1 102, 170, .inl SR')) (r + 9) = some (.inl (D.1 100, 169, .inl GR)) := xa_u_ne h9 (by omega)
  have q10 : xa_u h (r + 12) (.inl (D.1 102, 170, .inl SR')) (r + 10) = some (.inl (D.1 100, 169, .inl RG)) := xa_u_ne h10 (by omega)
  have q11 : xa_u h (r + 12) (.inl (D.1 102, 170, .inl SR')) (r + 11) = some (.inl (D.1 102, 170, .inl SG)) := xa_u_ne h11 (by omega)
  have n0 : ∀ k : Nat, k < 169 → 0 ≤ nI k := fun k hk => by
    rw [Int32.le_iff_toInt_le, nI_toInt (by omega)]
    have e0 : (0 : Int32).toInt = 0 := by decide
    omega
  have done : (w = 4 ∨ kb p ≠ 0) → ∀ lsx, xa_lk lsx 0 = some (.ref r) → xa_lk lsx 1 = some (.int (nI p)) → xa_X l D H0 M_Ref_fellRegions R Z 0 0 (xa_u h (r + 12) (.inl (D.1 102, 170, .inl SR'))) sz 78 lsx [] := fun hd lsx l0 l1 =>
    xa_sl (kont SR' (fun i hi => ⟨fun z => (hF i hi).1 ((gr_frp_p hw hd).mp z), fun z => (hF i hi).2 (fun y => z ((gr_frp_p hw hd).mpr y))⟩)) ⟨l0, l1, trivial⟩
  refine xa_iload_n d_Ref_fellRegions_12 rfl ?_
  refine xa_iconst (v := nI 4) d_Ref_fellRegions_13 rfl ?_
  refine xa_icmp_geN (tgt := 78) d_Ref_fellRegions_14 (by decide) (by omega) (by omega) (fun hb4 => ?_) (fun hb4 => ?_)
  · exact done (Or.inl (by omega)) _ rfl rfl
  ·
    refine xa_aload_n d_Ref_fellRegions_17 rfl ?_
    refine xa_getf f_Ref_44 d_Ref_fellRegions_18 (by assumption) (by rfl) ?_
    refine xa_iload_n d_Ref_fellRegions_21 rfl ?_
    refine xa_ialdE d_Ref_fellRegions_22 q10 rfl (show p < 169 by omega) (by omega) rfl ?_
    rcases hU.2.2.2.2.2.2.2.2 p hp with hk | hk
    · obtain ⟨u1, u2, u3⟩ := hU.2.1 p hp hk
      refine xa_int (y := nI (rn p)) u1 ?_
      have again : ∀ (z : Int32), (∀ q, gb_nb n p (gr_w w) = some q → ¬ (kb q = 1 ∧ SG (gn q) = 0)) → xa_X l D H0 M_Ref_fellRegions R Z 0 0 (xa_u h (r + 12) (.inl (D.1 102, 170, .inl SR'))) sz 72 [(3, .int z), (0, .ref r), (1, .int (nI p)), (2, .int (nI w))] [] := by
        intro z hno
        refine xa_iincN d_Ref_fellRegions_72 rfl rfl rfl ?_
        refine xa_goto (tgt := 12) d_Ref_fellRegions_75 (by decide) ?_
        refine xa_ls ?_ (w_fell2 hR h0 h9 h10 h11 hn hU hsg hp kont (w + 1) (by omega) SR' (fun i hi => ⟨fun y => (hF i hi).1 ?_, fun y => (hF i hi).2 (fun x => y (gr_frp_w.mpr (Or.inl x)))⟩))
        · exact ⟨rfl, rfl, rfl, trivial⟩
        · exact (gr_frp_w.mp y).elim (fun x => x) (fun ⟨_, _, q, hq, hk⟩ => absurd hk (hno q hq))
      refine xa_if_lt (tgt := 78) d_Ref_fellRegions_23 (by decide) (fun hz => ?_) (fun hz => ?_)
      · exact absurd hz (nI_pos (by omega))
      ·
        refine xa_aload_n d_Ref_fellRegions_26 rfl ?_
        refine xa_iload_n d_Ref_fellRegions_27 rfl ?_
        refine xa_iload_n d_Ref_fellRegions_28 rfl ?_
        refine xa_callVr (As := [.int (nI p), .int (nI w)]) (st := []) d_Ref_fellRegions_29 k_Ref_71 q0 (c_Ref_beside q0 hn hp hb4) rfl rfl (Nat.le_of_ble_eq_true rfl) ⟨hR.1, hR.2⟩ (by omega) (by omega) ?_
        refine xa_istore_n d_Ref_fellRegions_32 rfl rfl ?_
        refine xa_iload_n d_Ref_fellRegions_33 rfl ?_
        cases hnb : gb_nb n p (gr_w w) with
        | none =>
          rw [hnb] at again
          refine xa_int (y := -1) rfl ?_
          refine xa_if_lt (tgt := 72) d_Ref_fellRegions_34 (by decide) (fun hz2 => ?_) (fun hz2 => ?_)
          · refine xa_ls ?_ (again (gb_oi none) (fun q hq => by cases hq))
            exact ⟨rfl, rfl, rfl, rfl, trivial⟩
          · exact absurd (by decide) hz2
        | some y =>
          rw [hnb] at again
          have hy := gb_nb_lt hp (gr_w_lt w) hnb
          refine xa_int (y := nI y) rfl ?_
          refine xa_if_lt (tgt := 72) d_Ref_fellRegions_34 (by decide) (fun hz2 => ?_) (fun hz2 => ?_)
          · exact absurd hz2 (nI_pos (by omega))
          ·
            refine xa_aload_n d_Ref_fellRegions_37 rfl ?_
            refine xa_getf f_Ref_41 d_Ref_fellRegions_38 (by assumption) (by rfl) ?_
            refine xa_iload_n (x := nI y) d_Ref_fellRegions_41 rfl ?_
            refine xa_ialdE d_Ref_fellRegions_42 q9 rfl (show y < 169 by omega) (by omega) rfl ?_
            rcases hU.2.2.2.2.2.2.2.2 y hy with hky | hky
            · refine xa_int (y := -1) (hU.2.1 y hy hky).2.2 ?_
              refine xa_if_lt (tgt := 72) d_Ref_fellRegions_43 (by decide) (fun hz3 => ?_) (fun hz3 => ?_)
              · refine xa_ls ?_ (again (gb_oi (some y)) (fun q hq hkq => by cases hq; have := hkq.1; omega))
                exact ⟨rfl, rfl, rfl, rfl, trivial⟩
              · exact absurd (by decide) hz3
            · obtain ⟨t1, t2, t3⟩ := hU.1 y hy hky
              refine xa_int (y := nI (gn y)) t1 ?_
              refine xa_if_lt (tgt := 72) d_Ref_fellRegions_43 (by decide) (fun hz3 => ?_) (fun hz3 => ?_)
              · exact absurd hz3 (nI_pos (by omega))
              ·
                refine xa_aload_n d_Ref_fellRegions_46 rfl ?_
                refine xa_getf f_Ref_47 d_Ref_fellRegions_47 (by assumption) (by rfl) ?_
                refine xa_aload_n d_Ref_fellRegions_50 rfl ?_
                refine xa_getf f_Ref_41 d_Ref_fellRegions_51 (by assumption) (by rfl) ?_
                refine xa_iload_n (x := nI y) d_Ref_fellRegions_54 rfl ?_
                refine xa_ialdE d_Ref_fellRegions_55 q9 rfl (show y < 169 by omega) (by omega) t1 ?_
                refine xa_zaldE d_Ref_fellRegions_56 q11 rfl (show gn y < 170 by omega) (by omega) rfl ?_
                refine xa_if_ne (tgt := 72) d_Ref_fellRegions_57 (by decide) (fun hz4 => ?_) (fun hz4 => ?_)
                · refine xa_ls ?_ (again (gb_oi (some y)) (fun q hq hkq => by cases hq; exact hz4 hkq.2))
                  exact ⟨rfl, rfl, rfl, rfl, trivial⟩
                ·
                  refine xa_aload_n d_Ref_fellRegions_60 rfl ?_
                  refine xa_getf f_Ref_50 d_Ref_fellRegions_61 (by assumption) (by rfl) ?_
                  refine xa_aload_n d_Ref_fellRegions_64 rfl ?_
                  refine xa_getf f_Ref_44 d_Ref_fellRegions_65 (by assumption) (by rfl) ?_
                  refine xa_iload_n d_Ref_fellRegions_68 rfl ?_
                  refine xa_ialdE d_Ref_fellRegions_69 q10 rfl (show p < 169 by omega) (by omega) u1 ?_
                  refine xa_iconst (v := nI 0) d_Ref_fellRegions_70 rfl ?_
                  refine xa_zast d_Ref_fellRegions_71 (xa_u_eq _ _ _) (show rn p < 170 by omega) rfl (by omega) ?_
                  rw [xa_uu]
                  refine xa_iincN d_Ref_fellRegions_72 rfl rfl rfl ?_
                  refine xa_goto (tgt := 12) d_Ref_fellRegions_75 (by decide) ?_
                  refine xa_ls ?_ (w_fell2 hR h0 h9 h10 h11 hn hU hsg hp kont (w + 1) (by omega) _ (fun i hi => ⟨fun z => ?_, fun z => ?_⟩))
                  · exact ⟨rfl, rfl, rfl, trivial⟩
                  · by_cases hir : i = rn p
                    · exact if_pos hir
                    · have hu : upd SR' (rn p) (vp_nar .boolean (nI 0)) i = SR' i := if_neg hir
                      rw [hu]
                      exact (hF i hi).1 ((gr_frp_w.mp z).elim (fun x => x) (fun x => absurd x.2.1.symm hir))
                  · have hir : i ≠ rn p := fun e => z (gr_frp_w.mpr (Or.inr ⟨hk, e.symm, y, hnb, hky, hz4⟩))
                    have hu : upd SR' (rn p) (vp_nar .boolean (nI 0)) i = SR' i := if_neg hir
                    rw [hu]
                    exact (hF i hi).2 (fun x => z (gr_frp_w.mpr (Or.inl x)))
    · refine xa_int (y := -1) (hU.1 p hp hk).2.2 ?_
      refine xa_if_lt (tgt := 78) d_Ref_fellRegions_23 (by decide) (fun hz => ?_) (fun hz => ?_)
      · exact done (Or.inr (by omega)) _ rfl rfl
      · exact absurd (by decide) hz
termination_by 4 - w
decreasing_by all_goals omega
theorem w_fell1 {SG SR : Nat → Int32} (hR : 1 ≤ R.frames ∧ 24 ≤ R.locals) (h0 : h r = some (xR_o r n v)) (h9 : h (r + 9) = some (.inl (D.1 100, 169, .inl GR))) (h10 : h (r + 10) = some (.inl (D.1 100, 169, .inl RG))) (h11 : h (r + 11) = some (.inl (D.1 102, 170, .inl SG))) (hn : 2 ≤ n ∧ n ≤ 13) (hU : gr_U n kb GR RG gn rn g e) (hsg : ∀ a, a < g → SG a = 0 ∨ SG a = 1) (p : Nat) (hp : p ≤ n * n) (SR' : Nat → Int32) (hF : gr_FR n kb gn rn e SG SR p 0 SR') :
    xa_X l D H0 M_Ref_fellRegions R (xa_Zr D H0 0 0 (fun v' h' sz' => ∃ SR', (∀ i, i < e → (gr_fr n kb gn rn SG i → SR' i = 0) ∧ (¬ gr_fr n kb gn rn SG i → SR' i = SR i)) ∧ v' = none ∧ h' = xa_u h (r + 12) (.inl (D.1 102, 170, .inl SR')) ∧ sz' = sz)) 0 0 (xa_u h (r + 12) (.inl (D.1 102, 170, .inl SR'))) sz 2 [(0, .ref r), (1, .int (nI p))] [] := by
  have hN : n * n ≤ 169 := Nat.mul_le_mul hn.2 hn.2
  have q0 : xa_u h (r + 12) (.inl (D.1 102, 170, .inl SR')) r = some (xR_o r n v) := xa_u_ne h0 (by omega)
  refine xa_iload_n d_Ref_fellRegions_2 rfl ?_
  refine xa_aload_n d_Ref_fellRegions_3 rfl ?_
  refine xa_getf f_Ref_62 d_Ref_fellRegions_4 (by assumption) (by rfl) ?_
  refine xa_icmp_geN (tgt := 84) d_Ref_fellRegions_7 (by decide) (by omega) (by omega) (fun hb4 => ?_) (fun hb4 => ?_)
  · have hpe : p = n * n := by omega
    subst hpe
    have hiff : ∀ i, gr_frp n kb gn rn SG (n * n) 0 i ↔ gr_fr n kb gn rn SG i := fun i => by
      constructor
      · rintro ⟨x, u, q, h1, h2, h3, h4, h5⟩
        exact ⟨x, gr_w u, q, by omega, h2, h3, gr_w_lt u, h4, h5⟩
      · rintro ⟨x, w, q, h1, h2, h3, h4, h5, h6⟩
        obtain ⟨u, hu, eu⟩ := gr_w_on h4
        exact ⟨x, u, q, Or.inl ⟨h1, hu⟩, h2, h3, by rw [eu]; exact h5, h6⟩
    exact xa_return d_Ref_fellRegions_84 rfl (by omega) (by omega) ⟨SR', fun i hi => ⟨fun z => (hF i hi).1 ((hiff i).mpr z), fun z => (hF i hi).2 (fun y => z ((hiff i).mp y))⟩, rfl, rfl, rfl⟩
  ·
    refine xa_iconst (v := nI 0) d_Ref_fellRegions_10 rfl ?_
    refine xa_istore_n d_Ref_fellRegions_11 rfl rfl ?_
    refine xa_ls ?_ (w_fell2 (SR := SR) hR h0 h9 h10 h11 hn hU hsg hb4 (fun SR'' hF'' => ?_) 0 (by omega) SR' hF)
    · exact ⟨rfl, rfl, rfl, trivial⟩
    ·
      refine xa_iincN d_Ref_fellRegions_78 rfl rfl rfl ?_
      refine xa_goto (tgt := 2) d_Ref_fellRegions_81 (by decide) ?_
      refine xa_ls ?_ (w_fell1 hR h0 h9 h10 h11 hn hU hsg (p + 1) (by omega) SR'' hF'')
      exact ⟨rfl, rfl, trivial⟩
termination_by n * n - p
decreasing_by omega
theorem c_Ref_fellRegions {SG SR : Nat → Int32} (h0 : h r = some (xR_o r n v)) (h9 : h (r + 9) = some (.inl (D.1 100, 169, .inl GR))) (h10 : h (r + 10) = some (.inl (D.1 100, 169, .inl RG))) (h11 : h (r + 11) = some (.inl (D.1 102, 170, .inl SG))) (h12 : h (r + 12) = some (.inl (D.1 102, 170, .inl SR))) (hn : 2 ≤ n ∧ n ≤ 13) (hU : gr_U n kb GR RG gn rn g e) (hsg : ∀ a, a < g → SG a = 0 ∨ SG a = 1) :
    xa_M l D H0 M_Ref_fellRegions 1 24 0 0 [.ref r] h sz (fun v' h' sz' => ∃ SR', (∀ i, i < e → (gr_fr n kb gn rn SG i → SR' i = 0) ∧ (¬ gr_fr n kb gn rn SG i → SR' i = SR i)) ∧ v' = none ∧ h' = xa_u h (r + 12) (.inl (D.1 102, 170, .inl SR')) ∧ sz' = sz) := by
  refine xa_enter (by decide) rfl rfl ?_
  refine xa_iconst (v := nI 0) d_Ref_fellRegions_0 rfl ?_
  refine xa_istore_n d_Ref_fellRegions_1 rfl rfl ?_
  refine xa_heap (xa_us _ h12).symm ?_
  refine xa_ls ?_ (w_fell1 ⟨by decide, by decide⟩ h0 h9 h10 h11 hn hU hsg 0 (by omega) SR (fun i _ => ⟨fun ⟨x, u, q, hx, _⟩ => by omega, fun _ => rfl⟩))
  exact ⟨rfl, rfl, trivial⟩
end RI
