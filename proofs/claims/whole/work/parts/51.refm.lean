/-! The reference, pure: its ways, its flood, its trial. -/
def gr_w (w : Nat) : Nat := if w = 0 then 0 else if w = 1 then 3 else if w = 2 then 1 else 2
theorem gr_w_lt (w : Nat) : gr_w w < 4 := by unfold gr_w; split <;> (try split) <;> (try split) <;> omega
theorem gr_w_on {v : Nat} (h : v < 4) : ∃ w, w < 4 ∧ gr_w w = v := by
  rcases (show v = 0 ∨ v = 1 ∨ v = 2 ∨ v = 3 by omega) with e | e | e | e <;> subst e
  · exact ⟨0, by omega, rfl⟩
  · exact ⟨2, by omega, rfl⟩
  · exact ⟨3, by omega, rfl⟩
  · exact ⟨1, by omega, rfl⟩
theorem gr_any {P : Nat → Prop} : (∃ w, w < 4 ∧ P (gr_w w)) ↔ ∃ w, w < 4 ∧ P w := by
  constructor
  · rintro ⟨w, _, h⟩
    exact ⟨gr_w w, gr_w_lt w, h⟩
  · rintro ⟨v, hv, h⟩
    obtain ⟨w, hw, e⟩ := gr_w_on hv
    exact ⟨w, hw, by rw [e]; exact h⟩
def gr_FC (n : Nat) (k : Nat → Int32) (V : Nat → Prop) (r : Nat → Nat) (i w : Nat) : Prop :=
  (∀ j, j < i → ∀ v, v < 4 → ∀ b, gb_nb n (r j) v = some b → k b = k (r j) → V b) ∧ ∀ v, v < w → ∀ b, gb_nb n (r i) (gr_w v) = some b → k b = k (r i) → V b
theorem gr_FC_0 {n : Nat} {k : Nat → Int32} {V : Nat → Prop} {r : Nat → Nat} : gr_FC n k V r 0 0 := ⟨fun j hj => by omega, fun v hv => by omega⟩
theorem gr_FC_next {n : Nat} {k : Nat → Int32} {V : Nat → Prop} {r : Nat → Nat} {i : Nat} (h : gr_FC n k V r i 4) : gr_FC n k V r (i + 1) 0 := by
  refine ⟨fun j hj => ?_, fun v hv => by omega⟩
  by_cases hji : j = i
  · subst hji
    intro v hv
    obtain ⟨w, hw, e⟩ := gr_w_on hv
    rw [← e]
    exact h.2 w hw
  · exact h.1 j (by omega)
theorem gr_FC_skip {n : Nat} {k : Nat → Int32} {V : Nat → Prop} {r : Nat → Nat} {i w : Nat} (h : gr_FC n k V r i w) (hs : ∀ b, gb_nb n (r i) (gr_w w) = some b → k b = k (r i) → V b) : gr_FC n k V r i (w + 1) := by
  refine ⟨h.1, fun v hv => ?_⟩
  by_cases hvw : v = w
  · subst hvw; exact hs
  · exact h.2 v (by omega)
theorem gr_FC_add {n : Nat} {k : Nat → Int32} {V : Nat → Prop} {r : Nat → Nat} {e i w b : Nat} (h : gr_FC n k V r i w) (hi : i < e) (hb : gb_nb n (r i) (gr_w w) = some b) :
    gr_FC n k (fun q => V q ∨ q = b) (fun j => if j = e then b else r j) i (w + 1) := by
  refine ⟨fun j hj v hv x hx hk => ?_, fun v hv x hx hk => ?_⟩
  · have hr : (if j = e then b else r j) = r j := if_neg (by omega)
    simp only [hr] at hx hk
    exact Or.inl (h.1 j hj v hv x hx hk)
  · have hr : (if i = e then b else r i) = r i := if_neg (by omega)
    simp only [hr] at hx hk
    by_cases hvw : v = w
    · subst hvw
      rw [hb] at hx
      exact Or.inr (Option.some.inj hx).symm
    · exact Or.inl (h.2 v (by omega) x hx hk)
theorem gr_FC_gb {n : Nat} {k : Nat → Int32} {V : Nat → Prop} {r : Nat → Nat} {e : Nat} (h : gr_FC n k V r e 0) : gb_FC n k V r e 0 := ⟨h.1, fun v hv => absurd hv (Nat.not_lt_zero _)⟩
theorem gb_nb_irr {n p w : Nat} (hp : p < n * n) (hw : w < 4) : gb_nb n p w ≠ some p := by
  intro h
  have hn : 0 < n := by
    rcases Nat.eq_zero_or_pos n with e | e
    · subst e; omega
    · exact e
  obtain ⟨r, c, hr, hc, hpe, d1, d2⟩ := gb_rc hp
  unfold gb_nb at h
  rw [d1, d2] at h
  have hnr : 0 < r → n ≤ n * r := fun h0 => Nat.le_mul_of_pos_right n h0
  split at h
  · split at h
    · rename_i h0
      have := hnr h0
      have h' := Option.some.inj h
      omega
    · cases h
  · split at h
    · split at h
      · have h' := Option.some.inj h
        omega
      · cases h
    · split at h
      · split at h
        · have h' := Option.some.inj h
          omega
        · cases h
      · split at h
        · have h' := Option.some.inj h
          omega
        · cases h
/-- the board with a stone put -/
abbrev gr_t1 (b : Nat → Nat) (p sd : Nat) : Nat → Nat := fun q => if q = p then sd else b q
theorem nI_ne {a b : Nat} (ha : a ≤ 3) (hb : b ≤ 3) (h : a ≠ b) : nI a ≠ nI b := fun z => h ((nI_eq (by omega) (by omega)).mp z)
section RT
variable {n p sd : Nat} {b : Nat → Nat}
theorem gr_t1_d : ∀ q, q ≠ p → (fun q => nI (gr_t1 b p sd q)) q = (fun q => nI (b q)) q := fun q hq => by
  show nI (if q = p then sd else b q) = nI (b q)
  rw [if_neg hq]
theorem gr_t1_p : (fun q => nI (gr_t1 b p sd q)) p = nI sd := by
  show nI (if p = p then sd else b p) = nI sd
  rw [if_pos rfl]
theorem gr_t1_pp : gr_t1 b p sd p = sd := if_pos rfl
/-- what the reference marks: the strings of the other side whose last breath was p -/
theorem gr_cap (hp : p < n * n) (hp0 : b p = 0) (hsd : sd = 1 ∨ sd = 2) (hb : ∀ q, q < n * n → b q ≤ 2) {w x : Nat} (hw : w < 4) (hx : gb_nb n p w = some x) (hbx : b x = 3 - sd) :
    (gb_cnt (gt_br n (fun q => nI (gr_t1 b p sd q)) x) (n * n) = 0 ↔ gb_cnt (gt_br n (fun q => nI (b q)) x) (n * n) = 1) ∧ ∀ q, gb_conn n (fun q => nI (gr_t1 b p sd q)) x q ↔ gb_conn n (fun q => nI (b q)) x q := by
  have h0 : (fun q => nI (b q)) p = 0 := by show nI (b p) = 0; rw [hp0]; rfl
  have e1 : (fun q => nI (b q)) x ≠ 0 := by show nI (b x) ≠ nI 0; rw [hbx]; exact nI_ne (by omega) (by omega) (by omega)
  have e2 : (fun q => nI (gr_t1 b p sd q)) p ≠ (fun q => nI (b q)) x := by rw [gr_t1_p]; show nI sd ≠ nI (b x); rw [hbx]; exact nI_ne (by omega) (by omega) (by omega)
  have e3 : (fun q => nI (gr_t1 b p sd q)) p ≠ 0 := by rw [gr_t1_p]; exact nI_ne (b := 0) (by omega) (by omega) (by omega)
  have hl := gt_last (b := fun q => nI (b q)) (t := fun q => nI (gr_t1 b p sd q)) hp hw hx h0 gr_t1_d e1 e2 e3
  exact ⟨by omega, fun q => (gt_conn_eq (b := fun q => nI (b q)) (t := fun q => nI (gr_t1 b p sd q)) gr_t1_d (fun z => e1 (z.symm.trans h0)) e2 q).symm⟩
/-- the own string's breaths, nothing taken -/
theorem gr_own (hp : p < n * n) (hp0 : b p = 0) (hsd : sd = 1 ∨ sd = 2) (hb : ∀ q, q < n * n → b q ≤ 2) : gb_cnt (gt_br n (fun q => nI (gr_t1 b p sd q)) p) (n * n) = 0 ↔ ¬ gq_bre n b p sd 4 := by
  have h0 : (fun q => nI (b q)) p = 0 := by show nI (b p) = 0; rw [hp0]; rfl
  have e3 : (fun q => nI (gr_t1 b p sd q)) p ≠ 0 := by rw [gr_t1_p]; exact nI_ne (b := 0) (by omega) (by omega) (by omega)
  have hbr := gt_own_br (b := fun q => nI (b q)) (t := fun q => nI (gr_t1 b p sd q)) hp h0 gr_t1_d e3
  constructor
  · intro hz ⟨v, x, hv, hx, hc⟩
    have hxN := gb_nb_lt hp hv hx
    rcases hc with hc | ⟨hc, hcnt⟩
    · have hxp : x ≠ p := fun z => by
        subst z
        exact absurd hx (gb_nb_irr hp hv)
      have : 0 < gb_cnt (gt_br n (fun q => nI (gr_t1 b p sd q)) p) (n * n) := gb_cnt_pos (x := x) ((hbr x).mpr (Or.inl ⟨hxN, hxp, by show nI (b x) = 0; rw [hc]; rfl, v, hv, hx⟩)) _ hxN
      omega
    · have hpb : gt_br n (fun q => nI (b q)) x p := ⟨hp, h0, v, x, hv, hx, gb_conn_rf⟩
      have hex : ∃ q, q < n * n ∧ q ≠ p ∧ gt_br n (fun q => nI (b q)) x q := Classical.byContradiction (fun hno => hcnt (by
        have := gb_cnt_add (P := fun _ => False) (P' := gt_br n (fun q => nI (b q)) x) (x := p) (fun z => z) (fun q => ⟨fun z => by
          by_cases hqp : q = p
          · exact Or.inr hqp
          · exact absurd ⟨q, z.1, hqp, z⟩ hno, fun z => z.elim (fun z => z.elim) (fun z => by rw [z]; exact hpb)⟩) (n * n) hp
        rw [gb_cnt_0 (P := fun _ => False) _ (fun _ _ z => z)] at this
        omega))
      obtain ⟨q, hq, hqp, hqb⟩ := hex
      have : 0 < gb_cnt (gt_br n (fun q => nI (gr_t1 b p sd q)) p) (n * n) := gb_cnt_pos (x := q) ((hbr q).mpr (Or.inr ⟨v, x, hv, hx, by rw [gr_t1_pp, hc], hqb, hqp⟩)) _ hq
      omega
  · intro hno
    refine gb_cnt_0 _ (fun q hq hz => ?_)
    rcases (hbr q).mp hz with ⟨h1, h2, h3, w, hw, hx⟩ | ⟨w, x, hw, hx, h1, h2, h3⟩
    · refine hno ⟨w, q, hw, hx, Or.inl ?_⟩
      have h3' : nI (b q) = nI 0 := h3
      exact (nI_eq (by have := hb q h1; omega) (by omega)).mp h3'
    · have hxN := gb_nb_lt hp hw hx
      rw [gr_t1_pp] at h1
      have h1' : nI (b x) = nI sd := h1
      have hbx : b x = sd := (nI_eq (by have := hb x hxN; omega) (by omega)).mp h1'
      refine hno ⟨w, x, hw, hx, Or.inr ⟨hbx, fun hcnt => ?_⟩⟩
      have hpb : gt_br n (fun q => nI (b q)) x p := ⟨hp, h0, w, x, hw, hx, gb_conn_rf⟩
      have := gb_cnt_strict (P := fun y => y = p) (P' := gt_br n (fun q => nI (b q)) x) (x := q) h3 h2 (n * n) hq (fun y hy e => by rw [e]; exact hpb)
      have h1 := gb_cnt_pos (P := fun y => y = p) (x := p) rfl (n * n) hp
      omega
theorem gr_ownc (hp : p < n * n) (hp0 : b p = 0) (hsd : sd = 1 ∨ sd = 2) (hb : ∀ q, q < n * n → b q ≤ 2) (hno : ¬ gq_bre n b p sd 4) (q : Nat) : gb_conn n (fun q => nI (gr_t1 b p sd q)) p q ↔ gq_cap n b p sd 4 q ∨ q = p := by
  have h0 : (fun q => nI (b q)) p = 0 := by show nI (b p) = 0; rw [hp0]; rfl
  have e3 : (fun q => nI (gr_t1 b p sd q)) p ≠ 0 := by rw [gr_t1_p]; exact nI_ne (b := 0) (by omega) (by omega) (by omega)
  rw [gt_own (b := fun q => nI (b q)) (t := fun q => nI (gr_t1 b p sd q)) hp h0 gr_t1_d e3 q, gr_t1_pp]
  constructor
  · rintro (e | ⟨w, x, hw, hx, hk, hc⟩)
    · exact Or.inr e
    · have hxN := gb_nb_lt hp hw hx
      have hk' : nI (b x) = nI sd := hk
      have hbx : b x = sd := (nI_eq (by have := hb x hxN; omega) (by omega)).mp hk'
      refine Or.inl ⟨w, x, hw, hx, hbx, Classical.byContradiction (fun hz => hno ⟨w, x, hw, hx, Or.inr ⟨hbx, hz⟩⟩), hc⟩
  · rintro (⟨w, x, hw, hx, hbx, hcnt, hc⟩ | e)
    · exact Or.inr ⟨w, x, hw, hx, by show nI (b x) = nI sd; rw [hbx], hc⟩
    · exact Or.inl e
end RT
