/-! Life, pure: the greatest set of areas that stand. -/
theorem gb_cnt_mono {P P' : Nat → Prop} : ∀ N : Nat, (∀ q, q < N → P q → P' q) → gb_cnt P N ≤ gb_cnt P' N := by
  intro N
  induction N with
  | zero => intro _; exact Nat.le_refl _
  | succ N ih =>
    intro h
    have ih' := ih (fun q hq => h q (by omega))
    by_cases h1 : P N
    · rw [gb_cnt_y h1, gb_cnt_y (h N (by omega) h1)]; omega
    · rw [gb_cnt_n h1]
      by_cases h2 : P' N
      · rw [gb_cnt_y h2]; omega
      · rw [gb_cnt_n h2]; exact ih'
theorem gb_cnt_strict {P P' : Nat → Prop} {x : Nat} (hx : ¬ P x) (hx' : P' x) : ∀ N : Nat, x < N → (∀ q, q < N → P q → P' q) → gb_cnt P N + 1 ≤ gb_cnt P' N := by
  intro N hN h
  have e := gb_cnt_add (P := P) (P' := fun q => P q ∨ q = x) hx (fun q => Iff.rfl) N hN
  rw [← e]
  exact gb_cnt_mono N (fun q hq hp => hp.elim (h q hq) (fun z => by rw [z]; exact hx'))
theorem gb_cnt_full {P : Nat → Prop} : ∀ N : Nat, N ≤ gb_cnt P N → ∀ q, q < N → P q := by
  intro N
  induction N with
  | zero => intro _ q hq; omega
  | succ N ih =>
    intro h q hq
    by_cases h1 : P N
    · rw [gb_cnt_y h1] at h
      by_cases he : q = N
      · rw [he]; exact h1
      · exact ih (by omega) q (by omega)
    · rw [gb_cnt_n h1] at h
      have := gb_cnt_le (P := P) N
      omega
def gl_k (b : Nat → Nat) (sd : Nat) (q : Nat) : Nat := if b q = sd then 1 else 0
theorem gl_k_le (b : Nat → Nat) (sd q : Nat) : gl_k b sd q ≤ 1 := by unfold gl_k; split <;> omega
/-- every point of the area of p is beside the area of x -/
def gl_belp (n : Nat) (K : Nat → Int32) (p x : Nat) : Prop := ∀ q, gb_conn n K p q → ∃ w y, w < 4 ∧ gb_nb n q w = some y ∧ gb_conn n K x y
/-- a set of points that stands by itself -/
def gl_fix (n : Nat) (kb : Nat → Nat) (P : Nat → Prop) : Prop :=
  (∀ p q, p < n * n → gb_conn n (fun q => nI (kb q)) p q → P p → P q) ∧
  (∀ p, p < n * n → kb p = 1 → P p → 2 ≤ gb_cnt (fun r => (kb r = 0 ∧ P r ∧ gl_belp n (fun q => nI (kb q)) r p) ∧ gx_lst n (fun q => nI (kb q)) r) (n * n)) ∧
  ∀ p w q, p < n * n → kb p = 0 → P p → w < 4 → gb_nb n p w = some q → kb q = 1 → P q
def gl_al (n : Nat) (kb : Nat → Nat) (p : Nat) : Prop := ∃ P, gl_fix n kb P ∧ P p
theorem gl_ba_belp {n c : Nat} {K : Nat → Int32} {ar o s : Nat → Nat} (w1 : gs_W n K c ar o s) {r x : Nat} (hr : r < c) (hx : x < n * n) : gl_ba n ar r (ar x) ↔ gl_belp n K (o (s r)) x := by
  obtain ⟨a1, a2, a3, a4, a5⟩ := gs_W_area w1 hr
  constructor
  · intro h q hq
    have hqN := gb_conn_lt a3 hq
    obtain ⟨w, y, hw, hy, e⟩ := h q hqN (by rw [← (w1.2.1 _ _ a3 hqN).mpr hq]; exact a4)
    exact ⟨w, y, hw, hy, (w1.2.1 _ _ hx (gb_nb_lt hqN hw hy)).mp e.symm⟩
  · intro h p hp hpa
    obtain ⟨w, y, hw, hy, e⟩ := h p ((w1.2.1 _ _ a3 hp).mp (by rw [a4, hpa]))
    exact ⟨w, y, hw, hy, ((w1.2.1 _ _ hx (gb_nb_lt hp hw hy)).mpr e).symm⟩
/-- the class's count of a string's regions, by points -/
theorem gl_cnt {n c : Nat} {kb ar o s : Nat → Nat} {BT ST : Nat → Int32} (w1 : gs_W n (fun q => nI (kb q)) c ar o s) (hN : n * n < 1000) (hb : ∀ q, q < n * n → kb q ≤ 1) (hBT : ∀ r, r < c → gl_BT n c kb ar o s BT r) {x : Nat} (hx : x < n * n) (hkx : kb x = 1) :
    gb_cnt (gl_P BT ST (ar x)) (4 * c) = gb_cnt (fun r => (kb r = 0 ∧ ST (ar r) = 1 ∧ gl_belp n (fun q => nI (kb q)) r x) ∧ gx_lst n (fun q => nI (kb q)) r) (n * n) := by
  have hcN : c ≤ n * n := w1.2.2.2.2.2.2.2.2.2.2
  have hax := w1.1 x hx
  have hka : kb (o (s (ar x))) = 1 := by rw [← gl_kb w1 hb hx]; exact hkx
  rw [← gs_W_cnt w1 (fun r => kb r = 0 ∧ ST (ar r) = 1 ∧ gl_belp n (fun q => nI (kb q)) r x)]
  have e1 : gb_cnt (fun a => kb (o (s a)) = 0 ∧ ST (ar (o (s a))) = 1 ∧ gl_belp n (fun q => nI (kb q)) (o (s a)) x) c = gb_cnt (fun r => kb (o (s r)) = 0 ∧ ST r = 1 ∧ gl_ba n ar r (ar x)) c := gb_cnt_eq _ (fun r hr => by
    obtain ⟨a1, a2, a3, a4, a5⟩ := gs_W_area w1 hr
    rw [a4, gl_ba_belp w1 hr hx])
  rw [e1]
  let sel : Nat → Nat := fun r => (Classical.epsilon (fun w => w < 4 ∧ BT (4 * r + w) = nI (ar x))) % 4
  have hsel : ∀ r, (∃ w, w < 4 ∧ BT (4 * r + w) = nI (ar x)) → BT (4 * r + sel r) = nI (ar x) := fun r hw => by
    have h1 := Classical.epsilon_spec hw
    have h2 : sel r = Classical.epsilon (fun w => w < 4 ∧ BT (4 * r + w) = nI (ar x)) := Nat.mod_eq_of_lt h1.1
    rw [h2]
    exact h1.2
  have hs4 : ∀ r, sel r < 4 := fun r => Nat.mod_lt _ (by decide)
  rw [← gb_cnt_img (f := fun r => 4 * r + sel r) (N := 4 * c) c (fun r hr _ => by have := hs4 r; show 4 * r + sel r < 4 * c; omega) (fun r r' _ _ e => by
    have e' : 4 * r + sel r = 4 * r' + sel r' := e
    have := hs4 r
    have := hs4 r'
    omega)]
  refine gb_cnt_eq _ (fun j hj => ⟨?_, ?_⟩)
  · rintro ⟨h1, h2⟩
    have hr : j / 4 < c := by omega
    have hj4 : 4 * (j / 4) + j % 4 = j := by omega
    have hm : j % 4 < 4 := Nat.mod_lt _ (by decide)
    obtain ⟨b1, b2, b3⟩ := hBT _ hr
    have hne : nI (ar x) ≠ -1 := gb_m1 (by omega)
    rcases b1 _ hm with e | ⟨g, hg, e, k0, k1, ba⟩
    · rw [hj4, h1] at e
      exact absurd e hne
    · rw [hj4, h1] at e
      have hgx : ar x = g := (nI_eq (by omega) (by omega)).mp e
      refine ⟨j / 4, hr, ⟨k0, h2, by rw [hgx]; exact ba⟩, ?_⟩
      have hse := hsel (j / 4) ⟨j % 4, hm, by rw [hj4]; exact h1⟩
      have := b2 (sel (j / 4)) (j % 4) (hs4 _) hm (by rw [hse, hj4, h1]) (by rw [hse]; exact hne)
      show 4 * (j / 4) + sel (j / 4) = j
      omega
  · rintro ⟨r, hr, ⟨k0, k1, ba⟩, e⟩
    have e' : 4 * r + sel r = j := e
    have hj4 : j / 4 = r := by have := hs4 r; omega
    refine ⟨?_, by rw [hj4]; exact k1⟩
    rw [← e']
    exact hsel r ((hBT r hr).2.2 (ar x) hax k0 hka ba)
/-- the state of the fall -/
def gl_J (n c : Nat) (kb ar o s : Nat → Nat) (i : Nat) (ST : Nat → Int32) : Prop :=
  (∀ P, gl_fix n kb P → ∀ p, p < n * n → P p → ST (ar p) = 1) ∧ (∀ p w q, p < n * n → kb p = 0 → ST (ar p) = 1 → w < 4 → gb_nb n p w = some q → kb q = 1 → ST (ar q) = 1) ∧ (∀ a, a < c → ST a = 0 ∨ ST a = 1) ∧ i ≤ gb_cnt (fun a => kb (o (s a)) = 1 ∧ ST a = 0) c
theorem gl_J_0 {n c : Nat} {kb ar o s : Nat → Nat} {ST : Nat → Int32} (w1 : gs_W n (fun q => nI (kb q)) c ar o s) (h : ∀ a, a < c → ST a = 1) : gl_J n c kb ar o s 0 ST :=
  ⟨fun _ _ p hp _ => h _ (w1.1 p hp), fun p w q hp _ _ hw hq _ => h _ (w1.1 q (gb_nb_lt hp hw hq)), fun a ha => Or.inr (h a ha), Nat.zero_le _⟩
theorem gl_J_out {n c : Nat} {kb ar o s : Nat → Nat} {i : Nat} {ST : Nat → Int32} (w1 : gs_W n (fun q => nI (kb q)) c ar o s) (h : gl_J n c kb ar o s i ST) (hi : c ≤ i) : ∀ p, p < n * n → (ST (ar p) = 1 ↔ gl_al n kb p) := fun p hp => by
  have hf := gb_cnt_full (P := fun a => kb (o (s a)) = 1 ∧ ST a = 0) c (by have := h.2.2.2; omega)
  constructor
  · intro h1
    have h0 := (hf _ (w1.1 p hp)).2
    rw [h0] at h1
    exact absurd h1 (by decide)
  · rintro ⟨P, hP, hp'⟩
    exact h.1 P hP p hp hp'
theorem gl_J_end {n c : Nat} {kb ar o s : Nat → Nat} {i : Nat} {ST BT : Nat → Int32} (w1 : gs_W n (fun q => nI (kb q)) c ar o s) (hN : n * n < 1000) (hb : ∀ q, q < n * n → kb q ≤ 1) (hBT : ∀ r, r < c → gl_BT n c kb ar o s BT r) (h : gl_J n c kb ar o s i ST) (hno : ∀ a, a < c → ¬ gl_Fa c kb o s BT ST a) : ∀ p, p < n * n → (ST (ar p) = 1 ↔ gl_al n kb p) := fun p hp => by
  constructor
  · intro h1
    refine ⟨fun q => q < n * n ∧ ST (ar q) = 1, ⟨fun p q hp hc hpp => ?_, fun p hp hk hpp => ?_, fun p w q hp hk hpp hw hq hkq => ?_⟩, hp, h1⟩
    · have hq := gb_conn_lt hp hc
      exact ⟨hq, by rw [← (w1.2.1 _ _ hp hq).mpr hc]; exact hpp.2⟩
    · have hc := hno (ar p) (w1.1 p hp)
      have hcnt := gl_cnt (ST := ST) w1 hN hb hBT hp hk
      have : ¬ gb_cnt (gl_P BT ST (ar p)) (4 * c) < 2 := fun z => hc ⟨hpp.2, by rw [← gl_kb w1 hb hp]; exact hk, z⟩
      rw [hcnt] at this
      refine Nat.le_trans (Nat.le_of_not_lt this) (gb_cnt_mono _ (fun r hr hz => ⟨⟨hz.1.1, ⟨hr, hz.1.2.1⟩, hz.1.2.2⟩, hz.2⟩))
    · exact ⟨gb_nb_lt hp hw hq, h.2.1 p w q hp hk hpp.2 hw hq hkq⟩
  · rintro ⟨P, hP, hp'⟩
    exact h.1 P hP p hp hp'
theorem gl_J_step {n c : Nat} {kb ar o s : Nat → Nat} {i : Nat} {ST ST1 ST2 BT : Nat → Int32} (w1 : gs_W n (fun q => nI (kb q)) c ar o s) (hN : n * n < 1000) (hb : ∀ q, q < n * n → kb q ≤ 1) (hBT : ∀ r, r < c → gl_BT n c kb ar o s BT r) (h : gl_J n c kb ar o s i ST) (hfa : ∃ a, a < c ∧ gl_Fa c kb o s BT ST a)
    (h1 : ∀ a, a < c → (gl_Fa c kb o s BT ST a → ST1 a = 0) ∧ (¬ gl_Fa c kb o s BT ST a → ST1 a = ST a)) (h2 : ∀ a, a < c → (gl_Fr n kb ar ST1 (n * n) a → ST2 a = 0) ∧ (¬ gl_Fr n kb ar ST1 (n * n) a → ST2 a = ST1 a)) : gl_J n c kb ar o s (i + 1) ST2 := by
  obtain ⟨j1, j2, j3, j4⟩ := h
  have hs1 : ∀ a, a < c → ST1 a = 0 ∨ ST1 a = 1 := fun a ha => by
    by_cases hF : gl_Fa c kb o s BT ST a
    · exact Or.inl ((h1 a ha).1 hF)
    · rw [(h1 a ha).2 hF]; exact j3 a ha
  have hs2 : ∀ a, a < c → ST2 a = 0 ∨ ST2 a = 1 := fun a ha => by
    by_cases hF : gl_Fr n kb ar ST1 (n * n) a
    · exact Or.inl ((h2 a ha).1 hF)
    · rw [(h2 a ha).2 hF]; exact hs1 a ha
  have hfix1 : ∀ P, gl_fix n kb P → ∀ p, p < n * n → P p → ST1 (ar p) = 1 := fun P hP p hp hpp => by
    by_cases hF : gl_Fa c kb o s BT ST (ar p)
    · exfalso
      obtain ⟨f1, f2, f3⟩ := hF
      rw [← gl_kb w1 hb hp] at f2
      have hc := hP.2.1 p hp f2 hpp
      rw [gl_cnt w1 hN hb hBT hp f2] at f3
      have hm := gb_cnt_mono (P := fun r => (kb r = 0 ∧ P r ∧ gl_belp n (fun q => nI (kb q)) r p) ∧ gx_lst n (fun q => nI (kb q)) r) (P' := fun r => (kb r = 0 ∧ ST (ar r) = 1 ∧ gl_belp n (fun q => nI (kb q)) r p) ∧ gx_lst n (fun q => nI (kb q)) r) (n * n) (fun r hr hz => ⟨⟨hz.1.1, j1 P hP r hr hz.1.2.1, hz.1.2.2⟩, hz.2⟩)
      omega
    · rw [(h1 _ (w1.1 p hp)).2 hF]; exact j1 P hP p hp hpp
  have hstr : ∀ q, q < n * n → kb q = 1 → ST2 (ar q) = ST1 (ar q) := fun q hq hk => (h2 _ (w1.1 q hq)).2 (fun ⟨q', hq', ha', hk', _⟩ => by
    have k1 := gl_kb w1 hb hq
    have k2 := gl_kb w1 hb hq'
    rw [ha'] at k2
    omega)
  refine ⟨fun P hP p hp hpp => ?_, fun p w q hp hk hs hw hq hkq => ?_, hs2, ?_⟩
  · have hnF : ¬ gl_Fr n kb ar ST1 (n * n) (ar p) := fun ⟨q, hq, ha, hk, w, x, hw, hx, hkx, hsx⟩ => by
      have hPq : P q := hP.1 p q hp ((w1.2.1 _ _ hp hq).mp ha.symm) hpp
      have hPx := hP.2.2 q w x hq hk hPq hw hx hkx
      have := hfix1 P hP x (gb_nb_lt hq hw hx) hPx
      rw [hsx] at this
      exact absurd this (by decide)
    rw [(h2 _ (w1.1 p hp)).2 hnF]
    exact hfix1 P hP p hp hpp
  · have hqN := gb_nb_lt hp hw hq
    rw [hstr q hqN hkq]
    rcases hs1 _ (w1.1 q hqN) with e | e
    · exfalso
      have := (h2 _ (w1.1 p hp)).1 ⟨p, hp, rfl, hk, w, q, hw, hq, hkq, e⟩
      rw [this] at hs
      exact absurd hs (by decide)
    · exact e
  · obtain ⟨a, ha, hF⟩ := hfa
    have h0 : ∀ a', a' < c → ST1 a' = 0 → ST2 a' = 0 := fun a' ha' e => by
      by_cases hF' : gl_Fr n kb ar ST1 (n * n) a'
      · exact (h2 a' ha').1 hF'
      · rw [(h2 a' ha').2 hF']; exact e
    have := gb_cnt_strict (P := fun a => kb (o (s a)) = 1 ∧ ST a = 0) (P' := fun a => kb (o (s a)) = 1 ∧ ST2 a = 0) (x := a) (fun z => by rw [hF.1] at z; exact absurd z.2 (by decide)) ⟨hF.2.1, h0 a ha ((h1 a ha).1 hF)⟩ c ha (fun a' ha' hz => ⟨hz.1, h0 a' ha' (by
      have hnF : ¬ gl_Fa c kb o s BT ST a' := fun z => by have z1 := z.1; rw [hz.2] at z1; exact absurd z1 (by decide)
      rw [(h1 a' ha').2 hnF]; exact hz.2)⟩)
    omega
