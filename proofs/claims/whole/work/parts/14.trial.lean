/-! Breaths, and what a move does (pure part). -/
/-- q is a breath of the string at p -/
def gt_br (n : Nat) (b : Nat → Int32) (p q : Nat) : Prop := q < n * n ∧ b q = 0 ∧ ∃ w x, w < 4 ∧ gb_nb n q w = some x ∧ gb_conn n b p x
theorem gt_br_of {n : Nat} {b : Nat → Int32} {p x w q : Nat} (hp : p < n * n) (h : gb_conn n b p x) (hw : w < 4) (hq : gb_nb n x w = some q) (h0 : b q = 0) : gt_br n b p q := by
  have hx := gb_conn_lt hp h
  obtain ⟨h1, h2⟩ := gb_nb_sym hx hw hq
  exact ⟨h1, h0, 3 - w, x, by omega, h2, h⟩
/-- two boards that differ only where neither has the string's kind: the string is the same -/
theorem gt_conn_eq {n : Nat} {b t : Nat → Int32} {p x : Nat} (hd : ∀ q, q ≠ p → t q = b q) (hb : b p ≠ b x) (ht : t p ≠ b x) (q : Nat) : gb_conn n b x q ↔ gb_conn n t x q := by
  have hxp : x ≠ p := fun z => hb (by rw [z])
  constructor
  · intro h
    have k : gb_conn n b x q ∧ gb_conn n t x q := h (fun y => gb_conn n b x y ∧ gb_conn n t x y) ⟨gb_conn_rf, gb_conn_rf⟩ (fun a w c ha hw hc hk => by
      have ka : b a = b x := gb_conn_k ha.1
      have hap : a ≠ p := fun z => hb (by rw [← z]; exact ka)
      have hcp : c ≠ p := fun z => hb (by rw [← z, hk]; exact ka)
      exact ⟨gb_conn_st ha.1 hw hc hk, gb_conn_st ha.2 hw hc (by rw [hd c hcp, hd a hap]; exact hk)⟩)
    exact k.2
  · intro h
    have k : gb_conn n t x q ∧ gb_conn n b x q := h (fun y => gb_conn n t x y ∧ gb_conn n b x y) ⟨gb_conn_rf, gb_conn_rf⟩ (fun a w c ha hw hc hk => by
      have ka : t a = b x := (gb_conn_k ha.1).trans (hd x hxp)
      have hap : a ≠ p := fun z => ht (by rw [← z]; exact ka)
      have hcp : c ≠ p := fun z => ht (by rw [← z, hk]; exact ka)
      exact ⟨gb_conn_st ha.1 hw hc hk, gb_conn_st ha.2 hw hc (by rw [← hd c hcp, ← hd a hap]; exact hk)⟩)
    exact k.2
/-- a stone of another kind at p takes p, and nothing else, from a string's breaths -/
theorem gt_br_put {n : Nat} {b t : Nat → Int32} {p x : Nat} (hd : ∀ q, q ≠ p → t q = b q) (hb : b p ≠ b x) (ht : t p ≠ b x) (ht0 : t p ≠ 0) (q : Nat) : gt_br n t x q ↔ gt_br n b x q ∧ q ≠ p := by
  constructor
  · rintro ⟨h1, h2, w, y, hw, hy, hc⟩
    have hqp : q ≠ p := fun z => ht0 (by rw [← z]; exact h2)
    exact ⟨⟨h1, by rw [← hd q hqp]; exact h2, w, y, hw, hy, (gt_conn_eq hd hb ht y).mpr hc⟩, hqp⟩
  · rintro ⟨⟨h1, h2, w, y, hw, hy, hc⟩, hqp⟩
    exact ⟨h1, by rw [hd q hqp]; exact h2, w, y, hw, hy, (gt_conn_eq hd hb ht y).mp hc⟩
/-- so it has none left just if p was its last -/
theorem gt_last {n : Nat} {b t : Nat → Int32} {p x w : Nat} (hp : p < n * n) (hw : w < 4) (hx : gb_nb n p w = some x) (h0 : b p = 0) (hd : ∀ q, q ≠ p → t q = b q) (hbx : b x ≠ 0) (ht : t p ≠ b x) (ht0 : t p ≠ 0) : gb_cnt (gt_br n b x) (n * n) = gb_cnt (gt_br n t x) (n * n) + 1 := by
  have hb : b p ≠ b x := by rw [h0]; exact fun z => hbx z.symm
  refine gb_cnt_add (x := p) (fun z => ((gt_br_put hd hb ht ht0 p).mp z).2 rfl) (fun q => ?_) (n * n) hp
  constructor
  · intro h
    by_cases hqp : q = p
    · exact Or.inr hqp
    · exact Or.inl ((gt_br_put hd hb ht ht0 q).mpr ⟨h, hqp⟩)
  · intro h
    rcases h with h | h
    · exact ((gt_br_put hd hb ht ht0 q).mp h).1
    · rw [h]; exact ⟨hp, h0, w, x, hw, hx, gb_conn_rf⟩
/-- what hangs together with the stone that was put at p: it, and the strings of its side beside it -/
theorem gt_own {n : Nat} {b t : Nat → Int32} {p : Nat} (hp : p < n * n) (h0 : b p = 0) (hd : ∀ q, q ≠ p → t q = b q) (ht0 : t p ≠ 0) (q : Nat) : gb_conn n t p q ↔ q = p ∨ ∃ w x, w < 4 ∧ gb_nb n p w = some x ∧ b x = t p ∧ gb_conn n b x q := by
  have hne : ∀ x, b x = t p → x ≠ p := fun x hx z => ht0 (by rw [← hx, z]; exact h0)
  constructor
  · intro h
    have k : gb_conn n t p q ∧ (q = p ∨ ∃ w x, w < 4 ∧ gb_nb n p w = some x ∧ b x = t p ∧ gb_conn n b x q) := h (fun y => gb_conn n t p y ∧ (y = p ∨ ∃ w x, w < 4 ∧ gb_nb n p w = some x ∧ b x = t p ∧ gb_conn n b x y)) ⟨gb_conn_rf, Or.inl rfl⟩ (fun a w c ha hw hc hk => by
      have ka : t a = t p := gb_conn_k ha.1
      refine ⟨gb_conn_st ha.1 hw hc hk, ?_⟩
      by_cases hcp : c = p
      · exact Or.inl hcp
      · have hbc : b c = t p := by rw [← hd c hcp, hk]; exact ka
        rcases ha.2 with hap | ⟨v, x, hv, hx, hbx, hxa⟩
        · subst hap
          exact Or.inr ⟨w, c, hw, hc, hbc, gb_conn_rf⟩
        · refine Or.inr ⟨v, x, hv, hx, hbx, gb_conn_st hxa hw hc ?_⟩
          rw [hbc, ← hbx]; exact (gb_conn_k hxa).symm)
    exact k.2
  · intro h
    rcases h with h | ⟨w, x, hw, hx, hbx, hxq⟩
    · rw [h]; exact gb_conn_rf
    · have hxp := hne x hbx
      have h1 : gb_conn n t p x := gb_conn_st gb_conn_rf hw hx (by rw [hd x hxp]; exact hbx)
      refine gb_conn_tr h1 ?_
      have k : gb_conn n b x q ∧ gb_conn n t x q := hxq (fun y => gb_conn n b x y ∧ gb_conn n t x y) ⟨gb_conn_rf, gb_conn_rf⟩ (fun a v c ha hv hc hk => by
        have ka : b a = b x := gb_conn_k ha.1
        have hap := hne a (ka.trans hbx)
        have hcp := hne c ((hk.trans ka).trans hbx)
        exact ⟨gb_conn_st ha.1 hv hc hk, gb_conn_st ha.2 hv hc (by rw [hd c hcp, hd a hap]; exact hk)⟩)
      exact k.2
/-- it has a breath just if a free point is beside p, or a string of its side beside p has another breath than p -/
theorem gt_own_br {n : Nat} {b t : Nat → Int32} {p : Nat} (hp : p < n * n) (h0 : b p = 0) (hd : ∀ q, q ≠ p → t q = b q) (ht0 : t p ≠ 0) (q : Nat) : gt_br n t p q ↔ (q < n * n ∧ q ≠ p ∧ b q = 0 ∧ ∃ w, w < 4 ∧ gb_nb n p w = some q) ∨ ∃ w x, w < 4 ∧ gb_nb n p w = some x ∧ b x = t p ∧ gt_br n b x q ∧ q ≠ p := by
  constructor
  · rintro ⟨h1, h2, w, y, hw, hy, hc⟩
    have hqp : q ≠ p := fun z => ht0 (by rw [← z]; exact h2)
    have hbq : b q = 0 := by rw [← hd q hqp]; exact h2
    rcases (gt_own hp h0 hd ht0 y).mp hc with h | ⟨v, x, hv, hx, hbx, hxy⟩
    · subst h
      obtain ⟨-, hs⟩ := gb_nb_sym h1 hw hy
      exact Or.inl ⟨h1, hqp, hbq, 3 - w, by omega, hs⟩
    · exact Or.inr ⟨v, x, hv, hx, hbx, ⟨h1, hbq, w, y, hw, hy, hxy⟩, hqp⟩
  · intro h
    rcases h with ⟨h1, hqp, hbq, w, hw, hq⟩ | ⟨v, x, hv, hx, hbx, ⟨h1, hbq, w, y, hw, hy, hxy⟩, hqp⟩
    · obtain ⟨-, hs⟩ := gb_nb_sym hp hw hq
      exact ⟨h1, by rw [hd q hqp]; exact hbq, 3 - w, p, by omega, hs, gb_conn_rf⟩
    · exact ⟨h1, by rw [hd q hqp]; exact hbq, w, y, hw, hy, (gt_own hp h0 hd ht0 y).mpr (Or.inr ⟨v, x, hv, hx, hbx, hxy⟩)⟩
