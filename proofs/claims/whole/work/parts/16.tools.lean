/-! Heaps that are written: laws of xa_u; cells that look alike; Arrays.fill. -/
theorem xa_uu (h : xa_H) (a : Nat) (e1 e2 : va_E) : xa_u (xa_u h a e1) a e2 = xa_u h a e2 := by
  funext q
  by_cases hq : q = a <;> simp [xa_u, hq]
theorem xa_uc (h : xa_H) {a b : Nat} (hab : a ≠ b) (e1 e2 e3 : va_E) : xa_u (xa_u (xa_u h a e1) b e2) a e3 = xa_u (xa_u h a e3) b e2 := by
  funext q
  by_cases hq : q = a
  · subst hq
    simp [xa_u, hab]
  · have hba : ¬ b = a := fun z => hab z.symm
    by_cases hqb : q = b <;> simp [xa_u, hq, hqb, hba]
theorem xa_us (h : xa_H) {a : Nat} {e : va_E} (ha : h a = some e) : xa_u h a e = h := by
  funext q
  by_cases hq : q = a
  · subst hq
    simp [xa_u, ha]
  · simp [xa_u, hq]
theorem xa_cell_i {cA : ClassId} {N : Nat} {f g : Nat → Int32} (he : ∀ j, j < N → f j = g j) : vp_cell cA (N, .inl f) = vp_cell cA (N, .inl g) := by
  rw [vp_cell_i, vp_cell_i]
  unfold arrV
  congr 2
  funext j
  show Value.int (f j.val) = Value.int (g j.val)
  rw [he j.val j.isLt]
theorem xa_P.alike {D : va_G} {H0 : Heap} {h h' : xa_H} {sz : Nat} {H : Heap} (hP : xa_P D H0 h sz H) (he : ∀ (a : Nat) (e : va_E), h' a = some e → ∃ e0, h a = some e0 ∧ (va_at D xa_cl (a, e0) H → va_at D xa_cl (a, e) H)) : xa_P D H0 h' sz H := by
  refine ⟨hP.1, hP.2.1, hP.2.2.1, fun a e ha => ?_⟩
  obtain ⟨e0, h0, hv⟩ := he a e ha
  exact ⟨(hP.2.2.2 a e0 h0).1, hv (hP.2.2.2 a e0 h0).2⟩
section XO
variable {l : Launch} {D : va_G} {H0 : Heap} {μ : xa_Mu} {R : Room} {Z : xa_Z} {k n : Nat} {h : xa_H} {sz pc : Nat} {ls : List (Nat × Value)} {st : List Value}
/-- a cell's numbers count only below its length -/
theorem xa_cellI {a N : Nat} {cA : ClassId} {f g : Nat → Int32} (he : ∀ j, j < N → f j = g j) (kk : xa_X l D H0 μ R Z k n (xa_u h a (.inl (cA, N, .inl g))) sz pc ls st) : xa_X l D H0 μ R Z k n (xa_u h a (.inl (cA, N, .inl f))) sz pc ls st := by
  intro p e s m args below meth c H locs la C hP hL hl
  refine kk p e s m args below meth c H locs la C (hP.alike fun b e' hb => ?_) hL hl
  unfold xa_u at hb ⊢
  by_cases hq : b = a
  · rw [if_pos hq] at hb ⊢
    cases hb
    refine ⟨_, rfl, fun hv => ?_⟩
    have hv' : H[b]? = some (vp_cell cA (N, .inl f)) := hv
    show H[b]? = some (vp_cell cA (N, .inl g))
    rw [← xa_cell_i he]
    exact hv'
  · rw [if_neg hq] at hb ⊢
    exact ⟨e', hb, fun hv => hv⟩
end XO
section AF
variable {l : Launch} {D : va_G} {H0 : Heap} {h : xa_H} {sz : Nat}
theorem w_Arrays_fill {N a : Nat} {f : Nat → Int32} {x : Int32} {R : Room} (hN : N < 2 ^ 31) (i : Nat) (hi : i ≤ N) : xa_X l D H0 M_Arrays_fill R (xa_Zr D H0 0 0 (fun v h' sz' => v = none ∧ h' = xa_u h a (.inl (D.1 100, N, .inl (fun _ => x))) ∧ sz' = sz)) 0 0 (xa_u h a (.inl (D.1 100, N, .inl (fun j => if j < i then x else f j)))) sz 5 [(0, .ref a), (1, .int x), (3, .int (nI N)), (2, .int (nI i))] [] := by
  refine xa_iload_n d_Arrays_fill_5 rfl ?_
  refine xa_iload_n d_Arrays_fill_6 rfl ?_
  refine xa_icmp_geN (tgt := 20) d_Arrays_fill_7 (by decide) (by omega) (by omega) (fun hb => ?_) (fun hb => ?_)
  · refine xa_cellI (g := fun _ => x) (fun j hj => if_pos (by omega)) ?_
    exact xa_return d_Arrays_fill_20 rfl (by omega) (by omega) ⟨rfl, rfl, rfl⟩
  ·
    refine xa_aload_n d_Arrays_fill_10 rfl ?_
    refine xa_iload_n d_Arrays_fill_11 rfl ?_
    refine xa_iload_n d_Arrays_fill_12 rfl ?_
    refine xa_iastE d_Arrays_fill_13 (xa_u_eq _ _ _) rfl hb hN ?_
    refine xa_iincN d_Arrays_fill_14 rfl rfl rfl ?_
    refine xa_goto (tgt := 5) d_Arrays_fill_17 (by decide) ?_
    rw [xa_uu]
    refine xa_cellI (g := fun j => if j < i + 1 then x else f j) (fun j hj => ?_) ?_
    · show (if j = i then x else if j < i then x else f j) = if j < i + 1 then x else f j
      by_cases h1 : j = i
      · rw [if_pos h1, if_pos (by omega)]
      · rw [if_neg h1]
        by_cases h2 : j < i
        · rw [if_pos h2, if_pos (by omega)]
        · rw [if_neg h2, if_neg (by omega)]
    refine xa_ls ?_ (w_Arrays_fill hN (i + 1) (by omega))
    exact ⟨rfl, rfl, rfl, rfl, trivial⟩
termination_by N - i
decreasing_by omega
theorem c_Arrays_fill {N a : Nat} {f : Nat → Int32} {x : Int32} (ha : h a = some (.inl (D.1 100, N, .inl f))) (hN : N < 2 ^ 31) :
    xa_M l D H0 M_Arrays_fill 0 0 0 0 [.ref a, .int x] h sz (fun v h' sz' => v = none ∧ h' = xa_u h a (.inl (D.1 100, N, .inl (fun _ => x))) ∧ sz' = sz) := by
  refine xa_enter (by decide) rfl rfl ?_
  refine xa_iconst (v := nI 0) d_Arrays_fill_0 rfl ?_
  refine xa_istore_n d_Arrays_fill_1 rfl rfl ?_
  refine xa_aload_n d_Arrays_fill_2 rfl ?_
  refine xa_alen (t0 := 0) rfl d_Arrays_fill_3 (by assumption) (by rfl) ?_
  refine xa_istore_n d_Arrays_fill_4 rfl rfl ?_
  refine xa_ls (ls' := [(0, .ref a), (1, .int x), (3, .int (nI N)), (2, .int (nI 0))]) ⟨rfl, rfl, rfl, rfl, trivial⟩ ?_
  refine xa_heap (xa_us h ha).symm ?_
  refine xa_cellI (g := fun j => if j < 0 then x else f j) (fun j hj => (if_neg (by omega)).symm) ?_
  exact w_Arrays_fill hN 0 (by omega)
end AF
