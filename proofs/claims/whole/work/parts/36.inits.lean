/-! Grid(), Areas(), Chart(), Trial(). -/
def xg_h (D : va_G) (h : xa_H) (g N : Nat) (f : Nat → Int32) : xa_H := xa_u (xa_u h g (.inr (3, [.int (nI N), .ref (g + 1)]))) (g + 1) (.inl (D.1 100, 4 * N, .inl f))
theorem xg_u (D : va_G) (h : xa_H) (g N : Nat) (f f' : Nat → Int32) : xa_u (xg_h D h g N f) (g + 1) (.inl (D.1 100, 4 * N, .inl f')) = xg_h D h g N f' := xa_uu _ _ _ _
def xg_I (n k : Nat) (f : Nat → Int32) : Prop := ∀ q w, q < k → w < 4 → f (4 * q + w) = gb_oi (gb_nb n q w)
theorem xg_I_add {n k : Nat} {f : Nat → Int32} (h : xg_I n k f) : xg_I n (k + 1) (upd (upd (upd (upd f (4 * k) (gb_oi (gb_nb n k 0))) (4 * k + 1) (gb_oi (gb_nb n k 1))) (4 * k + 2) (gb_oi (gb_nb n k 2))) (4 * k + 3) (gb_oi (gb_nb n k 3))) := by
  intro q w hq hw
  unfold upd
  by_cases hk : q = k
  · subst hk
    rcases (show w = 0 ∨ w = 1 ∨ w = 2 ∨ w = 3 by omega) with e | e | e | e <;> subst e
    · rw [if_neg (by omega), if_neg (by omega), if_neg (by omega), if_pos (by omega)]
    · rw [if_neg (by omega), if_neg (by omega), if_pos (by omega)]
    · rw [if_neg (by omega), if_pos (by omega)]
    · rw [if_pos (by omega)]
  · rw [if_neg (by omega), if_neg (by omega), if_neg (by omega), if_neg (by omega)]
    exact h q w (by omega) hw
section GI
variable {l : Launch} {D : va_G} {H0 : Heap} {h : xa_H} {sz : Nat} {R : Room} {Z : xa_Z} {k0 n0 : Nat}
theorem w_Grid_row {n g r : Nat} (hn : 2 ≤ n ∧ n ≤ 13) (hr : r < n) (c : Nat) (hc : c ≤ n) (f : Nat → Int32) (hI : xg_I n (n * r + c) f)
    (kk : ∀ (f : Nat → Int32) (ls : List (Nat × Value)), xg_I n (n * r + n) f → xa_lk ls 0 = some (.ref g) → xa_lk ls 1 = some (.int (nI n)) → xa_lk ls 2 = some (.int (nI r)) → xa_X l D H0 M_Grid_init R Z k0 n0 (xg_h D h g (n * n) f) sz 144 ls []) :
    xa_X l D H0 M_Grid_init R Z k0 n0 (xg_h D h g (n * n) f) sz 32 [(0, .ref g), (1, .int (nI n)), (2, .int (nI r)), (3, .int (nI c))] [] := by
  have hN : n * n ≤ 169 := Nat.mul_le_mul hn.2 hn.2
  have r0 : ∀ f, xg_h D h g (n * n) f g = some (.inr (3, [.int (nI (n * n)), .ref (g + 1)])) := fun f => xa_u_ne (xa_u_eq _ _ _) (by omega)
  have r1 : ∀ f, xg_h D h g (n * n) f (g + 1) = some (.inl (D.1 100, 4 * (n * n), .inl f)) := fun f => xa_u_eq _ _ _
  have r0' := r0 f
  refine xa_iload_n d_Grid_init_32 rfl ?_
  refine xa_iload_n d_Grid_init_33 rfl ?_
  refine xa_icmp_geN (tgt := 144) d_Grid_init_34 (by decide) (by omega) (by omega) (fun hb => ?_) (fun hb => ?_)
  · have hcn : c = n := by omega
    subst hcn
    exact kk f _ hI rfl rfl rfl
  · have hp := gb_lt hr hb
    obtain ⟨d1, d2⟩ := gb_dm (r := r) hb
    have e0 : gb_nb n (n * r + c) 0 = if 0 < r then some (n * r + c - n) else none := by unfold gb_nb; rw [if_pos rfl, d1]
    have e1 : gb_nb n (n * r + c) 1 = if 0 < c then some (n * r + c - 1) else none := by unfold gb_nb; rw [if_neg (by decide), if_pos rfl, d2]
    have e2 : gb_nb n (n * r + c) 2 = if c < n - 1 then some (n * r + c + 1) else none := by unfold gb_nb; rw [if_neg (by decide), if_neg (by decide), if_pos rfl, d2]
    have e3 : gb_nb n (n * r + c) 3 = if r < n - 1 then some (n * r + c + n) else none := by unfold gb_nb; rw [if_neg (by decide), if_neg (by decide), if_neg (by decide), d1]
    have hnr : 0 < r → n ≤ n * r := fun h0 => Nat.le_mul_of_pos_right n h0
    have hadd := xg_I_add hI
    have hk1 : n * r + (c + 1) = n * r + c + 1 := rfl
    generalize hpe : n * r + c = p at hp e0 e1 e2 e3 hadd
    have k3 : ∀ f, xg_I n (p + 1) (upd f (4 * p + 3) (gb_oi (gb_nb n p 3))) → xa_X l D H0 M_Grid_init R Z k0 n0 (xg_h D h g (n * n) f) sz 114 [(0, .ref g), (1, .int (nI n)), (2, .int (nI r)), (3, .int (nI c)), (4, .int (nI p)), (5, .int (nI (4 * p)))] [] := by
      intro f hf
      have r0' := r0 f
      have last : xa_X l D H0 M_Grid_init R Z k0 n0 (xg_h D h g (n * n) f) sz 137 [(0, .ref g), (1, .int (nI n)), (2, .int (nI r)), (3, .int (nI c)), (4, .int (nI p)), (5, .int (nI (4 * p)))] [.int (gb_oi (gb_nb n p 3)), .int (nI (4 * p + 3)), .ref (g + 1)] := by
        refine xa_iastE d_Grid_init_137 (r1 f) rfl (by omega) (by omega) ?_
        refine xa_heap (xg_u _ _ _ _ _ _) ?_
        refine xa_iincN d_Grid_init_138 rfl rfl rfl ?_
        refine xa_goto (tgt := 32) d_Grid_init_141 (by decide) ?_
        refine xa_ls ?_ (w_Grid_row hn hr (c + 1) (by omega) _ (by rw [hk1, hpe]; exact hf) kk)
        exact ⟨rfl, rfl, rfl, rfl, trivial⟩
      refine xa_aload_n d_Grid_init_114 rfl ?_
      refine xa_getf f_Grid_15 d_Grid_init_115 (by assumption) (by rfl) ?_
      refine xa_iload d_Grid_init_118 rfl ?_
      refine xa_iconst (v := nI 3) d_Grid_init_120 rfl ?_
      refine xa_iaddN d_Grid_init_121 ?_
      refine xa_iload_n d_Grid_init_122 rfl ?_
      refine xa_iload_n d_Grid_init_123 rfl ?_
      refine xa_iconst (v := nI 1) d_Grid_init_124 rfl ?_
      refine xa_isubN d_Grid_init_125 (by omega) ?_
      refine xa_icmp_geN (tgt := 136) d_Grid_init_126 (by decide) (by omega) (by omega) (fun hq => ?_) (fun hq => ?_)
      ·
        refine xa_iconst (v := -1) d_Grid_init_136 rfl ?_
        refine xa_int (y := gb_oi (gb_nb n p 3)) (by rw [e3, if_neg (by omega)]; rfl) ?_
        exact last
      ·
        refine xa_iload d_Grid_init_129 rfl ?_
        refine xa_iload_n d_Grid_init_131 rfl ?_
        refine xa_iaddN d_Grid_init_132 ?_
        refine xa_goto (tgt := 137) d_Grid_init_133 (by decide) ?_
        refine xa_int (y := gb_oi (gb_nb n p 3)) (by rw [e3, if_pos (by omega)]; rfl) ?_
        exact last
    have k2 : ∀ f, xg_I n (p + 1) (upd (upd f (4 * p + 2) (gb_oi (gb_nb n p 2))) (4 * p + 3) (gb_oi (gb_nb n p 3))) → xa_X l D H0 M_Grid_init R Z k0 n0 (xg_h D h g (n * n) f) sz 90 [(0, .ref g), (1, .int (nI n)), (2, .int (nI r)), (3, .int (nI c)), (4, .int (nI p)), (5, .int (nI (4 * p)))] [] := by
      intro f hf
      have r0' := r0 f
      have last : xa_X l D H0 M_Grid_init R Z k0 n0 (xg_h D h g (n * n) f) sz 113 [(0, .ref g), (1, .int (nI n)), (2, .int (nI r)), (3, .int (nI c)), (4, .int (nI p)), (5, .int (nI (4 * p)))] [.int (gb_oi (gb_nb n p 2)), .int (nI (4 * p + 2)), .ref (g + 1)] := by
        refine xa_iastE d_Grid_init_113 (r1 f) rfl (by omega) (by omega) ?_
        refine xa_heap (xg_u _ _ _ _ _ _) ?_
        exact k3 _ hf
      refine xa_aload_n d_Grid_init_90 rfl ?_
      refine xa_getf f_Grid_15 d_Grid_init_91 (by assumption) (by rfl) ?_
      refine xa_iload d_Grid_init_94 rfl ?_
      refine xa_iconst (v := nI 2) d_Grid_init_96 rfl ?_
      refine xa_iaddN d_Grid_init_97 ?_
      refine xa_iload_n d_Grid_init_98 rfl ?_
      refine xa_iload_n d_Grid_init_99 rfl ?_
      refine xa_iconst (v := nI 1) d_Grid_init_100 rfl ?_
      refine xa_isubN d_Grid_init_101 (by omega) ?_
      refine xa_icmp_geN (tgt := 112) d_Grid_init_102 (by decide) (by omega) (by omega) (fun hq => ?_) (fun hq => ?_)
      ·
        refine xa_iconst (v := -1) d_Grid_init_112 rfl ?_
        refine xa_int (y := gb_oi (gb_nb n p 2)) (by rw [e2, if_neg (by omega)]; rfl) ?_
        exact last
      ·
        refine xa_iload d_Grid_init_105 rfl ?_
        refine xa_iconst (v := nI 1) d_Grid_init_107 rfl ?_
        refine xa_iaddN d_Grid_init_108 ?_
        refine xa_goto (tgt := 113) d_Grid_init_109 (by decide) ?_
        refine xa_int (y := gb_oi (gb_nb n p 2)) (by rw [e2, if_pos (by omega)]; rfl) ?_
        exact last
    have k1 : ∀ f, xg_I n (p + 1) (upd (upd (upd f (4 * p + 1) (gb_oi (gb_nb n p 1))) (4 * p + 2) (gb_oi (gb_nb n p 2))) (4 * p + 3) (gb_oi (gb_nb n p 3))) → xa_X l D H0 M_Grid_init R Z k0 n0 (xg_h D h g (n * n) f) sz 69 [(0, .ref g), (1, .int (nI n)), (2, .int (nI r)), (3, .int (nI c)), (4, .int (nI p)), (5, .int (nI (4 * p)))] [] := by
      intro f hf
      have r0' := r0 f
      have last : xa_X l D H0 M_Grid_init R Z k0 n0 (xg_h D h g (n * n) f) sz 89 [(0, .ref g), (1, .int (nI n)), (2, .int (nI r)), (3, .int (nI c)), (4, .int (nI p)), (5, .int (nI (4 * p)))] [.int (gb_oi (gb_nb n p 1)), .int (nI (4 * p + 1)), .ref (g + 1)] := by
        refine xa_iastE d_Grid_init_89 (r1 f) rfl (by omega) (by omega) ?_
        refine xa_heap (xg_u _ _ _ _ _ _) ?_
        exact k2 _ hf
      refine xa_aload_n d_Grid_init_69 rfl ?_
      refine xa_getf f_Grid_15 d_Grid_init_70 (by assumption) (by rfl) ?_
      refine xa_iload d_Grid_init_73 rfl ?_
      refine xa_iconst (v := nI 1) d_Grid_init_75 rfl ?_
      refine xa_iaddN d_Grid_init_76 ?_
      refine xa_iload_n d_Grid_init_77 rfl ?_
      refine xa_if_leN (tgt := 88) d_Grid_init_78 (by decide) (by omega) (fun hq => ?_) (fun hq => ?_)
      ·
        refine xa_iconst (v := -1) d_Grid_init_88 rfl ?_
        refine xa_int (y := gb_oi (gb_nb n p 1)) (by rw [e1, if_neg (by omega)]; rfl) ?_
        exact last
      ·
        refine xa_iload d_Grid_init_81 rfl ?_
        refine xa_iconst (v := nI 1) d_Grid_init_83 rfl ?_
        refine xa_isubN d_Grid_init_84 (by omega) ?_
        refine xa_goto (tgt := 89) d_Grid_init_85 (by decide) ?_
        refine xa_int (y := gb_oi (gb_nb n p 1)) (by rw [e1, if_pos (by omega)]; rfl) ?_
        exact last
    have last : xa_X l D H0 M_Grid_init R Z k0 n0 (xg_h D h g (n * n) f) sz 68 [(0, .ref g), (1, .int (nI n)), (2, .int (nI r)), (3, .int (nI c)), (4, .int (nI p)), (5, .int (nI (4 * p)))] [.int (gb_oi (gb_nb n p 0)), .int (nI (4 * p)), .ref (g + 1)] := by
      refine xa_iastE d_Grid_init_68 (r1 f) rfl (by omega) (by omega) ?_
      refine xa_heap (xg_u _ _ _ _ _ _) ?_
      exact k1 _ hadd
    refine xa_iload_n d_Grid_init_37 rfl ?_
    refine xa_iload_n d_Grid_init_38 rfl ?_
    refine xa_imulN d_Grid_init_39 ?_
    refine xa_iload_n d_Grid_init_40 rfl ?_
    refine xa_iaddN d_Grid_init_41 ?_
    rw [hpe]
    refine xa_istore d_Grid_init_42 rfl rfl ?_
    refine xa_iconst (v := nI 4) d_Grid_init_44 rfl ?_
    refine xa_iload d_Grid_init_45 rfl ?_
    refine xa_imulN d_Grid_init_47 ?_
    refine xa_istore d_Grid_init_48 rfl rfl ?_
    refine xa_aload_n d_Grid_init_50 rfl ?_
    refine xa_getf f_Grid_15 d_Grid_init_51 (by assumption) (by rfl) ?_
    refine xa_iload d_Grid_init_54 rfl ?_
    refine xa_iload_n d_Grid_init_56 rfl ?_
    refine xa_if_leN (tgt := 67) d_Grid_init_57 (by decide) (by omega) (fun hq => ?_) (fun hq => ?_)
    ·
      refine xa_iconst (v := -1) d_Grid_init_67 rfl ?_
      refine xa_int (y := gb_oi (gb_nb n p 0)) (by rw [e0, if_neg (by omega)]; rfl) ?_
      exact last
    ·
      refine xa_iload d_Grid_init_60 rfl ?_
      refine xa_iload_n d_Grid_init_62 rfl ?_
      refine xa_isubN d_Grid_init_63 (by have := hnr hq; omega) ?_
      refine xa_goto (tgt := 68) d_Grid_init_64 (by decide) ?_
      refine xa_int (y := gb_oi (gb_nb n p 0)) (by rw [e0, if_pos (by omega)]; rfl) ?_
      exact last
termination_by n - c
decreasing_by omega
theorem w_Grid_init {n g : Nat} (hn : 2 ≤ n ∧ n ≤ 13) (r : Nat) (hr : r ≤ n) (f : Nat → Int32) (hI : xg_I n (n * r) f) :
    xa_X l D H0 M_Grid_init R (xa_Zr D H0 1 676 (fun v h' sz' => ∃ f, (∀ q w, q < n * n → w < 4 → f (4 * q + w) = gb_oi (gb_nb n q w)) ∧ v = none ∧ h' = xg_h D h g (n * n) f ∧ sz' = sz)) 1 (4 * (n * n)) (xg_h D h g (n * n) f) sz 25 [(0, .ref g), (1, .int (nI n)), (2, .int (nI r))] [] := by
  have hN : n * n ≤ 169 := Nat.mul_le_mul hn.2 hn.2
  refine xa_iload_n d_Grid_init_25 rfl ?_
  refine xa_iload_n d_Grid_init_26 rfl ?_
  refine xa_icmp_geN (tgt := 150) d_Grid_init_27 (by decide) (by omega) (by omega) (fun hb => ?_) (fun hb => ?_)
  · have hrn : r = n := by omega
    subst hrn
    exact xa_return d_Grid_init_150 rfl (by omega) (by omega) ⟨f, hI, rfl, rfl, rfl⟩
  ·
    refine xa_iconst (v := nI 0) d_Grid_init_30 rfl ?_
    refine xa_istore_n d_Grid_init_31 rfl rfl ?_
    refine xa_ls ?_ (w_Grid_row hn hb 0 (by omega) f hI (fun f' ls hf h0 h1 h2 => ?_))
    · exact ⟨rfl, rfl, rfl, rfl, trivial⟩
    · refine xa_ls (ls' := [(0, .ref g), (1, .int (nI n)), (2, .int (nI r))]) ⟨h0, h1, h2, trivial⟩ ?_
      refine xa_iincN d_Grid_init_144 rfl rfl rfl ?_
      refine xa_goto (tgt := 25) d_Grid_init_147 (by decide) ?_
      exact w_Grid_init hn (r + 1) (by omega) f' (by rw [Nat.mul_add, Nat.mul_one]; exact hf)
termination_by n - r
decreasing_by omega
theorem c_Grid_init {n g : Nat} (hn : 2 ≤ n ∧ n ≤ 13) (hg : h g = some (.inr (3, [.int 0, .null]))) (hs : sz = g + 1) :
    xa_M l D H0 M_Grid_init 1 20 1 676 [.ref g, .int (nI n)] h sz (fun v h' sz' => ∃ f, (∀ q w, q < n * n → w < 4 → f (4 * q + w) = gb_oi (gb_nb n q w)) ∧ v = none ∧ h' = xg_h D h g (n * n) f ∧ sz' = sz + 1) := by
  have hN : n * n ≤ 169 := Nat.mul_le_mul hn.2 hn.2
  refine xa_enter (by decide) rfl rfl ?_
  subst hs
  refine xa_aload_n d_Grid_init_0 rfl ?_
  refine xa_objInit k_Grid_3 w_oi w_oc d_Grid_init_1 (by decide) (by decide) ?_
  refine xa_aload_n d_Grid_init_4 rfl ?_
  refine xa_iload_n d_Grid_init_5 rfl ?_
  refine xa_iload_n d_Grid_init_6 rfl ?_
  refine xa_imulN d_Grid_init_7 ?_
  refine xa_putF f_Grid_9 rfl (fun q hq => by cases hq; rfl) d_Grid_init_8 hg (Nat.le_of_ble_eq_true rfl) rfl rfl ?_
  have e1 : xa_u h g (.inr (3, [.int (nI (n * n)), .null])) g = some (.inr (3, [.int (nI (n * n)), .null])) := xa_u_eq _ _ _
  refine xa_heap (h' := xa_u h g (.inr (3, [.int (nI (n * n)), .null]))) rfl ?_
  refine xa_aload_n d_Grid_init_11 rfl ?_
  refine xa_iconst (v := nI 4) d_Grid_init_12 rfl ?_
  refine xa_aload_n d_Grid_init_13 rfl ?_
  refine xa_getf f_Grid_9 d_Grid_init_14 (by assumption) (by rfl) ?_
  refine xa_imulN d_Grid_init_17 ?_
  refine xa_newI (N := 4 * (n * n)) d_Grid_init_18 rfl (by omega) (Nat.le_of_ble_eq_true rfl) (show 0 + 4 * (n * n) ≤ 676 by omega) ?_
  refine xa_putF f_Grid_15 rfl (fun q hq => by cases hq; rfl) d_Grid_init_20 (xa_u_ne e1 (by omega)) (Nat.le_of_ble_eq_true rfl) rfl rfl ?_
  refine xa_iconst (v := nI 0) d_Grid_init_23 rfl ?_
  refine xa_istore_n d_Grid_init_24 rfl rfl ?_
  refine xa_heap (h' := xg_h D h g (n * n) (fun _ => 0)) ?_ ?_
  · unfold xg_h
    show xa_u (xa_u (xa_u h g _) (g + 1) _) g _ = _
    rw [xa_uc _ (by omega)]
    rfl
  · rw [Nat.zero_add, Nat.zero_add]
    refine xa_ls ?_ (w_Grid_init hn 0 (by omega) _ (fun q w hq => absurd hq (by rw [Nat.mul_zero]; omega)))
    exact ⟨rfl, rfl, rfl, trivial⟩
end GI
