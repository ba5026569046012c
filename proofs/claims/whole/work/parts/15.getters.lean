/-! Grid.neighbour and the small methods of Areas. -/
section GA
variable {l : Launch} {D : va_G} {H0 : Heap} {h : xa_H} {sz : Nat}
theorem c_Grid_neighbour {N g ar p w : Nat} {f : Nat → Int32} (hg : h g = some (.inr (3, [.int (nI N), .ref ar]))) (har : h ar = some (.inl (D.1 100, 4 * N, .inl f))) (hN : N < 1000) (hp : p < N) (hw : w < 4) :
    xa_M l D H0 M_Grid_neighbour 0 0 0 0 [.ref g, .int (nI p), .int (nI w)] h sz (fun v h' sz' => v = some (.int (f (4 * p + w))) ∧ h' = h ∧ sz' = sz) := by
  refine xa_enter (by decide) rfl rfl ?_
  refine xa_aload_n d_Grid_neighbour_0 rfl ?_
  refine xa_getf f_Grid_15 d_Grid_neighbour_1 (by assumption) (by rfl) ?_
  refine xa_iconst (v := nI 4) d_Grid_neighbour_4 rfl ?_
  refine xa_iload_n d_Grid_neighbour_5 rfl ?_
  refine xa_imulN d_Grid_neighbour_6 ?_
  refine xa_iload_n d_Grid_neighbour_7 rfl ?_
  refine xa_iaddN d_Grid_neighbour_8 ?_
  refine xa_ialdE d_Grid_neighbour_9 (by assumption) rfl (by omega) (by omega) (by rfl) ?_
  exact xa_ireturn d_Grid_neighbour_10 rfl (by omega) (by omega) ⟨rfl, rfl, rfl⟩
theorem c_Areas_areaAt {N a g aA aO aS p x : Nat} {c : Int32} {A : Nat → Int32} (ha : h a = some (.inr (1, [.int c, .ref g, .ref aA, .ref aO, .ref aS]))) (hA : h aA = some (.inl (D.1 100, N, .inl A))) (hN : N < 1000) (hp : p < N) (hx : A p = nI x) :
    xa_M l D H0 M_Areas_areaAt 0 0 0 0 [.ref a, .int (nI p)] h sz (fun v h' sz' => v = some (.int (nI x)) ∧ h' = h ∧ sz' = sz) := by
  refine xa_enter (by decide) rfl rfl ?_
  refine xa_aload_n d_Areas_areaAt_0 rfl ?_
  refine xa_getf f_Areas_21 d_Areas_areaAt_1 (by assumption) (by rfl) ?_
  refine xa_iload_n d_Areas_areaAt_4 rfl ?_
  refine xa_ialdE d_Areas_areaAt_5 hA rfl (hp) (by omega) (hx) ?_
  exact xa_ireturn d_Areas_areaAt_6 rfl (by omega) (by omega) ⟨rfl, rfl, rfl⟩
theorem c_Areas_sizeOf {N a g aA aO aS q : Nat} {c : Int32} {S : Nat → Int32} {s : Nat → Nat} (ha : h a = some (.inr (1, [.int c, .ref g, .ref aA, .ref aO, .ref aS]))) (hS : h aS = some (.inl (D.1 100, N + 1, .inl S))) (hN : N < 1000) (hq : q < N) (h1 : S q = nI (s q)) (h2 : S (q + 1) = nI (s (q + 1))) (hle : s q ≤ s (q + 1)) :
    xa_M l D H0 M_Areas_sizeOf 0 0 0 0 [.ref a, .int (nI q)] h sz (fun v h' sz' => v = some (.int (nI (s (q + 1) - s q))) ∧ h' = h ∧ sz' = sz) := by
  refine xa_enter (by decide) rfl rfl ?_
  refine xa_aload_n d_Areas_sizeOf_0 rfl ?_
  refine xa_getf f_Areas_28 d_Areas_sizeOf_1 (by assumption) (by rfl) ?_
  refine xa_iload_n d_Areas_sizeOf_4 rfl ?_
  refine xa_iconst (v := nI 1) d_Areas_sizeOf_5 rfl ?_
  refine xa_iaddN d_Areas_sizeOf_6 ?_
  refine xa_ialdE d_Areas_sizeOf_7 hS rfl (by omega) (by omega) (h2) ?_
  refine xa_aload_n d_Areas_sizeOf_8 rfl ?_
  refine xa_getf f_Areas_28 d_Areas_sizeOf_9 (by assumption) (by rfl) ?_
  refine xa_iload_n d_Areas_sizeOf_12 rfl ?_
  refine xa_ialdE d_Areas_sizeOf_13 hS rfl (by omega) (by omega) (h1) ?_
  refine xa_isubN d_Areas_sizeOf_14 (by omega) ?_
  exact xa_ireturn d_Areas_sizeOf_15 rfl (by omega) (by omega) ⟨rfl, rfl, rfl⟩
theorem c_Areas_leastOf {N a g aA aO aS q : Nat} {c : Int32} {O S : Nat → Int32} {o s : Nat → Nat} (ha : h a = some (.inr (1, [.int c, .ref g, .ref aA, .ref aO, .ref aS]))) (hO : h aO = some (.inl (D.1 100, N, .inl O))) (hS : h aS = some (.inl (D.1 100, N + 1, .inl S))) (hN : N < 1000) (hq : q < N) (h1 : S q = nI (s q)) (h2 : s q < N) (h3 : O (s q) = nI (o (s q))) :
    xa_M l D H0 M_Areas_leastOf 0 0 0 0 [.ref a, .int (nI q)] h sz (fun v h' sz' => v = some (.int (nI (o (s q)))) ∧ h' = h ∧ sz' = sz) := by
  refine xa_enter (by decide) rfl rfl ?_
  refine xa_aload_n d_Areas_leastOf_0 rfl ?_
  refine xa_getf f_Areas_25 d_Areas_leastOf_1 (by assumption) (by rfl) ?_
  refine xa_aload_n d_Areas_leastOf_4 rfl ?_
  refine xa_getf f_Areas_28 d_Areas_leastOf_5 (by assumption) (by rfl) ?_
  refine xa_iload_n d_Areas_leastOf_8 rfl ?_
  refine xa_ialdE d_Areas_leastOf_9 hS rfl (by omega) (by omega) (h1) ?_
  refine xa_ialdE d_Areas_leastOf_10 hO rfl (by omega) (by omega) (h3) ?_
  exact xa_ireturn d_Areas_leastOf_11 rfl (by omega) (by omega) ⟨rfl, rfl, rfl⟩
theorem c_Areas_pointOf {N a g aA aO aS q i : Nat} {c : Int32} {O S : Nat → Int32} {o s : Nat → Nat} (ha : h a = some (.inr (1, [.int c, .ref g, .ref aA, .ref aO, .ref aS]))) (hO : h aO = some (.inl (D.1 100, N, .inl O))) (hS : h aS = some (.inl (D.1 100, N + 1, .inl S))) (hN : N < 1000) (hq : q < N) (h1 : S q = nI (s q)) (h2 : s q + i < N) (h3 : O (s q + i) = nI (o (s q + i))) :
    xa_M l D H0 M_Areas_pointOf 0 0 0 0 [.ref a, .int (nI q), .int (nI i)] h sz (fun v h' sz' => v = some (.int (nI (o (s q + i)))) ∧ h' = h ∧ sz' = sz) := by
  refine xa_enter (by decide) rfl rfl ?_
  refine xa_aload_n d_Areas_pointOf_0 rfl ?_
  refine xa_getf f_Areas_25 d_Areas_pointOf_1 (by assumption) (by rfl) ?_
  refine xa_aload_n d_Areas_pointOf_4 rfl ?_
  refine xa_getf f_Areas_28 d_Areas_pointOf_5 (by assumption) (by rfl) ?_
  refine xa_iload_n d_Areas_pointOf_8 rfl ?_
  refine xa_ialdE d_Areas_pointOf_9 hS rfl (by omega) (by omega) (h1) ?_
  refine xa_iload_n d_Areas_pointOf_10 rfl ?_
  refine xa_iaddN d_Areas_pointOf_11 ?_
  refine xa_ialdE d_Areas_pointOf_12 hO rfl (by omega) (by omega) (h3) ?_
  exact xa_ireturn d_Areas_pointOf_13 rfl (by omega) (by omega) ⟨rfl, rfl, rfl⟩
end GA
