/-! Areas.spread as a whole, and Areas.split. -/
section SQ
variable {l : Launch} {D : va_G} {H0 : Heap} {h : xa_H} {sz : Nat} {R : Room}
theorem w_spread_out {n a g ar aA aO aS aK b p c : Nat} {f K A0 O0 : Nat → Int32} {o : Nat → Nat} (hR : 1 ≤ R.frames ∧ 22 ≤ R.locals)
    (ha : h a = some (.inr (1, [.int (nI c), .ref g, .ref aA, .ref aO, .ref aS]))) (hg : h g = some (.inr (3, [.int (nI (n * n)), .ref ar]))) (har : h ar = some (.inl (D.1 100, 4 * (n * n), .inl f))) (hK : h aK = some (.inl (D.1 100, n * n, .inl K)))
    (hne : aA ≠ aO ∧ a ≠ aA ∧ a ≠ aO ∧ g ≠ aA ∧ g ≠ aO ∧ ar ≠ aA ∧ ar ≠ aO ∧ aK ≠ aA ∧ aK ≠ aO) (hN : n * n < 1000) (hf : ∀ q w, q < n * n → w < 4 → f (4 * q + w) = gb_oi (gb_nb n q w)) (hc : c < 1000) (hp : gs_pre n K A0 o b p)
    (x : Nat) (V : Nat → Prop) (r : Nat → Nat) (e : Nat) (A O : Nat → Int32) (hI : gs_in n K A0 O0 b p c V r e A O) (hF : gb_FC n K V r x 0) (hx : x ≤ e) (he : b + e ≤ n * n) :
    xa_X l D H0 M_Areas_spread R (xa_Zr D H0 0 0 (fun v h' sz' => ∃ (r : Nat → Nat) (e : Nat) (A O : Nat → Int32), gs_out n K A0 O0 b p c r e A O ∧ b + e ≤ n * n ∧ v = some (.int (nI (b + e))) ∧ h' = xs_h D h aA aO (n * n) A O ∧ sz' = sz)) 0 0 (xs_h D h aA aO (n * n) A O) sz 25 [(0, .ref a), (1, .int (nI p)), (2, .int (nI b)), (3, .ref aK), (4, .int (nI (b + e))), (5, .int (nI (b + x)))] [] := by
  have ha' : xs_h D h aA aO (n * n) A O a = some (.inr (1, [.int (nI c), .ref g, .ref aA, .ref aO, .ref aS])) := xs_hn ha (by omega) (by omega)
  have hg' : xs_h D h aA aO (n * n) A O g = some (.inr (3, [.int (nI (n * n)), .ref ar])) := xs_hn hg (by omega) (by omega)
  have hend : x = e → xa_X l D H0 M_Areas_spread R (xa_Zr D H0 0 0 (fun v h' sz' => ∃ (r : Nat → Nat) (e : Nat) (A O : Nat → Int32), gs_out n K A0 O0 b p c r e A O ∧ b + e ≤ n * n ∧ v = some (.int (nI (b + e))) ∧ h' = xs_h D h aA aO (n * n) A O ∧ sz' = sz)) 0 0 (xs_h D h aA aO (n * n) A O) sz 133 [(0, .ref a), (1, .int (nI p)), (2, .int (nI b)), (3, .ref aK), (4, .int (nI (b + e))), (5, .int (nI (b + x)))] [] := by
    intro hxe
    rw [hxe] at hF
    refine xa_iload d_Areas_spread_133 rfl ?_
    exact xa_ireturn d_Areas_spread_135 rfl (by omega) (by omega) ⟨r, e, A, O, gs_end hI hF, he, rfl, rfl, rfl⟩
  refine xa_iload d_Areas_spread_25 rfl ?_
  refine xa_iload d_Areas_spread_27 rfl ?_
  refine xa_icmp_geN (tgt := 133) d_Areas_spread_29 (by decide) (by omega) (by omega) (fun hb => ?_) (fun hb => ?_)
  · exact hend (by omega)
  ·
    refine xa_iload d_Areas_spread_32 rfl ?_
    refine xa_aload_n d_Areas_spread_34 rfl ?_
    refine xa_getf f_Areas_9 d_Areas_spread_35 (by assumption) (by rfl) ?_
    refine xa_getf f_Areas_15 d_Areas_spread_38 (by assumption) (by rfl) ?_
    refine xa_icmp_geN (tgt := 133) d_Areas_spread_41 (by decide) (by omega) (by omega) (fun hb2 => ?_) (fun hb2 => ?_)
    · omega
    ·
      refine xa_iconst (v := nI 0) d_Areas_spread_44 rfl ?_
      refine xa_istore d_Areas_spread_45 rfl rfl ?_
      refine xa_ls ?_ (w_spread_in hR ha hg har hK hne hN hf hc hp (fun V' r' e' A' O' hI' hF' hx' he' => ?_) 0 V r e A O (by omega) hI hF (by omega) he)
      · exact ⟨rfl, rfl, rfl, rfl, rfl, rfl, rfl, trivial⟩
      ·
        refine xa_iincN d_Areas_spread_127 rfl rfl rfl ?_
        refine xa_goto (tgt := 25) d_Areas_spread_130 (by decide) ?_
        refine xa_ls ?_ (w_spread_out hR ha hg har hK hne hN hf hc hp (x + 1) V' r' e' A' O' hI' (gb_FC_next hF') (by omega) he')
        exact ⟨rfl, rfl, rfl, rfl, rfl, rfl, trivial⟩
termination_by n * n - (b + x)
decreasing_by omega
theorem c_Areas_spread {n a g ar aA aO aS aK b p c : Nat} {f K A0 O0 : Nat → Int32} {o : Nat → Nat}
    (ha : h a = some (.inr (1, [.int (nI c), .ref g, .ref aA, .ref aO, .ref aS]))) (hg : h g = some (.inr (3, [.int (nI (n * n)), .ref ar]))) (har : h ar = some (.inl (D.1 100, 4 * (n * n), .inl f))) (hK : h aK = some (.inl (D.1 100, n * n, .inl K))) (hA : h aA = some (.inl (D.1 100, n * n, .inl A0))) (hO : h aO = some (.inl (D.1 100, n * n, .inl O0)))
    (hne : aA ≠ aO ∧ a ≠ aA ∧ a ≠ aO ∧ g ≠ aA ∧ g ≠ aO ∧ ar ≠ aA ∧ ar ≠ aO ∧ aK ≠ aA ∧ aK ≠ aO) (hN : n * n < 1000) (hf : ∀ q w, q < n * n → w < 4 → f (4 * q + w) = gb_oi (gb_nb n q w)) (hc : c < 1000) (hp : gs_pre n K A0 o b p) :
    xa_M l D H0 M_Areas_spread 1 22 0 0 [.ref a, .int (nI p), .int (nI b), .ref aK] h sz (fun v h' sz' => ∃ (r : Nat → Nat) (e : Nat) (A O : Nat → Int32), gs_out n K A0 O0 b p c r e A O ∧ b + e ≤ n * n ∧ v = some (.int (nI (b + e))) ∧ h' = xs_h D h aA aO (n * n) A O ∧ sz' = sz) := by
  refine xa_enter (by decide) rfl rfl ?_
  have hpN := hp.1
  have hroom : b + 0 < n * n := gs_room (r := fun _ => p) hp (fun j hj => absurd hj (Nat.not_lt_zero _)) (fun i j hi => absurd hi (Nat.not_lt_zero _)) gb_conn_rf (fun j hj => absurd hj (Nat.not_lt_zero _))
  refine xa_heap (show h = xs_h D h aA aO (n * n) A0 O0 from by unfold xs_h; rw [xa_us h hA, xa_us h hO]) ?_
  have ha' : xs_h D h aA aO (n * n) A0 O0 a = some (.inr (1, [.int (nI c), .ref g, .ref aA, .ref aO, .ref aS])) := xs_hn ha (by omega) (by omega)
  refine xa_aload_n d_Areas_spread_0 rfl ?_
  refine xa_getf f_Areas_21 d_Areas_spread_1 (by assumption) (by rfl) ?_
  refine xa_iload_n d_Areas_spread_4 rfl ?_
  refine xa_aload_n d_Areas_spread_5 rfl ?_
  refine xa_getf f_Areas_37 d_Areas_spread_6 (by assumption) (by rfl) ?_
  refine xa_iastE d_Areas_spread_9 (xs_ha hne.1) rfl hpN (by omega) ?_
  rw [xs_hA hne.1]
  have ha2 : xs_h D h aA aO (n * n) (upd A0 p (nI c)) O0 a = some (.inr (1, [.int (nI c), .ref g, .ref aA, .ref aO, .ref aS])) := xs_hn ha (by omega) (by omega)
  refine xa_aload_n d_Areas_spread_10 rfl ?_
  refine xa_getf f_Areas_25 d_Areas_spread_11 (by assumption) (by rfl) ?_
  refine xa_iload_n d_Areas_spread_14 rfl ?_
  refine xa_iload_n d_Areas_spread_15 rfl ?_
  refine xa_iastE d_Areas_spread_16 xs_ho rfl hroom (by omega) ?_
  rw [xs_hO]
  refine xa_iload_n d_Areas_spread_17 rfl ?_
  refine xa_iconst (v := nI 1) d_Areas_spread_18 rfl ?_
  refine xa_iaddN d_Areas_spread_19 ?_
  refine xa_istore d_Areas_spread_20 rfl rfl ?_
  refine xa_iload_n d_Areas_spread_22 rfl ?_
  refine xa_istore d_Areas_spread_23 rfl rfl ?_
  refine xa_ls ?_ (w_spread_out ⟨by decide, by decide⟩ ha hg har hK hne hN hf hc hp 0 _ _ 1 _ _ gs_start gb_FC_0 (by omega) (by omega))
  exact ⟨rfl, rfl, rfl, rfl, rfl, rfl, trivial⟩
end SQ
