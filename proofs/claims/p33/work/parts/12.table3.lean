set_option maxHeartbeats 4000000 in
set_option maxRecDepth 20000 in
theorem c_T_copies {M : Mem} {t n k : Nat} {sz : Nat → Nat} {ce : Nat → Nat → Nat} (ht : isT t) (hT : TX M t n k sz ce) (hW : Wf n k sz ce) : CT 4 m_X6_copies [vR t] M (Rt (some (vI (cn (isC ce k) n : Nat))) M) := by
  have b1 := hW.1
  have b2 := hW.2.1
  refine CT.ofWP (by decide +kernel) (Nat.le_of_ble_eq_true rfl) ?_
  show WP sc0 4 m_X6_copies 0 [vR t, vU, vU] [] M (Rt (some (vI (cn (isC ce k) n : Nat))) M)
  refine WP.iconst dX6_copies_0 ?_
  refine WP.istore_n (lt := [vR t, vI (0 : Int), vU]) dX6_copies_1 (by decide) rfl ?_
  refine WP.iconst dX6_copies_2 ?_
  refine WP.istore_n (lt := [vR t, vI (0 : Int), vI (0 : Int)]) dX6_copies_3 (by decide) rfl ?_
  have L4 : ∀ (n9 : Nat) (r : Nat) (hr : r ≤ n), n - r < n9 → WP sc0 4 m_X6_copies 4 [vR t, vI ((cn (isC ce k) r : Nat) : Int), vI ((r : Nat) : Int)] [] M (Rt (some (vI (cn (isC ce k) n : Nat))) M) := by
    intro n9
    induction n9 with
    | zero =>
      intro r hr hm9
      exact absurd hm9 (Nat.not_lt_zero _)
    | succ n9 ih4 =>
      intro r hr hm9
      have b1 := hW.1
      have b2 := hW.2.1
      refine WP.iload_n dX6_copies_4 rfl ?_
      refine WP.aload_n dX6_copies_5 rfl ?_
      refine WP.getI (x := ((n : Nat) : Int)) dX6_copies_6 fl_X6_9 (shT0 ht) (by decide) (hT.1) ?_
      refine WP.icmp_ge (tgt := 30) dX6_copies_9 (by decide) (by omega) (by omega) (fun h9 => ?_) (fun h9 => ?_)
      · skip
        have e1 : n = r := by omega
        subst e1
        refine WP.iload_n dX6_copies_30 rfl ?_
        refine WP.iret dX6_copies_31 rfl ?_
        exact ⟨rfl, rfl⟩
      · skip
        refine WP.aload_n dX6_copies_12 rfl ?_
        refine WP.iload_n dX6_copies_13 rfl ?_
        refine WP.iload_n dX6_copies_14 rfl ?_
        refine WP.callVp (as := [vI ((r : Nat) : Int), vI ((r : Nat) : Int)]) dX6_copies_15 mv_X6_43 rfl (shT0 ht) (by decide) rfl rfl (c_T_occursBefore (r := r) (e := r) ht hT hW (by omega) (by omega)) rfl (Nat.le_of_ble_eq_true rfl) (by omega) ?_
        refine WP.if_eq (tgt := 24) dX6_copies_18 (by decide) (bi_rng) (fun h18 => ?_) (fun h18 => ?_)
        · skip
          refine WP.iinc (lt := [vR t, vI ((cn (isC ce k) r : Nat) : Int), vI (((r : Nat) : Int) + 1)]) dX6_copies_24 rfl (by decide) rfl ?_
          refine WP.goto (tgt := 4) dX6_copies_27 (by decide) ?_
          refine WP.fgt (lt := [vR t, vI ((cn (isC ce k) (r + 1) : Nat) : Int), vI (((r + 1) : Nat) : Int)]) ⟨Or.inr rfl, Or.inr (congrArg vI (by rw [cn_f (p := isC ce k) (bi_0 h18)])), Or.inr (congrArg vI (by omega)), trivial⟩ ?_
          exact ih4 (r + 1) (by omega) (by omega)
        · skip
          refine WP.iinc (lt := [vR t, vI (((cn (isC ce k) r : Nat) : Int) + 1), vI ((r : Nat) : Int)]) dX6_copies_21 rfl (by decide) rfl ?_
          refine WP.iinc (lt := [vR t, vI (((cn (isC ce k) r : Nat) : Int) + 1), vI (((r : Nat) : Int) + 1)]) dX6_copies_24 rfl (by decide) rfl ?_
          refine WP.goto (tgt := 4) dX6_copies_27 (by decide) ?_
          refine WP.fgt (lt := [vR t, vI ((cn (isC ce k) (r + 1) : Nat) : Int), vI (((r + 1) : Nat) : Int)]) ⟨Or.inr rfl, Or.inr (congrArg vI (by rw [cn_t (p := isC ce k) (bi_1 h18)]; omega)), Or.inr (congrArg vI (by omega)), trivial⟩ ?_
          exact ih4 (r + 1) (by omega) (by omega)
  refine WP.fgt (lt := [vR t, vI ((cn (isC ce k) 0 : Nat) : Int), vI ((0 : Nat) : Int)]) ⟨Or.inr rfl, Or.inr (congrArg vI (rfl)), Or.inr (congrArg vI (by omega)), trivial⟩ ?_
  exact L4 _ (0) (Nat.zero_le _) (Nat.lt_succ_self _)
set_option maxHeartbeats 4000000 in
set_option maxRecDepth 20000 in
theorem c_T_tuples {M : Mem} {t n k : Nat} {sz : Nat → Nat} {ce : Nat → Nat → Nat} {set : Nat} (ht : isT t) (hT : TX M t n k sz ce) (hW : Wf n k sz ce) (hs : set < 2147483648) : CT 1 m_X6_tuples [vR t, vI ((set : Nat) : Int)] M (Rt (some (vI (tps sz set k : Nat))) M) := by
  have b1 := hW.1
  have b2 := hW.2.1
  refine CT.ofWP (by decide +kernel) (Nat.le_of_ble_eq_true rfl) ?_
  show WP sc0 1 m_X6_tuples 0 [vR t, vI ((set : Nat) : Int), vU, vU] [] M (Rt (some (vI (tps sz set k : Nat))) M)
  refine WP.iconst dX6_tuples_0 ?_
  refine WP.istore_n (lt := [vR t, vI ((set : Nat) : Int), vI (1 : Int), vU]) dX6_tuples_1 (by decide) rfl ?_
  refine WP.iconst dX6_tuples_2 ?_
  refine WP.istore_n (lt := [vR t, vI ((set : Nat) : Int), vI (1 : Int), vI (0 : Int)]) dX6_tuples_3 (by decide) rfl ?_
  have L4 : ∀ (n9 : Nat) (c : Nat) (hc : c ≤ k), k - c < n9 → WP sc0 1 m_X6_tuples 4 [vR t, vI ((set : Nat) : Int), vI ((tps sz set c : Nat) : Int), vI ((c : Nat) : Int)] [] M (Rt (some (vI (tps sz set k : Nat))) M) := by
    intro n9
    induction n9 with
    | zero =>
      intro c hc hm9
      exact absurd hm9 (Nat.not_lt_zero _)
    | succ n9 ih4 =>
      intro c hc hm9
      have b1 := hW.1
      have b2 := hW.2.1
      refine WP.iload_n dX6_tuples_4 rfl ?_
      refine WP.aload_n dX6_tuples_5 rfl ?_
      refine WP.getI (x := ((k : Nat) : Int)) dX6_tuples_6 fl_X6_15 (shT0 ht) (by decide) (hT.2.1) ?_
      refine WP.icmp_ge (tgt := 36) dX6_tuples_9 (by decide) (by omega) (by omega) (fun h9 => ?_) (fun h9 => ?_)
      · skip
        have e1 : k = c := by omega
        subst e1
        refine WP.iload_n dX6_tuples_36 rfl ?_
        refine WP.iret dX6_tuples_37 rfl ?_
        exact ⟨rfl, rfl⟩
      · skip
        refine WP.iload_n dX6_tuples_12 rfl ?_
        refine WP.iload_n dX6_tuples_13 rfl ?_
        refine WP.ishr (z := ((set / 2 ^ c : Nat) : Int)) dX6_tuples_14 (oi_shr (by omega) (by omega)) ?_
        refine WP.iconst dX6_tuples_15 ?_
        refine WP.iand (z := ((set / 2 ^ c % 2 : Nat) : Int)) dX6_tuples_16 (oi_and1 (bit_lt (by omega))) ?_
        refine WP.iconst dX6_tuples_17 ?_
        refine WP.icmp_ne (tgt := 30) dX6_tuples_18 (by decide) (by omega) (by omega) (fun h18 => ?_) (fun h18 => ?_)
        · skip
          refine WP.iinc (lt := [vR t, vI ((set : Nat) : Int), vI ((tps sz set c : Nat) : Int), vI (((c : Nat) : Int) + 1)]) dX6_tuples_30 rfl (by decide) rfl ?_
          refine WP.goto (tgt := 4) dX6_tuples_33 (by decide) ?_
          refine WP.fgt (lt := [vR t, vI ((set : Nat) : Int), vI ((tps sz set (c + 1) : Nat) : Int), vI (((c + 1) : Nat) : Int)]) ⟨Or.inr rfl, Or.inr rfl, Or.inr (congrArg vI (by rw [tps, if_neg (by omega)])), Or.inr (congrArg vI (by omega)), trivial⟩ ?_
          exact ih4 (c + 1) (by omega) (by omega)
        · skip
          refine WP.iload_n dX6_tuples_21 rfl ?_
          refine WP.aload_n dX6_tuples_22 rfl ?_
          refine WP.getR (y := (t + 1)) dX6_tuples_23 fl_X6_18 (shT0 ht) (by decide) (srT1 ht) ?_
          refine WP.iload_n dX6_tuples_26 rfl ?_
          refine WP.iaload (y := c) (x := ((sz c : Nat) : Int)) dX6_tuples_27 (shT1 ht) (by omega) (by omega) (hT.2.2.1 c (by omega)) ?_
          refine WP.imul dX6_tuples_28 ?_
          refine WP.istore_n (lt := [vR t, vI ((set : Nat) : Int), vI (((tps sz set c : Nat) : Int) * ((sz c : Nat) : Int)), vI ((c : Nat) : Int)]) dX6_tuples_29 (by decide) rfl ?_
          refine WP.iinc (lt := [vR t, vI ((set : Nat) : Int), vI (((tps sz set c : Nat) : Int) * ((sz c : Nat) : Int)), vI (((c : Nat) : Int) + 1)]) dX6_tuples_30 rfl (by decide) rfl ?_
          refine WP.goto (tgt := 4) dX6_tuples_33 (by decide) ?_
          refine WP.fgt (lt := [vR t, vI ((set : Nat) : Int), vI ((tps sz set (c + 1) : Nat) : Int), vI (((c + 1) : Nat) : Int)]) ⟨Or.inr rfl, Or.inr rfl, Or.inr (congrArg vI (by rw [tps, if_pos (by omega), Int.natCast_mul])), Or.inr (congrArg vI (by omega)), trivial⟩ ?_
          exact ih4 (c + 1) (by omega) (by omega)
  refine WP.fgt (lt := [vR t, vI ((set : Nat) : Int), vI ((tps sz set 0 : Nat) : Int), vI ((0 : Nat) : Int)]) ⟨Or.inr rfl, Or.inr rfl, Or.inr (congrArg vI (rfl)), Or.inr (congrArg vI (by omega)), trivial⟩ ?_
  exact L4 _ (0) (Nat.zero_le _) (Nat.lt_succ_self _)
set_option maxHeartbeats 4000000 in
set_option maxRecDepth 20000 in
theorem c_T_tupleOf {M : Mem} {t n k : Nat} {sz : Nat → Nat} {ce : Nat → Nat → Nat} {r set : Nat} (ht : isT t) (hT : TX M t n k sz ce) (hW : Wf n k sz ce) (hr : r < n) (hs : set < 2147483648) : CT 2 m_X6_tupleOf [vR t, vI ((r : Nat) : Int), vI ((set : Nat) : Int)] M (Rt (some (vI (tpo sz (ce r) set k : Nat))) M) := by
  have b1 := hW.1
  have b2 := hW.2.1
  refine CT.ofWP (by decide +kernel) (Nat.le_of_ble_eq_true rfl) ?_
  show WP sc0 2 m_X6_tupleOf 0 [vR t, vI ((r : Nat) : Int), vI ((set : Nat) : Int), vU, vU] [] M (Rt (some (vI (tpo sz (ce r) set k : Nat))) M)
  refine WP.iconst dX6_tupleOf_0 ?_
  refine WP.istore_n (lt := [vR t, vI ((r : Nat) : Int), vI ((set : Nat) : Int), vI (0 : Int), vU]) dX6_tupleOf_1 (by decide) rfl ?_
  refine WP.iconst dX6_tupleOf_2 ?_
  refine WP.istore (lt := [vR t, vI ((r : Nat) : Int), vI ((set : Nat) : Int), vI (0 : Int), vI (0 : Int)]) dX6_tupleOf_3 (by decide) rfl ?_
  have L5 : ∀ (n9 : Nat) (c : Nat) (hc : c ≤ k), k - c < n9 → WP sc0 2 m_X6_tupleOf 5 [vR t, vI ((r : Nat) : Int), vI ((set : Nat) : Int), vI ((tpo sz (ce r) set c : Nat) : Int), vI ((c : Nat) : Int)] [] M (Rt (some (vI (tpo sz (ce r) set k : Nat))) M) := by
    intro n9
    induction n9 with
    | zero =>
      intro c hc hm9
      exact absurd hm9 (Nat.not_lt_zero _)
    | succ n9 ih5 =>
      intro c hc hm9
      have b1 := hW.1
      have b2 := hW.2.1
      refine WP.iload dX6_tupleOf_5 rfl ?_
      refine WP.aload_n dX6_tupleOf_7 rfl ?_
      refine WP.getI (x := ((k : Nat) : Int)) dX6_tupleOf_8 fl_X6_15 (shT0 ht) (by decide) (hT.2.1) ?_
      refine WP.icmp_ge (tgt := 48) dX6_tupleOf_11 (by decide) (by omega) (by omega) (fun h11 => ?_) (fun h11 => ?_)
      · skip
        have e1 : k = c := by omega
        subst e1
        refine WP.iload_n dX6_tupleOf_48 rfl ?_
        refine WP.iret dX6_tupleOf_49 rfl ?_
        exact ⟨rfl, rfl⟩
      · skip
        refine WP.iload_n dX6_tupleOf_14 rfl ?_
        refine WP.iload dX6_tupleOf_15 rfl ?_
        refine WP.ishr (z := ((set / 2 ^ c : Nat) : Int)) dX6_tupleOf_17 (oi_shr (by omega) (by omega)) ?_
        refine WP.iconst dX6_tupleOf_18 ?_
        refine WP.iand (z := ((set / 2 ^ c % 2 : Nat) : Int)) dX6_tupleOf_19 (oi_and1 (bit_lt (by omega))) ?_
        refine WP.iconst dX6_tupleOf_20 ?_
        refine WP.icmp_ne (tgt := 42) dX6_tupleOf_21 (by decide) (by omega) (by omega) (fun h21 => ?_) (fun h21 => ?_)
        · skip
          refine WP.iinc (lt := [vR t, vI ((r : Nat) : Int), vI ((set : Nat) : Int), vI ((tpo sz (ce r) set c : Nat) : Int), vI (((c : Nat) : Int) + 1)]) dX6_tupleOf_42 rfl (by decide) rfl ?_
          refine WP.goto (tgt := 5) dX6_tupleOf_45 (by decide) ?_
          refine WP.fgt (lt := [vR t, vI ((r : Nat) : Int), vI ((set : Nat) : Int), vI ((tpo sz (ce r) set (c + 1) : Nat) : Int), vI (((c + 1) : Nat) : Int)]) ⟨Or.inr rfl, Or.inr rfl, Or.inr rfl, Or.inr (congrArg vI (by rw [tpo, if_neg (by omega)])), Or.inr (congrArg vI (by omega)), trivial⟩ ?_
          exact ih5 (c + 1) (by omega) (by omega)
        · skip
          refine WP.iload_n dX6_tupleOf_24 rfl ?_
          refine WP.aload_n dX6_tupleOf_25 rfl ?_
          refine WP.getR (y := (t + 1)) dX6_tupleOf_26 fl_X6_18 (shT0 ht) (by decide) (srT1 ht) ?_
          refine WP.iload dX6_tupleOf_29 rfl ?_
          refine WP.iaload (y := c) (x := ((sz c : Nat) : Int)) dX6_tupleOf_31 (shT1 ht) (by omega) (by omega) (hT.2.2.1 c (by omega)) ?_
          refine WP.imul dX6_tupleOf_32 ?_
          refine WP.aload_n dX6_tupleOf_33 rfl ?_
          refine WP.iload_n dX6_tupleOf_34 rfl ?_
          refine WP.iload dX6_tupleOf_35 rfl ?_
          refine WP.eqs (st' := [vI ((c : Nat) : Int), vI ((r : Nat) : Int), vR t, vI (((tpo sz (ce r) set c : Nat) : Int) * ((sz c : Nat) : Int))]) rfl (lc (rfl) (lc (rfl) (rfl))) ?_
          refine WP.callVp (as := [vI ((r : Nat) : Int), vI ((c : Nat) : Int)]) dX6_tupleOf_37 mv_X6_35 rfl (shT0 ht) (by decide) rfl rfl (c_T_at (r := r) (c := c) ht (by omega) (by omega) (hT.2.2.2 r (by omega) c (by omega))) rfl (Nat.le_of_ble_eq_true rfl) (by omega) ?_
          refine WP.iadd dX6_tupleOf_40 ?_
          refine WP.istore_n (lt := [vR t, vI ((r : Nat) : Int), vI ((set : Nat) : Int), vI ((((tpo sz (ce r) set c : Nat) : Int) * ((sz c : Nat) : Int)) + ((ce r c : Nat) : Int)), vI ((c : Nat) : Int)]) dX6_tupleOf_41 (by decide) rfl ?_
          refine WP.iinc (lt := [vR t, vI ((r : Nat) : Int), vI ((set : Nat) : Int), vI ((((tpo sz (ce r) set c : Nat) : Int) * ((sz c : Nat) : Int)) + ((ce r c : Nat) : Int)), vI (((c : Nat) : Int) + 1)]) dX6_tupleOf_42 rfl (by decide) rfl ?_
          refine WP.goto (tgt := 5) dX6_tupleOf_45 (by decide) ?_
          refine WP.fgt (lt := [vR t, vI ((r : Nat) : Int), vI ((set : Nat) : Int), vI ((tpo sz (ce r) set (c + 1) : Nat) : Int), vI (((c + 1) : Nat) : Int)]) ⟨Or.inr rfl, Or.inr rfl, Or.inr rfl, Or.inr (congrArg vI (by rw [tpo, if_pos (by omega), Int.natCast_add, Int.natCast_mul])), Or.inr (congrArg vI (by omega)), trivial⟩ ?_
          exact ih5 (c + 1) (by omega) (by omega)
  refine WP.fgt (lt := [vR t, vI ((r : Nat) : Int), vI ((set : Nat) : Int), vI ((tpo sz (ce r) set 0 : Nat) : Int), vI ((0 : Nat) : Int)]) ⟨Or.inr rfl, Or.inr rfl, Or.inr rfl, Or.inr (congrArg vI (rfl)), Or.inr (congrArg vI (by omega)), trivial⟩ ?_
  exact L5 _ (0) (Nat.zero_le _) (Nat.lt_succ_self _)
set_option maxHeartbeats 4000000 in
set_option maxRecDepth 20000 in
theorem c_T_leastRows {M : Mem} {t n k : Nat} {sz : Nat → Nat} {ce : Nat → Nat → Nat} (ht : isT t) (hT : TX M t n k sz ce) (hW : Wf n k sz ce) : CT 1 m_X6_leastRows [vR t] M (Rt (some (vI (lrs sz k : Nat))) M) := by
  have b1 := hW.1
  have b2 := hW.2.1
  refine CT.ofWP (by decide +kernel) (Nat.le_of_ble_eq_true rfl) ?_
  show WP sc0 1 m_X6_leastRows 0 [vR t, vU, vU] [] M (Rt (some (vI (lrs sz k : Nat))) M)
  refine WP.iconst dX6_leastRows_0 ?_
  refine WP.istore_n (lt := [vR t, vI (1 : Int), vU]) dX6_leastRows_1 (by decide) rfl ?_
  refine WP.iconst dX6_leastRows_2 ?_
  refine WP.istore_n (lt := [vR t, vI (1 : Int), vI (0 : Int)]) dX6_leastRows_3 (by decide) rfl ?_
  have L4 : ∀ (n9 : Nat) (c : Nat) (hc : c ≤ k), k - c < n9 → WP sc0 1 m_X6_leastRows 4 [vR t, vI ((lrs sz c : Nat) : Int), vI ((c : Nat) : Int)] [] M (Rt (some (vI (lrs sz k : Nat))) M) := by
    intro n9
    induction n9 with
    | zero =>
      intro c hc hm9
      exact absurd hm9 (Nat.not_lt_zero _)
    | succ n9 ih4 =>
      intro c hc hm9
      have b1 := hW.1
      have b2 := hW.2.1
      refine WP.iload_n dX6_leastRows_4 rfl ?_
      refine WP.aload_n dX6_leastRows_5 rfl ?_
      refine WP.getI (x := ((k : Nat) : Int)) dX6_leastRows_6 fl_X6_15 (shT0 ht) (by decide) (hT.2.1) ?_
      refine WP.icmp_ge (tgt := 29) dX6_leastRows_9 (by decide) (by omega) (by omega) (fun h9 => ?_) (fun h9 => ?_)
      · skip
        have e1 : k = c := by omega
        subst e1
        refine WP.iload_n dX6_leastRows_29 rfl ?_
        refine WP.iret dX6_leastRows_30 rfl ?_
        exact ⟨rfl, rfl⟩
      · skip
        refine WP.iload_n dX6_leastRows_12 rfl ?_
        refine WP.aload_n dX6_leastRows_13 rfl ?_
        refine WP.getR (y := (t + 1)) dX6_leastRows_14 fl_X6_18 (shT0 ht) (by decide) (srT1 ht) ?_
        refine WP.iload_n dX6_leastRows_17 rfl ?_
        refine WP.iaload (y := c) (x := ((sz c : Nat) : Int)) dX6_leastRows_18 (shT1 ht) (by omega) (by omega) (hT.2.2.1 c (by omega)) ?_
        refine WP.iconst dX6_leastRows_19 ?_
        refine WP.isub dX6_leastRows_20 ?_
        refine WP.iadd dX6_leastRows_21 ?_
        refine WP.istore_n (lt := [vR t, vI (((lrs sz c : Nat) : Int) + (((sz c : Nat) : Int) - (1 : Int))), vI ((c : Nat) : Int)]) dX6_leastRows_22 (by decide) rfl ?_
        refine WP.iinc (lt := [vR t, vI (((lrs sz c : Nat) : Int) + (((sz c : Nat) : Int) - (1 : Int))), vI (((c : Nat) : Int) + 1)]) dX6_leastRows_23 rfl (by decide) rfl ?_
        refine WP.goto (tgt := 4) dX6_leastRows_26 (by decide) ?_
        refine WP.fgt (lt := [vR t, vI ((lrs sz (c + 1) : Nat) : Int), vI (((c + 1) : Nat) : Int)]) ⟨Or.inr rfl, Or.inr (congrArg vI (by have := hW.2.2.1 c (by omega); rw [lrs]; omega)), Or.inr (congrArg vI (by omega)), trivial⟩ ?_
        exact ih4 (c + 1) (by omega) (by omega)
  refine WP.fgt (lt := [vR t, vI ((lrs sz 0 : Nat) : Int), vI ((0 : Nat) : Int)]) ⟨Or.inr rfl, Or.inr (congrArg vI (rfl)), Or.inr (congrArg vI (by omega)), trivial⟩ ?_
  exact L4 _ (0) (Nat.zero_le _) (Nat.lt_succ_self _)
/-- the first multiple of a, from the i-th on, that b divides -/
theorem lcm_first {a b i : Nat} (ha : 0 < a) (hb : 0 < b) (hi : 0 < i) (hn : ∀ j, 0 < j → j < i → ¬ b ∣ j * a) (h : b ∣ i * a) : Nat.lcm a b = i * a := by
  obtain ⟨m, hm⟩ := Nat.dvd_lcm_left a b
  have h1 : Nat.lcm a b ∣ i * a := Nat.lcm_dvd ⟨i, Nat.mul_comm _ _⟩ h
  have hp := Nat.lcm_pos ha hb
  have h2 : b ∣ m * a := by rw [Nat.mul_comm m a, ← hm]; exact Nat.dvd_lcm_right a b
  have hm0 : 0 < m := by
    rcases Nat.eq_zero_or_pos m with e | e
    · rw [e, Nat.mul_zero] at hm; omega
    · exact e
  have h3 : i ≤ m := Nat.le_of_not_lt (fun z => hn m hm0 z h2)
  have h4 := Nat.le_of_dvd (Nat.mul_pos hi ha) h1
  rw [hm] at h4 ⊢
  have h5 : m ≤ i := by
    rw [Nat.mul_comm i a] at h4
    exact Nat.le_of_mul_le_mul_left h4 ha
  have : m = i := by omega
  rw [this, Nat.mul_comm]
theorem lcm_last {a b i : Nat} (ha : 0 < a) (hb : 0 < b) (hn : ∀ j, 0 < j → j < i → ¬ b ∣ j * a) (h : a * b ≤ i * a) : Nat.lcm a b = a * b := by
  have hbi : b ≤ i := by
    rw [Nat.mul_comm i a] at h
    exact Nat.le_of_mul_le_mul_left h ha
  have := lcm_first ha hb (i := b) hb (fun j h0 h1 => hn j h0 (by omega)) ⟨a, rfl⟩
  rw [this, Nat.mul_comm]
set_option maxHeartbeats 4000000 in
set_option maxRecDepth 20000 in
theorem c_T_lcm {M : Mem} {a b : Nat} (ha : 0 < a) (hb : 0 < b) (hab : a * b + a < 2147483648) (hb2 : b < 2147483648) : CT 1 m_X6_leastCommonMultiple [vI ((a : Nat) : Int), vI ((b : Nat) : Int)] M (Rt (some (vI (Nat.lcm a b : Nat))) M) := by
  refine CT.ofWP (by decide +kernel) (Nat.le_of_ble_eq_true rfl) ?_
  show WP sc0 1 m_X6_leastCommonMultiple 0 [vI ((a : Nat) : Int), vI ((b : Nat) : Int), vU] [] M (Rt (some (vI (Nat.lcm a b : Nat))) M)
  refine WP.iload_n dX6_leastCommonMultiple_0 rfl ?_
  refine WP.istore_n (lt := [vI ((a : Nat) : Int), vI ((b : Nat) : Int), vI ((a : Nat) : Int)]) dX6_leastCommonMultiple_1 (by decide) rfl ?_
  have L2 : ∀ (n9 : Nat) (i : Nat) (hi : 0 < i) (hn : ∀ j, 0 < j → j < i → ¬ b ∣ j * a) (hle : i * a ≤ a * b + a), a * b + a + 1 - i * a < n9 → WP sc0 1 m_X6_leastCommonMultiple 2 [vI ((a : Nat) : Int), vI ((b : Nat) : Int), vI ((i * a : Nat) : Int)] [] M (Rt (some (vI (Nat.lcm a b : Nat))) M) := by
    intro n9
    induction n9 with
    | zero =>
      intro i hi hn hle hm9
      exact absurd hm9 (Nat.not_lt_zero _)
    | succ n9 ih2 =>
      intro i hi hn hle hm9
      refine WP.iload_n dX6_leastCommonMultiple_2 rfl ?_
      refine WP.iload_n dX6_leastCommonMultiple_3 rfl ?_
      refine WP.iload_n dX6_leastCommonMultiple_4 rfl ?_
      refine WP.imul dX6_leastCommonMultiple_5 ?_
      refine WP.eqs (st' := [vI ((a * b : Nat) : Int), vI ((i * a : Nat) : Int)]) rfl (lc (congrArg vI (by rw [Int.natCast_mul])) rfl) ?_
      refine WP.icmp_ge (tgt := 24) dX6_leastCommonMultiple_6 (by decide) (by omega) (by omega) (fun h6 => ?_) (fun h6 => ?_)
      · skip
        refine WP.iload_n dX6_leastCommonMultiple_24 rfl ?_
        refine WP.iload_n dX6_leastCommonMultiple_25 rfl ?_
        refine WP.imul dX6_leastCommonMultiple_26 ?_
        refine WP.eqs (st' := [vI ((a * b : Nat) : Int)]) rfl (lc (congrArg vI (by rw [Int.natCast_mul])) rfl) ?_
        refine WP.iret dX6_leastCommonMultiple_27 rfl ?_
        rw [lcm_last ha hb hn (by omega)]
        exact ⟨rfl, rfl⟩
      · skip
        have hmod : i * a % b < b := Nat.mod_lt _ hb
        refine WP.iload_n dX6_leastCommonMultiple_9 rfl ?_
        refine WP.iload_n dX6_leastCommonMultiple_10 rfl ?_
        refine WP.irem dX6_leastCommonMultiple_11 (by omega) (by omega) ?_
        refine WP.eqs (st' := [vI ((i * a % b : Nat) : Int)]) rfl (lc (congrArg vI (by omega)) rfl) ?_
        refine WP.if_ne (tgt := 17) dX6_leastCommonMultiple_12 (by decide) (by omega) (fun h12 => ?_) (fun h12 => ?_)
        · skip
          refine WP.iload_n dX6_leastCommonMultiple_17 rfl ?_
          refine WP.iload_n dX6_leastCommonMultiple_18 rfl ?_
          refine WP.iadd dX6_leastCommonMultiple_19 ?_
          refine WP.istore_n (lt := [vI ((a : Nat) : Int), vI ((b : Nat) : Int), vI (((i * a : Nat) : Int) + ((a : Nat) : Int))]) dX6_leastCommonMultiple_20 (by decide) rfl ?_
          refine WP.goto (tgt := 2) dX6_leastCommonMultiple_21 (by decide) ?_
          refine WP.fgt (lt := [vI ((a : Nat) : Int), vI ((b : Nat) : Int), vI (((i + 1) * a : Nat) : Int)]) ⟨Or.inr rfl, Or.inr rfl, Or.inr (congrArg vI (by rw [Nat.succ_mul, Int.natCast_add])), trivial⟩ ?_
          exact ih2 (i + 1) (by omega) (fun j h1 h2 => by
            by_cases e : j = i
            · rw [e]
              intro z
              have := Nat.mod_eq_zero_of_dvd z
              omega
            · exact hn j h1 (by omega)) (by rw [Nat.succ_mul]; omega) (by rw [Nat.succ_mul]; omega)
        · skip
          refine WP.iload_n dX6_leastCommonMultiple_15 rfl ?_
          refine WP.iret dX6_leastCommonMultiple_16 rfl ?_
          rw [lcm_first ha hb hi hn (Nat.dvd_of_mod_eq_zero (by omega))]
          exact ⟨rfl, rfl⟩
  refine WP.fgt (lt := [vI ((a : Nat) : Int), vI ((b : Nat) : Int), vI ((1 * a : Nat) : Int)]) ⟨Or.inr rfl, Or.inr rfl, Or.inr (congrArg vI (by rw [Nat.one_mul])), trivial⟩ ?_
  exact L2 _ (1) (by omega) (fun j h1 h2 => by omega) (by rw [Nat.one_mul]; omega) (Nat.lt_succ_self _)
set_option maxHeartbeats 4000000 in
set_option maxRecDepth 20000 in
theorem c_T_rowsDivisor {M : Mem} {t n k : Nat} {sz : Nat → Nat} {ce : Nat → Nat → Nat} (ht : isT t) (hT : TX M t n k sz ce) (hW : Wf n k sz ce) : CT 2 m_X6_rowsDivisor [vR t] M (Rt (some (vI (lcO sz k : Nat))) M) := by
  have b1 := hW.1
  have b2 := hW.2.1
  refine CT.ofWP (by decide +kernel) (Nat.le_of_ble_eq_true rfl) ?_
  show WP sc0 2 m_X6_rowsDivisor 0 [vR t, vU, vU, vU] [] M (Rt (some (vI (lcO sz k : Nat))) M)
  refine WP.iconst dX6_rowsDivisor_0 ?_
  refine WP.istore_n (lt := [vR t, vI (1 : Int), vU, vU]) dX6_rowsDivisor_1 (by decide) rfl ?_
  refine WP.iconst dX6_rowsDivisor_2 ?_
  refine WP.istore_n (lt := [vR t, vI (1 : Int), vI (1 : Int), vU]) dX6_rowsDivisor_3 (by decide) rfl ?_
  have L4 : ∀ (n9 : Nat) (d : Nat) (hd : d ≤ k ∨ (k = 0 ∧ d = 1)) (hd1 : 1 ≤ d), k + 1 - d < n9 → WP sc0 2 m_X6_rowsDivisor 4 [vR t, vI ((lcO sz d : Nat) : Int), vI ((d : Nat) : Int), vU] [] M (Rt (some (vI (lcO sz k : Nat))) M) := by
    intro n9
    induction n9 with
    | zero =>
      intro d hd hd1 hm9
      exact absurd hm9 (Nat.not_lt_zero _)
    | succ n9 ih4 =>
      intro d hd hd1 hm9
      have b1 := hW.1
      have b2 := hW.2.1
      refine WP.iload_n dX6_rowsDivisor_4 rfl ?_
      refine WP.aload_n dX6_rowsDivisor_5 rfl ?_
      refine WP.getI (x := ((k : Nat) : Int)) dX6_rowsDivisor_6 fl_X6_15 (shT0 ht) (by decide) (hT.2.1) ?_
      refine WP.icmp_ge (tgt := 49) dX6_rowsDivisor_9 (by decide) (by omega) (by omega) (fun h9 => ?_) (fun h9 => ?_)
      · skip
        refine WP.iload_n dX6_rowsDivisor_49 rfl ?_
        refine WP.iret dX6_rowsDivisor_50 rfl ?_
        rcases hd with e1 | e1
        · rw [show d = k by omega]
          exact ⟨rfl, rfl⟩
        · rw [e1.1, e1.2]
          exact ⟨rfl, rfl⟩
      · skip
        have hdk : d < k := by omega
        refine WP.iconst dX6_rowsDivisor_12 ?_
        refine WP.istore_n (lt := [vR t, vI ((lcO sz d : Nat) : Int), vI ((d : Nat) : Int), vI (0 : Int)]) dX6_rowsDivisor_13 (by decide) rfl ?_
        have L14 : ∀ (n9 : Nat) (c : Nat) (hc : c ≤ d), d - c < n9 → WP sc0 2 m_X6_rowsDivisor 14 [vR t, vI ((lcN sz d c (lcO sz d) : Nat) : Int), vI ((d : Nat) : Int), vI ((c : Nat) : Int)] [] M (Rt (some (vI (lcO sz k : Nat))) M) := by
          intro n9
          induction n9 with
          | zero =>
            intro c hc hm9
            exact absurd hm9 (Nat.not_lt_zero _)
          | succ n9 ih14 =>
            intro c hc hm9
            have b1 := hW.1
            have b2 := hW.2.1
            refine WP.iload_n dX6_rowsDivisor_14 rfl ?_
            refine WP.iload_n dX6_rowsDivisor_15 rfl ?_
            refine WP.icmp_ge (tgt := 43) dX6_rowsDivisor_16 (by decide) (by omega) (by omega) (fun h16 => ?_) (fun h16 => ?_)
            · skip
              have e2 : c = d := by omega
              refine WP.iinc (lt := [vR t, vI ((lcN sz d c (lcO sz d) : Nat) : Int), vI (((d : Nat) : Int) + 1), vI ((c : Nat) : Int)]) dX6_rowsDivisor_43 rfl (by decide) rfl ?_
              refine WP.goto (tgt := 4) dX6_rowsDivisor_46 (by decide) ?_
              refine WP.fgt (lt := [vR t, vI ((lcO sz (d + 1) : Nat) : Int), vI (((d + 1) : Nat) : Int), vU]) ⟨Or.inr rfl, Or.inr (congrArg vI (by rw [e2]; rfl)), Or.inr (congrArg vI (by omega)), Or.inl rfl, trivial⟩ ?_
              exact ih4 (d + 1) (by omega) (by omega) (by omega)
            · skip
              have a1 := hW.2.2.1 c (by omega)
              have a2 := hW.2.2.1 d (by omega)
              obtain ⟨g1, g2⟩ := lcN_dv hW.2.2.1 (d := d) (by omega) c (lcO sz d) (by omega) (lcO_dv hW.2.2.1 d (by omega)).1 (lcO_dv hW.2.2.1 d (by omega)).2
              have g3 : sz c * sz d ≤ 36 := Nat.mul_le_mul a1.2 a2.2
              have g4 := Nat.le_of_dvd (by decide) g1
              refine WP.iload_n dX6_rowsDivisor_19 rfl ?_
              refine WP.aload_n dX6_rowsDivisor_20 rfl ?_
              refine WP.getR (y := (t + 1)) dX6_rowsDivisor_21 fl_X6_18 (shT0 ht) (by decide) (srT1 ht) ?_
              refine WP.iload_n dX6_rowsDivisor_24 rfl ?_
              refine WP.iaload (y := c) (x := ((sz c : Nat) : Int)) dX6_rowsDivisor_25 (shT1 ht) (by omega) (by omega) (hT.2.2.1 c (by omega)) ?_
              refine WP.aload_n dX6_rowsDivisor_26 rfl ?_
              refine WP.getR (y := (t + 1)) dX6_rowsDivisor_27 fl_X6_18 (shT0 ht) (by decide) (srT1 ht) ?_
              refine WP.iload_n dX6_rowsDivisor_30 rfl ?_
              refine WP.iaload (y := d) (x := ((sz d : Nat) : Int)) dX6_rowsDivisor_31 (shT1 ht) (by omega) (by omega) (hT.2.2.1 d (by omega)) ?_
              refine WP.imul dX6_rowsDivisor_32 ?_
              refine WP.eqs (st' := [vI ((sz c * sz d : Nat) : Int), vI ((lcN sz d c (lcO sz d) : Nat) : Int)]) rfl (lc (congrArg vI (by rw [Int.natCast_mul])) rfl) ?_
              refine WP.callSp (as := [vI ((lcN sz d c (lcO sz d) : Nat) : Int), vI ((sz c * sz d : Nat) : Int)]) dX6_rowsDivisor_33 ms_X6_53 rfl (c_T_lcm (a := lcN sz d c (lcO sz d)) (b := sz c * sz d) g2 (Nat.mul_pos (by omega) (by omega)) (by have := Nat.mul_le_mul (Nat.le_of_dvd (by decide) g1) g3; omega) (by omega)) rfl (Nat.le_of_ble_eq_true rfl) (by omega) ?_
              refine WP.istore_n (lt := [vR t, vI ((lcN sz d (c + 1) (lcO sz d) : Nat) : Int), vI ((d : Nat) : Int), vI ((c : Nat) : Int)]) dX6_rowsDivisor_36 (by decide) rfl ?_
              refine WP.iinc (lt := [vR t, vI ((lcN sz d (c + 1) (lcO sz d) : Nat) : Int), vI ((d : Nat) : Int), vI (((c : Nat) : Int) + 1)]) dX6_rowsDivisor_37 rfl (by decide) rfl ?_
              refine WP.goto (tgt := 14) dX6_rowsDivisor_40 (by decide) ?_
              refine WP.fgt (lt := [vR t, vI ((lcN sz d (c + 1) (lcO sz d) : Nat) : Int), vI ((d : Nat) : Int), vI (((c + 1) : Nat) : Int)]) ⟨Or.inr rfl, Or.inr rfl, Or.inr rfl, Or.inr (congrArg vI (by omega)), trivial⟩ ?_
              exact ih14 (c + 1) (by omega) (by omega)
        refine WP.fgt (lt := [vR t, vI ((lcN sz d 0 (lcO sz d) : Nat) : Int), vI ((d : Nat) : Int), vI ((0 : Nat) : Int)]) ⟨Or.inr rfl, Or.inr (congrArg vI (rfl)), Or.inr rfl, Or.inr (congrArg vI (by omega)), trivial⟩ ?_
        exact L14 _ (0) (Nat.zero_le _) (Nat.lt_succ_self _)
  refine WP.fgt (lt := [vR t, vI ((lcO sz 1 : Nat) : Int), vI ((1 : Nat) : Int), vU]) ⟨Or.inr rfl, Or.inr (congrArg vI (rfl)), Or.inr (congrArg vI (by omega)), Or.inl rfl, trivial⟩ ?_
  exact L4 _ (1) (by omega) (by omega) (Nat.lt_succ_self _)
set_option maxHeartbeats 4000000 in
set_option maxRecDepth 20000 in
theorem c_T_evn {M : Mem} {t n k : Nat} {sz : Nat → Nat} {ce : Nat → Nat → Nat} {c d s : Nat} (ht : isT t) (hT : TX M t n k sz ce) (hW : Wf n k sz ce) (hc : c < k) (hd : d < k) (hsc : sz c = s) (hsd : sz d = s) (hs : 2 ≤ s ∧ s ≤ 6) : CT 2 m_X6_hasEvenDifferences [vR t, vI ((c : Nat) : Int), vI ((d : Nat) : Int)] M (Rt (some (vI (bi (evn n ce s c d)))) M) := by
  have b1 := hW.1
  have b2 := hW.2.1
  refine CT.ofWP (by decide +kernel) (Nat.le_of_ble_eq_true rfl) ?_
  show WP sc0 2 m_X6_hasEvenDifferences 0 [vR t, vI ((c : Nat) : Int), vI ((d : Nat) : Int), vU, vU, vU, vU] [] M (Rt (some (vI (bi (evn n ce s c d)))) M)
  refine WP.aload_n dX6_hasEvenDifferences_0 rfl ?_
  refine WP.getR (y := (t + 1)) dX6_hasEvenDifferences_1 fl_X6_18 (shT0 ht) (by decide) (srT1 ht) ?_
  refine WP.iload_n dX6_hasEvenDifferences_4 rfl ?_
  refine WP.iaload (y := c) (x := ((s : Nat) : Int)) dX6_hasEvenDifferences_5 (shT1 ht) (by omega) (by omega) (by rw [hT.2.2.1 c hc, hsc]) ?_
  refine WP.istore_n (lt := [vR t, vI ((c : Nat) : Int), vI ((d : Nat) : Int), vI ((s : Nat) : Int), vU, vU, vU]) dX6_hasEvenDifferences_6 (by decide) rfl ?_
  refine WP.iconst dX6_hasEvenDifferences_7 ?_
  refine WP.istore (lt := [vR t, vI ((c : Nat) : Int), vI ((d : Nat) : Int), vI ((s : Nat) : Int), vI (0 : Int), vU, vU]) dX6_hasEvenDifferences_8 (by decide) rfl ?_
  have L10 : ∀ (n9 : Nat) (v : Nat) (hv : v ≤ s) (hn : ∀ w, w < v → dfc n ce s c d w * s = n), s - v < n9 → WP sc0 2 m_X6_hasEvenDifferences 10 [vR t, vI ((c : Nat) : Int), vI ((d : Nat) : Int), vI ((s : Nat) : Int), vI ((v : Nat) : Int), vU, vU] [] M (Rt (some (vI (bi (evn n ce s c d)))) M) := by
    intro n9
    induction n9 with
    | zero =>
      intro v hv hn hm9
      exact absurd hm9 (Nat.not_lt_zero _)
    | succ n9 ih10 =>
      intro v hv hn hm9
      have b1 := hW.1
      have b2 := hW.2.1
      refine WP.iload dX6_hasEvenDifferences_10 rfl ?_
      refine WP.iload_n dX6_hasEvenDifferences_12 rfl ?_
      refine WP.icmp_ge (tgt := 83) dX6_hasEvenDifferences_13 (by decide) (by omega) (by omega) (fun h13 => ?_) (fun h13 => ?_)
      · skip
        refine WP.iconst dX6_hasEvenDifferences_83 ?_
        refine WP.zret dX6_hasEvenDifferences_84 rfl (by decide) ?_
        exact ⟨congrArg some (congrArg vI (bi_t (fun w hw => hn w (by omega))).symm), rfl⟩
      · skip
        refine WP.iconst dX6_hasEvenDifferences_16 ?_
        refine WP.istore (lt := [vR t, vI ((c : Nat) : Int), vI ((d : Nat) : Int), vI ((s : Nat) : Int), vI ((v : Nat) : Int), vI (0 : Int), vU]) dX6_hasEvenDifferences_17 (by decide) rfl ?_
        refine WP.iconst dX6_hasEvenDifferences_19 ?_
        refine WP.istore (lt := [vR t, vI ((c : Nat) : Int), vI ((d : Nat) : Int), vI ((s : Nat) : Int), vI ((v : Nat) : Int), vI (0 : Int), vI (0 : Int)]) dX6_hasEvenDifferences_20 (by decide) rfl ?_
        have L22 : ∀ (n9 : Nat) (r : Nat) (hr : r ≤ n), n - r < n9 → WP sc0 2 m_X6_hasEvenDifferences 22 [vR t, vI ((c : Nat) : Int), vI ((d : Nat) : Int), vI ((s : Nat) : Int), vI ((v : Nat) : Int), vI ((dfc r ce s c d v : Nat) : Int), vI ((r : Nat) : Int)] [] M (Rt (some (vI (bi (evn n ce s c d)))) M) := by
          intro n9
          induction n9 with
          | zero =>
            intro r hr hm9
            exact absurd hm9 (Nat.not_lt_zero _)
          | succ n9 ih22 =>
            intro r hr hm9
            have b1 := hW.1
            have b2 := hW.2.1
            refine WP.iload dX6_hasEvenDifferences_22 rfl ?_
            refine WP.aload_n dX6_hasEvenDifferences_24 rfl ?_
            refine WP.getI (x := ((n : Nat) : Int)) dX6_hasEvenDifferences_25 fl_X6_9 (shT0 ht) (by decide) (hT.1) ?_
            refine WP.icmp_ge (tgt := 64) dX6_hasEvenDifferences_28 (by decide) (by omega) (by omega) (fun h28 => ?_) (fun h28 => ?_)
            · skip
              have e1 : r = n := by omega
              have e3 : dfc n ce s c d v ≤ n := cn_le _ n
              have e4 := Nat.mul_le_mul e3 hs.2
              refine WP.fgt (lt := [vR t, vI ((c : Nat) : Int), vI ((d : Nat) : Int), vI ((s : Nat) : Int), vI ((v : Nat) : Int), vI ((dfc n ce s c d v : Nat) : Int), vI ((r : Nat) : Int)]) ⟨Or.inr rfl, Or.inr rfl, Or.inr rfl, Or.inr rfl, Or.inr rfl, Or.inr (congrArg vI (by rw [e1])), Or.inr rfl, trivial⟩ ?_
              refine WP.iload dX6_hasEvenDifferences_64 rfl ?_
              refine WP.iload_n dX6_hasEvenDifferences_66 rfl ?_
              refine WP.imul dX6_hasEvenDifferences_67 ?_
              refine WP.eqs (st' := [vI ((dfc n ce s c d v * s : Nat) : Int)]) rfl (lc (congrArg vI (by rw [Int.natCast_mul])) rfl) ?_
              refine WP.aload_n dX6_hasEvenDifferences_68 rfl ?_
              refine WP.getI (x := ((n : Nat) : Int)) dX6_hasEvenDifferences_69 fl_X6_9 (shT0 ht) (by decide) (hT.1) ?_
              refine WP.icmp_eq (tgt := 77) dX6_hasEvenDifferences_72 (by decide) (by omega) (by omega) (fun h72 => ?_) (fun h72 => ?_)
              · skip
                refine WP.iinc (lt := [vR t, vI ((c : Nat) : Int), vI ((d : Nat) : Int), vI ((s : Nat) : Int), vI (((v : Nat) : Int) + 1), vI ((dfc n ce s c d v : Nat) : Int), vI ((r : Nat) : Int)]) dX6_hasEvenDifferences_77 rfl (by decide) rfl ?_
                refine WP.goto (tgt := 10) dX6_hasEvenDifferences_80 (by decide) ?_
                refine WP.fgt (lt := [vR t, vI ((c : Nat) : Int), vI ((d : Nat) : Int), vI ((s : Nat) : Int), vI (((v + 1) : Nat) : Int), vU, vU]) ⟨Or.inr rfl, Or.inr rfl, Or.inr rfl, Or.inr rfl, Or.inr (congrArg vI (by omega)), Or.inl rfl, Or.inl rfl, trivial⟩ ?_
                exact ih10 (v + 1) (by omega) (fun w hw => by
                  by_cases e : w = v
                  · rw [e]
                    have h72 : ((dfc n ce s c d v * s : Nat) : Int) = (n : Int) := by omega
                    omega
                  · exact hn w (by omega)) (by omega)
              · skip
                refine WP.iconst dX6_hasEvenDifferences_75 ?_
                refine WP.zret dX6_hasEvenDifferences_76 rfl (by decide) ?_
                exact ⟨congrArg some (congrArg vI (bi_f (fun z => h72 (by rw [z v (by omega)]))).symm), rfl⟩
            · skip
              have a1 := hW.2.2.2 r (by omega) c hc
              have a2 := hW.2.2.2 r (by omega) d hd
              have a3 : (ce r d + s - ce r c) % s < s := Nat.mod_lt _ (by omega)
              refine WP.aload_n dX6_hasEvenDifferences_31 rfl ?_
              refine WP.iload dX6_hasEvenDifferences_32 rfl ?_
              refine WP.iload_n dX6_hasEvenDifferences_34 rfl ?_
              refine WP.eqs (st' := [vI ((d : Nat) : Int), vI ((r : Nat) : Int), vR t]) rfl (lc (rfl) (lc (rfl) (rfl))) ?_
              refine WP.callVp (as := [vI ((r : Nat) : Int), vI ((d : Nat) : Int)]) dX6_hasEvenDifferences_35 mv_X6_35 rfl (shT0 ht) (by decide) rfl rfl (c_T_at (r := r) (c := d) ht (by omega) (by omega) (hT.2.2.2 r (by omega) d (by omega))) rfl (Nat.le_of_ble_eq_true rfl) (by omega) ?_
              refine WP.aload_n dX6_hasEvenDifferences_38 rfl ?_
              refine WP.iload dX6_hasEvenDifferences_39 rfl ?_
              refine WP.iload_n dX6_hasEvenDifferences_41 rfl ?_
              refine WP.eqs (st' := [vI ((c : Nat) : Int), vI ((r : Nat) : Int), vR t, vI ((ce r d : Nat) : Int)]) rfl (lc (rfl) (lc (rfl) (rfl))) ?_
              refine WP.callVp (as := [vI ((r : Nat) : Int), vI ((c : Nat) : Int)]) dX6_hasEvenDifferences_42 mv_X6_35 rfl (shT0 ht) (by decide) rfl rfl (c_T_at (r := r) (c := c) ht (by omega) (by omega) (hT.2.2.2 r (by omega) c (by omega))) rfl (Nat.le_of_ble_eq_true rfl) (by omega) ?_
              refine WP.isub dX6_hasEvenDifferences_45 ?_
              refine WP.iload_n dX6_hasEvenDifferences_46 rfl ?_
              refine WP.iadd dX6_hasEvenDifferences_47 ?_
              refine WP.eqs (st' := [vI ((ce r d + s - ce r c : Nat) : Int)]) rfl (lc (congrArg vI (by omega)) rfl) ?_
              refine WP.iload_n dX6_hasEvenDifferences_48 rfl ?_
              refine WP.irem dX6_hasEvenDifferences_49 (by omega) (by omega) ?_
              refine WP.eqs (st' := [vI (((ce r d + s - ce r c) % s : Nat) : Int)]) rfl (lc (congrArg vI (by omega)) rfl) ?_
              refine WP.iload dX6_hasEvenDifferences_50 rfl ?_
              refine WP.icmp_ne (tgt := 58) dX6_hasEvenDifferences_52 (by decide) (by omega) (by omega) (fun h52 => ?_) (fun h52 => ?_)
              · skip
                refine WP.iinc (lt := [vR t, vI ((c : Nat) : Int), vI ((d : Nat) : Int), vI ((s : Nat) : Int), vI ((v : Nat) : Int), vI ((dfc r ce s c d v : Nat) : Int), vI (((r : Nat) : Int) + 1)]) dX6_hasEvenDifferences_58 rfl (by decide) rfl ?_
                refine WP.goto (tgt := 22) dX6_hasEvenDifferences_61 (by decide) ?_
                refine WP.fgt (lt := [vR t, vI ((c : Nat) : Int), vI ((d : Nat) : Int), vI ((s : Nat) : Int), vI ((v : Nat) : Int), vI ((dfc (r + 1) ce s c d v : Nat) : Int), vI (((r + 1) : Nat) : Int)]) ⟨Or.inr rfl, Or.inr rfl, Or.inr rfl, Or.inr rfl, Or.inr rfl, Or.inr (congrArg vI (by unfold dfc; rw [cn_f (p := fun r => (ce r d + s - ce r c) % s = v) (by omega)])), Or.inr (congrArg vI (by omega)), trivial⟩ ?_
                exact ih22 (r + 1) (by omega) (by omega)
              · skip
                refine WP.iinc (lt := [vR t, vI ((c : Nat) : Int), vI ((d : Nat) : Int), vI ((s : Nat) : Int), vI ((v : Nat) : Int), vI (((dfc r ce s c d v : Nat) : Int) + 1), vI ((r : Nat) : Int)]) dX6_hasEvenDifferences_55 rfl (by decide) rfl ?_
                refine WP.iinc (lt := [vR t, vI ((c : Nat) : Int), vI ((d : Nat) : Int), vI ((s : Nat) : Int), vI ((v : Nat) : Int), vI (((dfc r ce s c d v : Nat) : Int) + 1), vI (((r : Nat) : Int) + 1)]) dX6_hasEvenDifferences_58 rfl (by decide) rfl ?_
                refine WP.goto (tgt := 22) dX6_hasEvenDifferences_61 (by decide) ?_
                refine WP.fgt (lt := [vR t, vI ((c : Nat) : Int), vI ((d : Nat) : Int), vI ((s : Nat) : Int), vI ((v : Nat) : Int), vI ((dfc (r + 1) ce s c d v : Nat) : Int), vI (((r + 1) : Nat) : Int)]) ⟨Or.inr rfl, Or.inr rfl, Or.inr rfl, Or.inr rfl, Or.inr rfl, Or.inr (congrArg vI (by unfold dfc; rw [cn_t (p := fun r => (ce r d + s - ce r c) % s = v) (by omega)]; omega)), Or.inr (congrArg vI (by omega)), trivial⟩ ?_
                exact ih22 (r + 1) (by omega) (by omega)
        refine WP.fgt (lt := [vR t, vI ((c : Nat) : Int), vI ((d : Nat) : Int), vI ((s : Nat) : Int), vI ((v : Nat) : Int), vI ((dfc 0 ce s c d v : Nat) : Int), vI ((0 : Nat) : Int)]) ⟨Or.inr rfl, Or.inr rfl, Or.inr rfl, Or.inr rfl, Or.inr rfl, Or.inr (congrArg vI (rfl)), Or.inr (congrArg vI (by omega)), trivial⟩ ?_
        exact L22 _ (0) (Nat.zero_le _) (Nat.lt_succ_self _)
  refine WP.fgt (lt := [vR t, vI ((c : Nat) : Int), vI ((d : Nat) : Int), vI ((s : Nat) : Int), vI ((0 : Nat) : Int), vU, vU]) ⟨Or.inr rfl, Or.inr rfl, Or.inr rfl, Or.inr rfl, Or.inr (congrArg vI (by omega)), Or.inl rfl, Or.inl rfl, trivial⟩ ?_
  exact L10 _ (0) (Nat.zero_le _) (fun w hw => absurd hw (Nat.not_lt_zero w)) (Nat.lt_succ_self _)
set_option maxHeartbeats 4000000 in
set_option maxRecDepth 20000 in
theorem c_T_isScheme {M : Mem} {t n k : Nat} {sz : Nat → Nat} {ce : Nat → Nat → Nat} (ht : isT t) (hT : TX M t n k sz ce) (hW : Wf n k sz ce) : CT 3 m_X6_isScheme [vR t] M (Rt (some (vI (bi (sch n k sz ce)))) M) := by
  have b1 := hW.1
  have b2 := hW.2.1
  refine CT.ofWP (by decide +kernel) (Nat.le_of_ble_eq_true rfl) ?_
  show WP sc0 3 m_X6_isScheme 0 [vR t, vU, vU] [] M (Rt (some (vI (bi (sch n k sz ce)))) M)
  refine WP.iconst dX6_isScheme_0 ?_
  refine WP.istore_n (lt := [vR t, vI (0 : Int), vU]) dX6_isScheme_1 (by decide) rfl ?_
  have L2 : ∀ (n9 : Nat) (c : Nat) (hc : c ≤ k) (hn : ∀ b, b < c → sz b = sz 0), k - c < n9 → WP sc0 3 m_X6_isScheme 2 [vR t, vI ((c : Nat) : Int), vU] [] M (Rt (some (vI (bi (sch n k sz ce)))) M) := by
    intro n9
    induction n9 with
    | zero =>
      intro c hc hn hm9
      exact absurd hm9 (Nat.not_lt_zero _)
    | succ n9 ih2 =>
      intro c hc hn hm9
      have b1 := hW.1
      have b2 := hW.2.1
      refine WP.iload_n dX6_isScheme_2 rfl ?_
      refine WP.aload_n dX6_isScheme_3 rfl ?_
      refine WP.getI (x := ((k : Nat) : Int)) dX6_isScheme_4 fl_X6_15 (shT0 ht) (by decide) (hT.2.1) ?_
      refine WP.icmp_ge (tgt := 33) dX6_isScheme_7 (by decide) (by omega) (by omega) (fun h7 => ?_) (fun h7 => ?_)
      · skip
        have hz : ∀ b, b < k → sz b = sz 0 := fun b hb => hn b (by omega)
        refine WP.iconst dX6_isScheme_33 ?_
        refine WP.istore_n (lt := [vR t, vI (1 : Int), vU]) dX6_isScheme_34 (by decide) rfl ?_
        have L35 : ∀ (n9 : Nat) (d : Nat) (hd : d ≤ k ∨ (k = 0 ∧ d = 1)) (hd1 : 1 ≤ d) (he : ∀ d0, d0 < d → d0 < k → ∀ c0, c0 < d0 → evn n ce (sz 0) c0 d0), k + 1 - d < n9 → WP sc0 3 m_X6_isScheme 35 [vR t, vI ((d : Nat) : Int), vU] [] M (Rt (some (vI (bi (sch n k sz ce)))) M) := by
          intro n9
          induction n9 with
          | zero =>
            intro d hd hd1 he hm9
            exact absurd hm9 (Nat.not_lt_zero _)
          | succ n9 ih35 =>
            intro d hd hd1 he hm9
            have b1 := hW.1
            have b2 := hW.2.1
            refine WP.iload_n dX6_isScheme_35 rfl ?_
            refine WP.aload_n dX6_isScheme_36 rfl ?_
            refine WP.getI (x := ((k : Nat) : Int)) dX6_isScheme_37 fl_X6_15 (shT0 ht) (by decide) (hT.2.1) ?_
            refine WP.icmp_ge (tgt := 73) dX6_isScheme_40 (by decide) (by omega) (by omega) (fun h40 => ?_) (fun h40 => ?_)
            · skip
              refine WP.aload_n dX6_isScheme_73 rfl ?_
              refine WP.getI (x := ((k : Nat) : Int)) dX6_isScheme_74 fl_X6_15 (shT0 ht) (by decide) (hT.2.1) ?_
              refine WP.if_le (tgt := 84) dX6_isScheme_77 (by decide) (by omega) (fun h77 => ?_) (fun h77 => ?_)
              · skip
                refine WP.iconst dX6_isScheme_84 ?_
                refine WP.zret dX6_isScheme_85 rfl (by decide) ?_
                exact ⟨congrArg some (congrArg vI (bi_f (fun z => by have := z.1; omega)).symm), rfl⟩
              · skip
                refine WP.iconst dX6_isScheme_80 ?_
                refine WP.goto (tgt := 85) dX6_isScheme_81 (by decide) ?_
                refine WP.zret dX6_isScheme_85 rfl (by decide) ?_
                exact ⟨congrArg some (congrArg vI (bi_t (show sch n k sz ce from ⟨by omega, hz, fun d0 h0 c0 h1 => he d0 (by omega) h0 c0 h1⟩)).symm), rfl⟩
            · skip
              have hdk : d < k := by omega
              refine WP.iconst dX6_isScheme_43 ?_
              refine WP.istore_n (lt := [vR t, vI ((d : Nat) : Int), vI (0 : Int)]) dX6_isScheme_44 (by decide) rfl ?_
              have L45 : ∀ (n9 : Nat) (f : Nat) (hfd : f ≤ d) (hf : ∀ c0, c0 < f → evn n ce (sz 0) c0 d), d - f < n9 → WP sc0 3 m_X6_isScheme 45 [vR t, vI ((d : Nat) : Int), vI ((f : Nat) : Int)] [] M (Rt (some (vI (bi (sch n k sz ce)))) M) := by
                intro n9
                induction n9 with
                | zero =>
                  intro f hfd hf hm9
                  exact absurd hm9 (Nat.not_lt_zero _)
                | succ n9 ih45 =>
                  intro f hfd hf hm9
                  have b1 := hW.1
                  have b2 := hW.2.1
                  refine WP.iload_n dX6_isScheme_45 rfl ?_
                  refine WP.iload_n dX6_isScheme_46 rfl ?_
                  refine WP.icmp_ge (tgt := 67) dX6_isScheme_47 (by decide) (by omega) (by omega) (fun h47 => ?_) (fun h47 => ?_)
                  · skip
                    refine WP.iinc (lt := [vR t, vI (((d : Nat) : Int) + 1), vI ((f : Nat) : Int)]) dX6_isScheme_67 rfl (by decide) rfl ?_
                    refine WP.goto (tgt := 35) dX6_isScheme_70 (by decide) ?_
                    refine WP.fgt (lt := [vR t, vI (((d + 1) : Nat) : Int), vU]) ⟨Or.inr rfl, Or.inr (congrArg vI (by omega)), Or.inl rfl, trivial⟩ ?_
                    exact ih35 (d + 1) (by omega) (by omega) (fun d0 h1 h3 c0 h2 => by
                      by_cases e : d0 = d
                      · subst e; exact hf c0 (by omega)
                      · exact he d0 (by omega) h3 c0 h2) (by omega)
                  · skip
                    refine WP.aload_n dX6_isScheme_50 rfl ?_
                    refine WP.iload_n dX6_isScheme_51 rfl ?_
                    refine WP.iload_n dX6_isScheme_52 rfl ?_
                    refine WP.callVp (as := [vI ((f : Nat) : Int), vI ((d : Nat) : Int)]) dX6_isScheme_53 mv_X6_56 rfl (shT0 ht) (by decide) rfl rfl (c_T_evn (c := f) (d := d) (s := sz 0) ht hT hW (by omega) (by omega) (hz f (by omega)) (hz d (by omega)) (hW.2.2.1 0 (by omega))) rfl (Nat.le_of_ble_eq_true rfl) (by omega) ?_
                    refine WP.if_ne (tgt := 61) dX6_isScheme_56 (by decide) (bi_rng) (fun h56 => ?_) (fun h56 => ?_)
                    · skip
                      refine WP.iinc (lt := [vR t, vI ((d : Nat) : Int), vI (((f : Nat) : Int) + 1)]) dX6_isScheme_61 rfl (by decide) rfl ?_
                      refine WP.goto (tgt := 45) dX6_isScheme_64 (by decide) ?_
                      refine WP.fgt (lt := [vR t, vI ((d : Nat) : Int), vI (((f + 1) : Nat) : Int)]) ⟨Or.inr rfl, Or.inr rfl, Or.inr (congrArg vI (by omega)), trivial⟩ ?_
                      exact ih45 (f + 1) (by omega) (fun c0 h => by
                        by_cases e : c0 = f
                        · rw [e]; exact bi_1 h56
                        · exact hf c0 (by omega)) (by omega)
                    · skip
                      refine WP.iconst dX6_isScheme_59 ?_
                      refine WP.zret dX6_isScheme_60 rfl (by decide) ?_
                      exact ⟨congrArg some (congrArg vI (bi_f (fun z => bi_0 h56 (z.2.2 d (by omega) f (by omega)))).symm), rfl⟩
              refine WP.fgt (lt := [vR t, vI ((d : Nat) : Int), vI ((0 : Nat) : Int)]) ⟨Or.inr rfl, Or.inr rfl, Or.inr (congrArg vI (by omega)), trivial⟩ ?_
              exact L45 _ (0) (Nat.zero_le _) (fun c0 h => absurd h (Nat.not_lt_zero c0)) (Nat.lt_succ_self _)
        refine WP.fgt (lt := [vR t, vI ((1 : Nat) : Int), vU]) ⟨Or.inr rfl, Or.inr (congrArg vI (by omega)), Or.inl rfl, trivial⟩ ?_
        exact L35 _ (1) (by omega) (by omega) (fun d0 h1 h3 c0 h2 => by omega) (Nat.lt_succ_self _)
      · skip
        refine WP.aload_n dX6_isScheme_10 rfl ?_
        refine WP.getR (y := (t + 1)) dX6_isScheme_11 fl_X6_18 (shT0 ht) (by decide) (srT1 ht) ?_
        refine WP.iload_n dX6_isScheme_14 rfl ?_
        refine WP.iaload (y := c) (x := ((sz c : Nat) : Int)) dX6_isScheme_15 (shT1 ht) (by omega) (by omega) (hT.2.2.1 c (by omega)) ?_
        refine WP.aload_n dX6_isScheme_16 rfl ?_
        refine WP.getR (y := (t + 1)) dX6_isScheme_17 fl_X6_18 (shT0 ht) (by decide) (srT1 ht) ?_
        refine WP.iconst dX6_isScheme_20 ?_
        refine WP.iaload (y := 0) (x := ((sz 0 : Nat) : Int)) dX6_isScheme_21 (shT1 ht) (by omega) (by omega) (hT.2.2.1 0 (by omega)) ?_
        refine WP.icmp_eq (tgt := 27) dX6_isScheme_22 (by decide) (by have := hW.2.2.1 c (by omega); omega) (by have := hW.2.2.1 0 (by omega); omega) (fun h22 => ?_) (fun h22 => ?_)
        · skip
          refine WP.iinc (lt := [vR t, vI (((c : Nat) : Int) + 1), vU]) dX6_isScheme_27 rfl (by decide) rfl ?_
          refine WP.goto (tgt := 2) dX6_isScheme_30 (by decide) ?_
          refine WP.fgt (lt := [vR t, vI (((c + 1) : Nat) : Int), vU]) ⟨Or.inr rfl, Or.inr (congrArg vI (by omega)), Or.inl rfl, trivial⟩ ?_
          exact ih2 (c + 1) (by omega) (fun b hb => by
            by_cases e : b = c
            · rw [e]; omega
            · exact hn b (by omega)) (by omega)
        · skip
          refine WP.iconst dX6_isScheme_25 ?_
          refine WP.zret dX6_isScheme_26 rfl (by decide) ?_
          exact ⟨congrArg some (congrArg vI (bi_f (fun z => h22 (by rw [z.2.1 c (by omega)]))).symm), rfl⟩
  refine WP.fgt (lt := [vR t, vI ((0 : Nat) : Int), vU]) ⟨Or.inr rfl, Or.inr (congrArg vI (by omega)), Or.inl rfl, trivial⟩ ?_
  exact L2 _ (0) (Nat.zero_le _) (fun b hb => absurd hb (Nat.not_lt_zero b)) (Nat.lt_succ_self _)
