set_option maxHeartbeats 4000000 in
set_option maxRecDepth 20000 in
theorem w_order {M : Mem} {n k : Nat} {sz : Nat → Nat} {ce : Nat → Nat → Nat} {r q : Nat} (hA : BX (M 168) n k sz ce) (hW : Wf n k sz ce) (hr : r < n) (hq : q < n) : CT 2 m_X8_order [vR 167, vI ((r : Nat) : Int), vI ((q : Nat) : Int)] M (Rt (some (vI (ord ce r q k))) M) := by
  have b1 := hW.1
  have b2 := hW.2.1
  refine CT.ofWP (by decide +kernel) (Nat.le_of_ble_eq_true rfl) ?_
  show WP sc0 2 m_X8_order 0 [vR 167, vI ((r : Nat) : Int), vI ((q : Nat) : Int), vU] [] M (Rt (some (vI (ord ce r q k))) M)
  refine WP.iconst dX8_order_0 ?_
  refine WP.istore_n (lt := [vR 167, vI ((r : Nat) : Int), vI ((q : Nat) : Int), vI (0 : Int)]) dX8_order_1 (by decide) rfl ?_
  have L2 : ∀ (n9 : Nat) (c : Nat) (hc : c ≤ k) (ha : ord ce r q k = ordv ce r q k (k - c)), k - c < n9 → WP sc0 2 m_X8_order 2 [vR 167, vI ((r : Nat) : Int), vI ((q : Nat) : Int), vI ((c : Nat) : Int)] [] M (Rt (some (vI (ord ce r q k))) M) := by
    intro n9
    induction n9 with
    | zero =>
      intro c hc ha hm9
      exact absurd hm9 (Nat.not_lt_zero _)
    | succ n9 ih2 =>
      intro c hc ha hm9
      refine WP.iload_n dX8_order_2 rfl ?_
      refine WP.aload_n dX8_order_3 rfl ?_
      refine WP.getR (y := 168) dX8_order_4 fl_X8_7 (rfl) (by decide) (rfl) ?_
      refine WP.iconst dX8_order_7 ?_
      refine WP.iaload (y := 1) (x := ((k : Nat) : Int)) dX8_order_8 (rfl) (by omega) (by omega) (hA.2.1) ?_
      refine WP.icmp_ge (tgt := 47) dX8_order_9 (by decide) (by omega) (by omega) (fun h9 => ?_) (fun h9 => ?_)
      · skip
        have e1 : k = c := by omega
        subst e1
        refine WP.iconst dX8_order_47 ?_
        refine WP.iret dX8_order_48 rfl ?_
        rw [ha, Nat.sub_self]
        exact ⟨rfl, rfl⟩
      · skip
        have w1 := hW.2.2.2 r hr c (by omega)
        have w2 := hW.2.2.2 q hq c (by omega)
        have w3 := hW.2.2.1 c (by omega)
        refine WP.aload_n dX8_order_12 rfl ?_
        refine WP.iload_n dX8_order_13 rfl ?_
        refine WP.iload_n dX8_order_14 rfl ?_
        refine WP.callVp (as := [vI ((r : Nat) : Int), vI ((c : Nat) : Int)]) dX8_order_15 mv_X8_62 rfl (rfl) (by decide) rfl rfl (w_at (r := r) (c := c) (by omega) (by omega) (hA.2.2.2 (r) (by omega) (c) (by omega))) rfl (Nat.le_of_ble_eq_true rfl) (by omega) ?_
        refine WP.aload_n dX8_order_18 rfl ?_
        refine WP.iload_n dX8_order_19 rfl ?_
        refine WP.iload_n dX8_order_20 rfl ?_
        refine WP.callVp (as := [vI ((q : Nat) : Int), vI ((c : Nat) : Int)]) dX8_order_21 mv_X8_62 rfl (rfl) (by decide) rfl rfl (w_at (r := q) (c := c) (by omega) (by omega) (hA.2.2.2 (q) (by omega) (c) (by omega))) rfl (Nat.le_of_ble_eq_true rfl) (by omega) ?_
        refine WP.icmp_eq (tgt := 41) dX8_order_24 (by decide) (by omega) (by omega) (fun h24 => ?_) (fun h24 => ?_)
        · skip
          refine WP.iinc (lt := [vR 167, vI ((r : Nat) : Int), vI ((q : Nat) : Int), vI (((c : Nat) : Int) + 1)]) dX8_order_41 rfl (by decide) rfl ?_
          refine WP.goto (tgt := 2) dX8_order_44 (by decide) ?_
          refine WP.fgt (lt := [vR 167, vI ((r : Nat) : Int), vI ((q : Nat) : Int), vI (((c + 1) : Nat) : Int)]) ⟨Or.inr rfl, Or.inr rfl, Or.inr rfl, Or.inr (congrArg vI (by omega)), trivial⟩ ?_
          exact ih2 (c + 1) (by omega) (by rw [ha, ordv_step (by omega), if_neg (by omega)]) (by omega)
        · skip
          refine WP.aload_n dX8_order_27 rfl ?_
          refine WP.iload_n dX8_order_28 rfl ?_
          refine WP.iload_n dX8_order_29 rfl ?_
          refine WP.callVp (as := [vI ((r : Nat) : Int), vI ((c : Nat) : Int)]) dX8_order_30 mv_X8_62 rfl (rfl) (by decide) rfl rfl (w_at (r := r) (c := c) (by omega) (by omega) (hA.2.2.2 (r) (by omega) (c) (by omega))) rfl (Nat.le_of_ble_eq_true rfl) (by omega) ?_
          refine WP.aload_n dX8_order_33 rfl ?_
          refine WP.iload_n dX8_order_34 rfl ?_
          refine WP.iload_n dX8_order_35 rfl ?_
          refine WP.callVp (as := [vI ((q : Nat) : Int), vI ((c : Nat) : Int)]) dX8_order_36 mv_X8_62 rfl (rfl) (by decide) rfl rfl (w_at (r := q) (c := c) (by omega) (by omega) (hA.2.2.2 (q) (by omega) (c) (by omega))) rfl (Nat.le_of_ble_eq_true rfl) (by omega) ?_
          refine WP.isub dX8_order_39 ?_
          refine WP.iret dX8_order_40 rfl ?_
          rw [ha, ordv_step (by omega), if_pos (by omega)]
          exact ⟨rfl, rfl⟩
  refine WP.fgt (lt := [vR 167, vI ((r : Nat) : Int), vI ((q : Nat) : Int), vI ((0 : Nat) : Int)]) ⟨Or.inr rfl, Or.inr rfl, Or.inr rfl, Or.inr (congrArg vI (by omega)), trivial⟩ ?_
  exact L2 _ (0) (Nat.zero_le _) (rfl) (Nat.lt_succ_self _)
set_option maxHeartbeats 4000000 in
set_option maxRecDepth 20000 in
theorem w_isCopy {M : Mem} {n k : Nat} {sz : Nat → Nat} {ce : Nat → Nat → Nat} {r : Nat} (hA : BX (M 168) n k sz ce) (hW : Wf n k sz ce) (hr : r < n) : CT 3 m_X8_isCopy [vR 167, vI ((r : Nat) : Int)] M (Rt (some (vI (bi (isC ce k r)))) M) := by
  have b1 := hW.1
  have b2 := hW.2.1
  refine CT.ofWP (by decide +kernel) (Nat.le_of_ble_eq_true rfl) ?_
  show WP sc0 3 m_X8_isCopy 0 [vR 167, vI ((r : Nat) : Int), vU] [] M (Rt (some (vI (bi (isC ce k r)))) M)
  refine WP.iconst dX8_isCopy_0 ?_
  refine WP.istore_n (lt := [vR 167, vI ((r : Nat) : Int), vI (0 : Int)]) dX8_isCopy_1 (by decide) rfl ?_
  have L2 : ∀ (n9 : Nat) (q : Nat) (hq : q ≤ r) (hn : ∀ p, p < q → ord ce p r k ≠ 0), r - q < n9 → WP sc0 3 m_X8_isCopy 2 [vR 167, vI ((r : Nat) : Int), vI ((q : Nat) : Int)] [] M (Rt (some (vI (bi (isC ce k r)))) M) := by
    intro n9
    induction n9 with
    | zero =>
      intro q hq hn hm9
      exact absurd hm9 (Nat.not_lt_zero _)
    | succ n9 ih2 =>
      intro q hq hn hm9
      refine WP.iload_n dX8_isCopy_2 rfl ?_
      refine WP.iload_n dX8_isCopy_3 rfl ?_
      refine WP.icmp_ge (tgt := 24) dX8_isCopy_4 (by decide) (by omega) (by omega) (fun h4 => ?_) (fun h4 => ?_)
      · skip
        refine WP.iconst dX8_isCopy_24 ?_
        refine WP.zret dX8_isCopy_25 rfl (by decide) ?_
        exact ⟨congrArg some (congrArg vI (bi_f (fun ⟨p, hp, h⟩ => hn p (by omega) h)).symm), rfl⟩
      · skip
        refine WP.aload_n dX8_isCopy_7 rfl ?_
        refine WP.iload_n dX8_isCopy_8 rfl ?_
        refine WP.iload_n dX8_isCopy_9 rfl ?_
        refine WP.callVp (as := [vI ((q : Nat) : Int), vI ((r : Nat) : Int)]) dX8_isCopy_10 mv_X8_83 rfl (rfl) (by decide) rfl rfl (w_order (r := q) (q := r) hA hW (by omega) (by omega)) rfl (Nat.le_of_ble_eq_true rfl) (by omega) ?_
        refine WP.if_ne (tgt := 18) dX8_isCopy_13 (by decide) (by have := ordv_rng hW (r := q) (q := r) (by omega) hr k (Nat.le_refl _); unfold ord; omega) (fun h13 => ?_) (fun h13 => ?_)
        · skip
          refine WP.iinc (lt := [vR 167, vI ((r : Nat) : Int), vI (((q : Nat) : Int) + 1)]) dX8_isCopy_18 rfl (by decide) rfl ?_
          refine WP.goto (tgt := 2) dX8_isCopy_21 (by decide) ?_
          refine WP.fgt (lt := [vR 167, vI ((r : Nat) : Int), vI (((q + 1) : Nat) : Int)]) ⟨Or.inr rfl, Or.inr rfl, Or.inr (congrArg vI (by omega)), trivial⟩ ?_
          exact ih2 (q + 1) (by omega) (fun p hp => by
            by_cases e9 : p = q
            · rw [e9]; exact h13
            · exact hn p (by omega)) (by omega)
        · skip
          refine WP.iconst dX8_isCopy_16 ?_
          refine WP.zret dX8_isCopy_17 rfl (by decide) ?_
          exact ⟨congrArg some (congrArg vI (bi_t ⟨q, by omega, h13⟩).symm), rfl⟩
  refine WP.fgt (lt := [vR 167, vI ((r : Nat) : Int), vI ((0 : Nat) : Int)]) ⟨Or.inr rfl, Or.inr rfl, Or.inr (congrArg vI (by omega)), trivial⟩ ?_
  exact L2 _ (0) (Nat.zero_le _) (fun p hp => absurd hp (Nat.not_lt_zero p)) (Nat.lt_succ_self _)
set_option maxHeartbeats 4000000 in
set_option maxRecDepth 20000 in
theorem w_copies {M : Mem} {n k : Nat} {sz : Nat → Nat} {ce : Nat → Nat → Nat} (hA : BX (M 168) n k sz ce) (hW : Wf n k sz ce) : CT 4 m_X8_copies [vR 167] M (Rt (some (vI ((cn (isC ce k) n : Nat) : Int))) M) := by
  have b1 := hW.1
  have b2 := hW.2.1
  refine CT.ofWP (by decide +kernel) (Nat.le_of_ble_eq_true rfl) ?_
  show WP sc0 4 m_X8_copies 0 [vR 167, vU, vU] [] M (Rt (some (vI ((cn (isC ce k) n : Nat) : Int))) M)
  refine WP.iconst dX8_copies_0 ?_
  refine WP.istore_n (lt := [vR 167, vI (0 : Int), vU]) dX8_copies_1 (by decide) rfl ?_
  refine WP.iconst dX8_copies_2 ?_
  refine WP.istore_n (lt := [vR 167, vI (0 : Int), vI (0 : Int)]) dX8_copies_3 (by decide) rfl ?_
  have L4 : ∀ (n9 : Nat) (r : Nat) (hr : r ≤ n), n - r < n9 → WP sc0 4 m_X8_copies 4 [vR 167, vI ((cn (isC ce k) r : Nat) : Int), vI ((r : Nat) : Int)] [] M (Rt (some (vI ((cn (isC ce k) n : Nat) : Int))) M) := by
    intro n9
    induction n9 with
    | zero =>
      intro r hr hm9
      exact absurd hm9 (Nat.not_lt_zero _)
    | succ n9 ih4 =>
      intro r hr hm9
      have hcl := cn_le (isC ce k) r
      refine WP.iload_n dX8_copies_4 rfl ?_
      refine WP.aload_n dX8_copies_5 rfl ?_
      refine WP.getR (y := 168) dX8_copies_6 fl_X8_7 (rfl) (by decide) (rfl) ?_
      refine WP.iconst dX8_copies_9 ?_
      refine WP.iaload (y := 0) (x := ((n : Nat) : Int)) dX8_copies_10 (rfl) (by omega) (by omega) (hA.1) ?_
      refine WP.icmp_ge (tgt := 36) dX8_copies_11 (by decide) (by omega) (by omega) (fun h11 => ?_) (fun h11 => ?_)
      · skip
        refine WP.iload_n dX8_copies_36 rfl ?_
        refine WP.iret dX8_copies_37 rfl ?_
        rw [show r = n by omega]
        exact ⟨rfl, rfl⟩
      · skip
        refine WP.iload_n dX8_copies_14 rfl ?_
        refine WP.aload_n dX8_copies_15 rfl ?_
        refine WP.iload_n dX8_copies_16 rfl ?_
        refine WP.callVp (as := [vI ((r : Nat) : Int)]) dX8_copies_17 mv_X8_86 rfl (rfl) (by decide) rfl rfl (w_isCopy (r := r) hA hW (by omega)) rfl (Nat.le_of_ble_eq_true rfl) (by omega) ?_
        refine WP.if_eq (tgt := 27) dX8_copies_20 (by decide) (bi_rng) (fun h20 => ?_) (fun h20 => ?_)
        · skip
          have q20 : cn (isC ce k) (r + 1) = cn (isC ce k) r := cn_f (bi_0 h20)
          refine WP.iconst dX8_copies_27 ?_
          refine WP.iadd dX8_copies_28 ?_
          refine WP.istore_n (lt := [vR 167, vI (((cn (isC ce k) r : Nat) : Int) + (0 : Int)), vI ((r : Nat) : Int)]) dX8_copies_29 (by decide) rfl ?_
          refine WP.iinc (lt := [vR 167, vI (((cn (isC ce k) r : Nat) : Int) + (0 : Int)), vI (((r : Nat) : Int) + 1)]) dX8_copies_30 rfl (by decide) rfl ?_
          refine WP.goto (tgt := 4) dX8_copies_33 (by decide) ?_
          refine WP.fgt (lt := [vR 167, vI ((cn (isC ce k) (r + 1) : Nat) : Int), vI (((r + 1) : Nat) : Int)]) ⟨Or.inr rfl, Or.inr (congrArg vI (by rw [q20]; omega)), Or.inr (congrArg vI (by omega)), trivial⟩ ?_
          exact ih4 (r + 1) (by omega) (by omega)
        · skip
          have q20 : cn (isC ce k) (r + 1) = cn (isC ce k) r + 1 := cn_t (bi_1 h20)
          refine WP.iconst dX8_copies_23 ?_
          refine WP.goto (tgt := 28) dX8_copies_24 (by decide) ?_
          refine WP.iadd dX8_copies_28 ?_
          refine WP.istore_n (lt := [vR 167, vI (((cn (isC ce k) r : Nat) : Int) + (1 : Int)), vI ((r : Nat) : Int)]) dX8_copies_29 (by decide) rfl ?_
          refine WP.iinc (lt := [vR 167, vI (((cn (isC ce k) r : Nat) : Int) + (1 : Int)), vI (((r : Nat) : Int) + 1)]) dX8_copies_30 rfl (by decide) rfl ?_
          refine WP.goto (tgt := 4) dX8_copies_33 (by decide) ?_
          refine WP.fgt (lt := [vR 167, vI ((cn (isC ce k) (r + 1) : Nat) : Int), vI (((r + 1) : Nat) : Int)]) ⟨Or.inr rfl, Or.inr (congrArg vI (by rw [q20]; omega)), Or.inr (congrArg vI (by omega)), trivial⟩ ?_
          exact ih4 (r + 1) (by omega) (by omega)
  refine WP.fgt (lt := [vR 167, vI ((cn (isC ce k) 0 : Nat) : Int), vI ((0 : Nat) : Int)]) ⟨Or.inr rfl, Or.inr (congrArg vI (rfl)), Or.inr (congrArg vI (by omega)), trivial⟩ ?_
  exact L4 _ (0) (Nat.zero_le _) (Nat.lt_succ_self _)
set_option maxHeartbeats 4000000 in
set_option maxRecDepth 20000 in
theorem w_agreeing {M : Mem} {n k : Nat} {sz : Nat → Nat} {ce : Nat → Nat → Nat} {r q : Nat} (hA : BX (M 168) n k sz ce) (hW : Wf n k sz ce) (hr : r < n) (hq : q < n) : CT 2 m_X8_agreeing [vR 167, vI ((r : Nat) : Int), vI ((q : Nat) : Int)] M (Rt (some (vI ((agr ce r q k : Nat) : Int))) M) := by
  have b1 := hW.1
  have b2 := hW.2.1
  refine CT.ofWP (by decide +kernel) (Nat.le_of_ble_eq_true rfl) ?_
  show WP sc0 2 m_X8_agreeing 0 [vR 167, vI ((r : Nat) : Int), vI ((q : Nat) : Int), vU, vU] [] M (Rt (some (vI ((agr ce r q k : Nat) : Int))) M)
  refine WP.iconst dX8_agreeing_0 ?_
  refine WP.istore_n (lt := [vR 167, vI ((r : Nat) : Int), vI ((q : Nat) : Int), vI (0 : Int), vU]) dX8_agreeing_1 (by decide) rfl ?_
  refine WP.iconst dX8_agreeing_2 ?_
  refine WP.istore (lt := [vR 167, vI ((r : Nat) : Int), vI ((q : Nat) : Int), vI (0 : Int), vI (0 : Int)]) dX8_agreeing_3 (by decide) rfl ?_
  have L5 : ∀ (n9 : Nat) (c : Nat) (hc : c ≤ k), k - c < n9 → WP sc0 2 m_X8_agreeing 5 [vR 167, vI ((r : Nat) : Int), vI ((q : Nat) : Int), vI ((agr ce r q c : Nat) : Int), vI ((c : Nat) : Int)] [] M (Rt (some (vI ((agr ce r q k : Nat) : Int))) M) := by
    intro n9
    induction n9 with
    | zero =>
      intro c hc hm9
      exact absurd hm9 (Nat.not_lt_zero _)
    | succ n9 ih5 =>
      intro c hc hm9
      have hcl := agr_le ce r q c
      refine WP.iload dX8_agreeing_5 rfl ?_
      refine WP.aload_n dX8_agreeing_7 rfl ?_
      refine WP.getR (y := 168) dX8_agreeing_8 fl_X8_7 (rfl) (by decide) (rfl) ?_
      refine WP.iconst dX8_agreeing_11 ?_
      refine WP.iaload (y := 1) (x := ((k : Nat) : Int)) dX8_agreeing_12 (rfl) (by omega) (by omega) (hA.2.1) ?_
      refine WP.icmp_ge (tgt := 47) dX8_agreeing_13 (by decide) (by omega) (by omega) (fun h13 => ?_) (fun h13 => ?_)
      · skip
        refine WP.iload_n dX8_agreeing_47 rfl ?_
        refine WP.iret dX8_agreeing_48 rfl ?_
        rw [show c = k by omega]
        exact ⟨rfl, rfl⟩
      · skip
        refine WP.iload_n dX8_agreeing_16 rfl ?_
        refine WP.aload_n dX8_agreeing_17 rfl ?_
        refine WP.iload_n dX8_agreeing_18 rfl ?_
        refine WP.iload dX8_agreeing_19 rfl ?_
        refine WP.callVp (as := [vI ((r : Nat) : Int), vI ((c : Nat) : Int)]) dX8_agreeing_21 mv_X8_62 rfl (rfl) (by decide) rfl rfl (w_at (r := r) (c := c) (by omega) (by omega) (hA.2.2.2 (r) (by omega) (c) (by omega))) rfl (Nat.le_of_ble_eq_true rfl) (by omega) ?_
        refine WP.aload_n dX8_agreeing_24 rfl ?_
        refine WP.iload_n dX8_agreeing_25 rfl ?_
        refine WP.iload dX8_agreeing_26 rfl ?_
        refine WP.callVp (as := [vI ((q : Nat) : Int), vI ((c : Nat) : Int)]) dX8_agreeing_28 mv_X8_62 rfl (rfl) (by decide) rfl rfl (w_at (r := q) (c := c) (by omega) (by omega) (hA.2.2.2 (q) (by omega) (c) (by omega))) rfl (Nat.le_of_ble_eq_true rfl) (by omega) ?_
        refine WP.icmp_ne (tgt := 38) dX8_agreeing_31 (by decide) (by have := hW.2.2.2 r hr c (by omega); have := hW.2.2.1 c (by omega); omega) (by have := hW.2.2.2 q hq c (by omega); have := hW.2.2.1 c (by omega); omega) (fun h31 => ?_) (fun h31 => ?_)
        · skip
          have q9 : agr ce r q (c + 1) = agr ce r q c := by rw [agr, if_neg (by omega), Nat.add_zero]
          refine WP.iconst dX8_agreeing_38 ?_
          refine WP.iadd dX8_agreeing_39 ?_
          refine WP.istore_n (lt := [vR 167, vI ((r : Nat) : Int), vI ((q : Nat) : Int), vI (((agr ce r q c : Nat) : Int) + (0 : Int)), vI ((c : Nat) : Int)]) dX8_agreeing_40 (by decide) rfl ?_
          refine WP.iinc (lt := [vR 167, vI ((r : Nat) : Int), vI ((q : Nat) : Int), vI (((agr ce r q c : Nat) : Int) + (0 : Int)), vI (((c : Nat) : Int) + 1)]) dX8_agreeing_41 rfl (by decide) rfl ?_
          refine WP.goto (tgt := 5) dX8_agreeing_44 (by decide) ?_
          refine WP.fgt (lt := [vR 167, vI ((r : Nat) : Int), vI ((q : Nat) : Int), vI ((agr ce r q (c + 1) : Nat) : Int), vI (((c + 1) : Nat) : Int)]) ⟨Or.inr rfl, Or.inr rfl, Or.inr rfl, Or.inr (congrArg vI (by rw [q9]; omega)), Or.inr (congrArg vI (by omega)), trivial⟩ ?_
          exact ih5 (c + 1) (by omega) (by omega)
        · skip
          have q9 : agr ce r q (c + 1) = agr ce r q c + 1 := by rw [agr, if_pos (by omega)]
          refine WP.iconst dX8_agreeing_34 ?_
          refine WP.goto (tgt := 39) dX8_agreeing_35 (by decide) ?_
          refine WP.iadd dX8_agreeing_39 ?_
          refine WP.istore_n (lt := [vR 167, vI ((r : Nat) : Int), vI ((q : Nat) : Int), vI (((agr ce r q c : Nat) : Int) + (1 : Int)), vI ((c : Nat) : Int)]) dX8_agreeing_40 (by decide) rfl ?_
          refine WP.iinc (lt := [vR 167, vI ((r : Nat) : Int), vI ((q : Nat) : Int), vI (((agr ce r q c : Nat) : Int) + (1 : Int)), vI (((c : Nat) : Int) + 1)]) dX8_agreeing_41 rfl (by decide) rfl ?_
          refine WP.goto (tgt := 5) dX8_agreeing_44 (by decide) ?_
          refine WP.fgt (lt := [vR 167, vI ((r : Nat) : Int), vI ((q : Nat) : Int), vI ((agr ce r q (c + 1) : Nat) : Int), vI (((c + 1) : Nat) : Int)]) ⟨Or.inr rfl, Or.inr rfl, Or.inr rfl, Or.inr (congrArg vI (by rw [q9]; omega)), Or.inr (congrArg vI (by omega)), trivial⟩ ?_
          exact ih5 (c + 1) (by omega) (by omega)
  refine WP.fgt (lt := [vR 167, vI ((r : Nat) : Int), vI ((q : Nat) : Int), vI ((agr ce r q 0 : Nat) : Int), vI ((0 : Nat) : Int)]) ⟨Or.inr rfl, Or.inr rfl, Or.inr rfl, Or.inr (congrArg vI (rfl)), Or.inr (congrArg vI (by omega)), trivial⟩ ?_
  exact L5 _ (0) (Nat.zero_le _) (Nat.lt_succ_self _)
theorem gcd_st {a b x y : Nat} (h : Nat.gcd x y = Nat.gcd a b) (_hy : y ≠ 0) : Nat.gcd y (x % y) = Nat.gcd a b := by
  rw [← h, Nat.gcd_comm x y, Nat.gcd_rec y x, Nat.gcd_comm]
theorem lcm_gd (m b : Nat) : Nat.lcm m b = m / Nat.gcd m b * b := by
  obtain ⟨t, ht⟩ := Nat.gcd_dvd_left m b
  by_cases e : Nat.gcd m b = 0
  · have := Nat.eq_zero_of_gcd_eq_zero_left e
    rw [this, Nat.lcm_zero_left, Nat.zero_div, Nat.zero_mul]
  · have hp : 0 < Nat.gcd m b := Nat.pos_of_ne_zero e
    have h1 : m / Nat.gcd m b = t := by
      have := Nat.mul_div_cancel_left t hp
      rw [← ht] at this
      exact this
    have h2 : m * b = Nat.gcd m b * (t * b) := by
      rw [← Nat.mul_assoc, ← ht]
    rw [h1]
    unfold Nat.lcm
    rw [h2, Nat.mul_div_cancel_left _ hp]
set_option maxHeartbeats 4000000 in
set_option maxRecDepth 20000 in
theorem w_divisor {M : Mem} {a b : Nat} (ha : a < 2147483648) (hb : b < 2147483648) : CT 1 m_X8_divisor [vI ((a : Nat) : Int), vI ((b : Nat) : Int)] M (Rt (some (vI ((Nat.gcd a b : Nat) : Int))) M) := by
  refine CT.ofWP (by decide +kernel) (Nat.le_of_ble_eq_true rfl) ?_
  show WP sc0 1 m_X8_divisor 0 [vI ((a : Nat) : Int), vI ((b : Nat) : Int), vU, vU, vU] [] M (Rt (some (vI ((Nat.gcd a b : Nat) : Int))) M)
  refine WP.iload_n dX8_divisor_0 rfl ?_
  refine WP.istore_n (lt := [vI ((a : Nat) : Int), vI ((b : Nat) : Int), vI ((a : Nat) : Int), vU, vU]) dX8_divisor_1 (by decide) rfl ?_
  refine WP.iload_n dX8_divisor_2 rfl ?_
  refine WP.istore_n (lt := [vI ((a : Nat) : Int), vI ((b : Nat) : Int), vI ((a : Nat) : Int), vI ((b : Nat) : Int), vU]) dX8_divisor_3 (by decide) rfl ?_
  have L4 : ∀ (n9 : Nat) (x y : Nat) (hx : x < 2147483648) (hy : y < 2147483648) (hg : Nat.gcd x y = Nat.gcd a b), y < n9 → WP sc0 1 m_X8_divisor 4 [vI ((a : Nat) : Int), vI ((b : Nat) : Int), vI ((x : Nat) : Int), vI ((y : Nat) : Int), vU] [] M (Rt (some (vI ((Nat.gcd a b : Nat) : Int))) M) := by
    intro n9
    induction n9 with
    | zero =>
      intro x y hx hy hg hm9
      exact absurd hm9 (Nat.not_lt_zero _)
    | succ n9 ih4 =>
      intro x y hx hy hg hm9
      refine WP.iload_n dX8_divisor_4 rfl ?_
      refine WP.if_eq (tgt := 21) dX8_divisor_5 (by decide) (by omega) (fun h5 => ?_) (fun h5 => ?_)
      · skip
        refine WP.iload_n dX8_divisor_21 rfl ?_
        refine WP.iret dX8_divisor_22 rfl ?_
        rw [show y = 0 by omega, Nat.gcd_zero_right] at hg
        rw [hg]
        exact ⟨rfl, rfl⟩
      · skip
        refine WP.iload_n dX8_divisor_8 rfl ?_
        refine WP.iload_n dX8_divisor_9 rfl ?_
        refine WP.irem dX8_divisor_10 (by omega) (by omega) ?_
        refine WP.eqs (st' := [vI ((x % y : Nat) : Int)]) rfl (lc (congrArg vI (by rw [Int.natCast_emod])) rfl) ?_
        refine WP.istore (lt := [vI ((a : Nat) : Int), vI ((b : Nat) : Int), vI ((x : Nat) : Int), vI ((y : Nat) : Int), vI ((x % y : Nat) : Int)]) dX8_divisor_11 (by decide) rfl ?_
        refine WP.iload_n dX8_divisor_13 rfl ?_
        refine WP.istore_n (lt := [vI ((a : Nat) : Int), vI ((b : Nat) : Int), vI ((y : Nat) : Int), vI ((y : Nat) : Int), vI ((x % y : Nat) : Int)]) dX8_divisor_14 (by decide) rfl ?_
        refine WP.iload dX8_divisor_15 rfl ?_
        refine WP.istore_n (lt := [vI ((a : Nat) : Int), vI ((b : Nat) : Int), vI ((y : Nat) : Int), vI ((x % y : Nat) : Int), vI ((x % y : Nat) : Int)]) dX8_divisor_17 (by decide) rfl ?_
        refine WP.goto (tgt := 4) dX8_divisor_18 (by decide) ?_
        refine WP.fgt (lt := [vI ((a : Nat) : Int), vI ((b : Nat) : Int), vI ((y : Nat) : Int), vI (((x % y) : Nat) : Int), vU]) ⟨Or.inr rfl, Or.inr rfl, Or.inr rfl, Or.inr (congrArg vI (by omega)), Or.inl rfl, trivial⟩ ?_
        exact ih4 (y) (x % y) (hy) (Nat.lt_of_le_of_lt (Nat.mod_le _ _) hx) (gcd_st hg (by omega)) (by have := Nat.mod_lt x (show 0 < y by omega); omega)
  exact L4 _ (a) (b) (ha) (hb) (rfl) (Nat.lt_succ_self _)
set_option maxHeartbeats 4000000 in
set_option maxRecDepth 20000 in
theorem w_leastMultiple {M : Mem} {n k : Nat} {sz : Nat → Nat} {ce : Nat → Nat → Nat} (hA : BX (M 168) n k sz ce) (hW : Wf n k sz ce) : CT 2 m_X8_leastMultiple [vR 167] M (Rt (some (vI ((lcO sz k : Nat) : Int))) M) := by
  have b1 := hW.1
  have b2 := hW.2.1
  refine CT.ofWP (by decide +kernel) (Nat.le_of_ble_eq_true rfl) ?_
  show WP sc0 2 m_X8_leastMultiple 0 [vR 167, vU, vU, vU, vU] [] M (Rt (some (vI ((lcO sz k : Nat) : Int))) M)
  refine WP.iconst dX8_leastMultiple_0 ?_
  refine WP.istore_n (lt := [vR 167, vI (1 : Int), vU, vU, vU]) dX8_leastMultiple_1 (by decide) rfl ?_
  refine WP.iconst dX8_leastMultiple_2 ?_
  refine WP.istore_n (lt := [vR 167, vI (1 : Int), vI (0 : Int), vU, vU]) dX8_leastMultiple_3 (by decide) rfl ?_
  have L4 : ∀ (n9 : Nat) (d : Nat) (hd : d ≤ k), k - d < n9 → WP sc0 2 m_X8_leastMultiple 4 [vR 167, vI ((lcO sz d : Nat) : Int), vI ((d : Nat) : Int), vU, vU] [] M (Rt (some (vI ((lcO sz k : Nat) : Int))) M) := by
    intro n9
    induction n9 with
    | zero =>
      intro d hd hm9
      exact absurd hm9 (Nat.not_lt_zero _)
    | succ n9 ih4 =>
      intro d hd hm9
      refine WP.iload_n dX8_leastMultiple_4 rfl ?_
      refine WP.aload_n dX8_leastMultiple_5 rfl ?_
      refine WP.getR (y := 168) dX8_leastMultiple_6 fl_X8_7 (rfl) (by decide) (rfl) ?_
      refine WP.iconst dX8_leastMultiple_9 ?_
      refine WP.iaload (y := 1) (x := ((k : Nat) : Int)) dX8_leastMultiple_10 (rfl) (by omega) (by omega) (hA.2.1) ?_
      refine WP.icmp_ge (tgt := 64) dX8_leastMultiple_11 (by decide) (by omega) (by omega) (fun h11 => ?_) (fun h11 => ?_)
      · skip
        refine WP.iload_n dX8_leastMultiple_64 rfl ?_
        refine WP.iret dX8_leastMultiple_65 rfl ?_
        rw [show d = k by omega]
        exact ⟨rfl, rfl⟩
      · skip
        refine WP.iconst dX8_leastMultiple_14 ?_
        refine WP.istore_n (lt := [vR 167, vI ((lcO sz d : Nat) : Int), vI ((d : Nat) : Int), vI (0 : Int), vU]) dX8_leastMultiple_15 (by decide) rfl ?_
        have L16 : ∀ (n9 : Nat) (c : Nat) (hc : c ≤ d), d - c < n9 → WP sc0 2 m_X8_leastMultiple 16 [vR 167, vI ((lcN sz d c (lcO sz d) : Nat) : Int), vI ((d : Nat) : Int), vI ((c : Nat) : Int), vU] [] M (Rt (some (vI ((lcO sz k : Nat) : Int))) M) := by
          intro n9
          induction n9 with
          | zero =>
            intro c hc hm9
            exact absurd hm9 (Nat.not_lt_zero _)
          | succ n9 ih16 =>
            intro c hc hm9
            refine WP.iload_n dX8_leastMultiple_16 rfl ?_
            refine WP.iload_n dX8_leastMultiple_17 rfl ?_
            refine WP.icmp_ge (tgt := 58) dX8_leastMultiple_18 (by decide) (by omega) (by omega) (fun h18 => ?_) (fun h18 => ?_)
            · skip
              refine WP.iinc (lt := [vR 167, vI ((lcN sz d c (lcO sz d) : Nat) : Int), vI (((d : Nat) : Int) + 1), vI ((c : Nat) : Int), vU]) dX8_leastMultiple_58 rfl (by decide) rfl ?_
              refine WP.goto (tgt := 4) dX8_leastMultiple_61 (by decide) ?_
              refine WP.fgt (lt := [vR 167, vI ((lcO sz (d + 1) : Nat) : Int), vI (((d + 1) : Nat) : Int), vU, vU]) ⟨Or.inr rfl, Or.inr (congrArg vI (by rw [lcO, show c = d by omega])), Or.inr (congrArg vI (by omega)), Or.inl rfl, Or.inl rfl, trivial⟩ ?_
              exact ih4 (d + 1) (by omega) (by omega)
            · skip
              have hdv := lcO_dv (sz := sz) (k := k) hW.2.2.1 d (by omega)
              have hdn := lcN_dv (sz := sz) (k := k) hW.2.2.1 (show d < k by omega) c (lcO sz d) (by omega) hdv.1 hdv.2
              have hle := Nat.le_of_dvd (by decide) hdn.1
              have w1 := hW.2.2.1 c (by omega)
              have w2 := hW.2.2.1 d (by omega)
              have hm36 : sz c * sz d ≤ 6 * 6 := Nat.mul_le_mul w1.2 w2.2
              have hg0 : 0 < Nat.gcd (lcN sz d c (lcO sz d)) (sz c * sz d) := Nat.gcd_pos_of_pos_left _ hdn.2
              have hgl : Nat.gcd (lcN sz d c (lcO sz d)) (sz c * sz d) ≤ lcN sz d c (lcO sz d) := Nat.le_of_dvd hdn.2 (Nat.gcd_dvd_left _ _)
              refine WP.aload_n dX8_leastMultiple_21 rfl ?_
              refine WP.getR (y := 168) dX8_leastMultiple_22 fl_X8_7 (rfl) (by decide) (rfl) ?_
              refine WP.iconst dX8_leastMultiple_25 ?_
              refine WP.iload_n dX8_leastMultiple_26 rfl ?_
              refine WP.iadd dX8_leastMultiple_27 ?_
              refine WP.iaload (y := (2 + c)) (x := ((sz c : Nat) : Int)) dX8_leastMultiple_28 (rfl) (by omega) (by omega) (hA.2.2.1 _ (by omega)) ?_
              refine WP.aload_n dX8_leastMultiple_29 rfl ?_
              refine WP.getR (y := 168) dX8_leastMultiple_30 fl_X8_7 (rfl) (by decide) (rfl) ?_
              refine WP.iconst dX8_leastMultiple_33 ?_
              refine WP.iload_n dX8_leastMultiple_34 rfl ?_
              refine WP.iadd dX8_leastMultiple_35 ?_
              refine WP.iaload (y := (2 + d)) (x := ((sz d : Nat) : Int)) dX8_leastMultiple_36 (rfl) (by omega) (by omega) (hA.2.2.1 _ (by omega)) ?_
              refine WP.imul dX8_leastMultiple_37 ?_
              refine WP.eqs (st' := [vI ((sz c * sz d : Nat) : Int)]) rfl (lc (congrArg vI (by rw [Int.natCast_mul])) rfl) ?_
              refine WP.istore (lt := [vR 167, vI ((lcN sz d c (lcO sz d) : Nat) : Int), vI ((d : Nat) : Int), vI ((c : Nat) : Int), vI ((sz c * sz d : Nat) : Int)]) dX8_leastMultiple_38 (by decide) rfl ?_
              refine WP.iload_n dX8_leastMultiple_40 rfl ?_
              refine WP.iload_n dX8_leastMultiple_41 rfl ?_
              refine WP.iload dX8_leastMultiple_42 rfl ?_
              refine WP.callSp (as := [vI ((lcN sz d c (lcO sz d) : Nat) : Int), vI ((sz c * sz d : Nat) : Int)]) dX8_leastMultiple_44 ms_X8_147 rfl (w_divisor (a := lcN sz d c (lcO sz d)) (b := sz c * sz d) (by omega) (by omega)) rfl (Nat.le_of_ble_eq_true rfl) (by omega) ?_
              refine WP.idiv dX8_leastMultiple_47 (by omega) (by omega) ?_
              refine WP.eqs (st' := [vI ((lcN sz d c (lcO sz d) / Nat.gcd (lcN sz d c (lcO sz d)) (sz c * sz d) : Nat) : Int)]) rfl (lc (congrArg vI (by rw [Int.natCast_ediv])) rfl) ?_
              refine WP.iload dX8_leastMultiple_48 rfl ?_
              refine WP.imul dX8_leastMultiple_50 ?_
              refine WP.istore_n (lt := [vR 167, vI (((lcN sz d c (lcO sz d) / Nat.gcd (lcN sz d c (lcO sz d)) (sz c * sz d) : Nat) : Int) * ((sz c * sz d : Nat) : Int)), vI ((d : Nat) : Int), vI ((c : Nat) : Int), vI ((sz c * sz d : Nat) : Int)]) dX8_leastMultiple_51 (by decide) rfl ?_
              refine WP.iinc (lt := [vR 167, vI (((lcN sz d c (lcO sz d) / Nat.gcd (lcN sz d c (lcO sz d)) (sz c * sz d) : Nat) : Int) * ((sz c * sz d : Nat) : Int)), vI ((d : Nat) : Int), vI (((c : Nat) : Int) + 1), vI ((sz c * sz d : Nat) : Int)]) dX8_leastMultiple_52 rfl (by decide) rfl ?_
              refine WP.goto (tgt := 16) dX8_leastMultiple_55 (by decide) ?_
              refine WP.fgt (lt := [vR 167, vI ((lcN sz d (c + 1) (lcO sz d) : Nat) : Int), vI ((d : Nat) : Int), vI (((c + 1) : Nat) : Int), vU]) ⟨Or.inr rfl, Or.inr (congrArg vI (by rw [lcN, lcm_gd, Int.natCast_mul, Int.natCast_mul])), Or.inr rfl, Or.inr (congrArg vI (by omega)), Or.inl rfl, trivial⟩ ?_
              exact ih16 (c + 1) (by omega) (by omega)
        refine WP.fgt (lt := [vR 167, vI ((lcN sz d 0 (lcO sz d) : Nat) : Int), vI ((d : Nat) : Int), vI ((0 : Nat) : Int), vU]) ⟨Or.inr rfl, Or.inr (congrArg vI (rfl)), Or.inr rfl, Or.inr (congrArg vI (by omega)), Or.inl rfl, trivial⟩ ?_
        exact L16 _ (0) (Nat.zero_le _) (Nat.lt_succ_self _)
  refine WP.fgt (lt := [vR 167, vI ((lcO sz 0 : Nat) : Int), vI ((0 : Nat) : Int), vU, vU]) ⟨Or.inr rfl, Or.inr (congrArg vI (rfl)), Or.inr (congrArg vI (by omega)), Or.inl rfl, Or.inl rfl, trivial⟩ ?_
  exact L4 _ (0) (Nat.zero_le _) (Nat.lt_succ_self _)
set_option maxHeartbeats 4000000 in
set_option maxRecDepth 20000 in
theorem w_leastRows {M : Mem} {n k : Nat} {sz : Nat → Nat} {ce : Nat → Nat → Nat} (hA : BX (M 168) n k sz ce) (hW : Wf n k sz ce) : CT 1 m_X8_leastRows [vR 167] M (Rt (some (vI ((lrs sz k : Nat) : Int))) M) := by
  have b1 := hW.1
  have b2 := hW.2.1
  refine CT.ofWP (by decide +kernel) (Nat.le_of_ble_eq_true rfl) ?_
  show WP sc0 1 m_X8_leastRows 0 [vR 167, vU, vU] [] M (Rt (some (vI ((lrs sz k : Nat) : Int))) M)
  refine WP.iconst dX8_leastRows_0 ?_
  refine WP.istore_n (lt := [vR 167, vI (1 : Int), vU]) dX8_leastRows_1 (by decide) rfl ?_
  refine WP.iconst dX8_leastRows_2 ?_
  refine WP.istore_n (lt := [vR 167, vI (1 : Int), vI (0 : Int)]) dX8_leastRows_3 (by decide) rfl ?_
  have L4 : ∀ (n9 : Nat) (c : Nat) (hc : c ≤ k), k - c < n9 → WP sc0 1 m_X8_leastRows 4 [vR 167, vI ((lrs sz c : Nat) : Int), vI ((c : Nat) : Int)] [] M (Rt (some (vI ((lrs sz k : Nat) : Int))) M) := by
    intro n9
    induction n9 with
    | zero =>
      intro c hc hm9
      exact absurd hm9 (Nat.not_lt_zero _)
    | succ n9 ih4 =>
      intro c hc hm9
      refine WP.iload_n dX8_leastRows_4 rfl ?_
      refine WP.aload_n dX8_leastRows_5 rfl ?_
      refine WP.getR (y := 168) dX8_leastRows_6 fl_X8_7 (rfl) (by decide) (rfl) ?_
      refine WP.iconst dX8_leastRows_9 ?_
      refine WP.iaload (y := 1) (x := ((k : Nat) : Int)) dX8_leastRows_10 (rfl) (by omega) (by omega) (hA.2.1) ?_
      refine WP.icmp_ge (tgt := 33) dX8_leastRows_11 (by decide) (by omega) (by omega) (fun h11 => ?_) (fun h11 => ?_)
      · skip
        refine WP.iload_n dX8_leastRows_33 rfl ?_
        refine WP.iret dX8_leastRows_34 rfl ?_
        rw [show c = k by omega]
        exact ⟨rfl, rfl⟩
      · skip
        refine WP.iload_n dX8_leastRows_14 rfl ?_
        refine WP.aload_n dX8_leastRows_15 rfl ?_
        refine WP.getR (y := 168) dX8_leastRows_16 fl_X8_7 (rfl) (by decide) (rfl) ?_
        refine WP.iconst dX8_leastRows_19 ?_
        refine WP.iload_n dX8_leastRows_20 rfl ?_
        refine WP.iadd dX8_leastRows_21 ?_
        refine WP.iaload (y := (2 + c)) (x := ((sz c : Nat) : Int)) dX8_leastRows_22 (rfl) (by omega) (by omega) (hA.2.2.1 _ (by omega)) ?_
        refine WP.iconst dX8_leastRows_23 ?_
        refine WP.isub dX8_leastRows_24 ?_
        refine WP.iadd dX8_leastRows_25 ?_
        refine WP.istore_n (lt := [vR 167, vI (((lrs sz c : Nat) : Int) + (((sz c : Nat) : Int) - (1 : Int))), vI ((c : Nat) : Int)]) dX8_leastRows_26 (by decide) rfl ?_
        refine WP.iinc (lt := [vR 167, vI (((lrs sz c : Nat) : Int) + (((sz c : Nat) : Int) - (1 : Int))), vI (((c : Nat) : Int) + 1)]) dX8_leastRows_27 rfl (by decide) rfl ?_
        refine WP.goto (tgt := 4) dX8_leastRows_30 (by decide) ?_
        refine WP.fgt (lt := [vR 167, vI ((lrs sz (c + 1) : Nat) : Int), vI (((c + 1) : Nat) : Int)]) ⟨Or.inr rfl, Or.inr (congrArg vI (by have := hW.2.2.1 c (by omega); rw [lrs]; omega)), Or.inr (congrArg vI (by omega)), trivial⟩ ?_
        exact ih4 (c + 1) (by omega) (by omega)
  refine WP.fgt (lt := [vR 167, vI ((lrs sz 0 : Nat) : Int), vI ((0 : Nat) : Int)]) ⟨Or.inr rfl, Or.inr (congrArg vI (rfl)), Or.inr (congrArg vI (by omega)), trivial⟩ ?_
  exact L4 _ (0) (Nat.zero_le _) (Nat.lt_succ_self _)
set_option maxHeartbeats 4000000 in
set_option maxRecDepth 20000 in
theorem w_tuples {M : Mem} {n k : Nat} {sz : Nat → Nat} {ce : Nat → Nat → Nat} {set : Nat} (hA : BX (M 168) n k sz ce) (hW : Wf n k sz ce) (hs : set < 2147483648) : CT 1 m_X8_tuples [vR 167, vI ((set : Nat) : Int)] M (Rt (some (vI ((tps sz set k : Nat) : Int))) M) := by
  have b1 := hW.1
  have b2 := hW.2.1
  refine CT.ofWP (by decide +kernel) (Nat.le_of_ble_eq_true rfl) ?_
  show WP sc0 1 m_X8_tuples 0 [vR 167, vI ((set : Nat) : Int), vU, vU] [] M (Rt (some (vI ((tps sz set k : Nat) : Int))) M)
  refine WP.iconst dX8_tuples_0 ?_
  refine WP.istore_n (lt := [vR 167, vI ((set : Nat) : Int), vI (1 : Int), vU]) dX8_tuples_1 (by decide) rfl ?_
  refine WP.iconst dX8_tuples_2 ?_
  refine WP.istore_n (lt := [vR 167, vI ((set : Nat) : Int), vI (1 : Int), vI (0 : Int)]) dX8_tuples_3 (by decide) rfl ?_
  have L4 : ∀ (n9 : Nat) (c : Nat) (hc : c ≤ k), k - c < n9 → WP sc0 1 m_X8_tuples 4 [vR 167, vI ((set : Nat) : Int), vI ((tps sz set c : Nat) : Int), vI ((c : Nat) : Int)] [] M (Rt (some (vI ((tps sz set k : Nat) : Int))) M) := by
    intro n9
    induction n9 with
    | zero =>
      intro c hc hm9
      exact absurd hm9 (Nat.not_lt_zero _)
    | succ n9 ih4 =>
      intro c hc hm9
      refine WP.iload_n dX8_tuples_4 rfl ?_
      refine WP.aload_n dX8_tuples_5 rfl ?_
      refine WP.getR (y := 168) dX8_tuples_6 fl_X8_7 (rfl) (by decide) (rfl) ?_
      refine WP.iconst dX8_tuples_9 ?_
      refine WP.iaload (y := 1) (x := ((k : Nat) : Int)) dX8_tuples_10 (rfl) (by omega) (by omega) (hA.2.1) ?_
      refine WP.icmp_ge (tgt := 44) dX8_tuples_11 (by decide) (by omega) (by omega) (fun h11 => ?_) (fun h11 => ?_)
      · skip
        refine WP.iload_n dX8_tuples_44 rfl ?_
        refine WP.iret dX8_tuples_45 rfl ?_
        rw [show c = k by omega]
        exact ⟨rfl, rfl⟩
      · skip
        refine WP.iload_n dX8_tuples_14 rfl ?_
        refine WP.iload_n dX8_tuples_15 rfl ?_
        refine WP.ishr (z := ((set / 2 ^ c : Nat) : Int)) dX8_tuples_16 (oi_shr (by omega) (by omega)) ?_
        refine WP.iconst dX8_tuples_17 ?_
        refine WP.iand (z := ((set / 2 ^ c % 2 : Nat) : Int)) dX8_tuples_18 (oi_and1 (bit_lt (by omega))) ?_
        refine WP.iconst dX8_tuples_19 ?_
        refine WP.icmp_ne (tgt := 36) dX8_tuples_20 (by decide) (by have := Nat.mod_lt (set / 2 ^ c) (show 2 > 0 by decide); omega) (by omega) (fun h20 => ?_) (fun h20 => ?_)
        · skip
          have q20 : tps sz set (c + 1) = tps sz set c := by rw [tps, if_neg (by omega)]
          refine WP.iload_n dX8_tuples_36 rfl ?_
          refine WP.istore_n (lt := [vR 167, vI ((set : Nat) : Int), vI ((tps sz set c : Nat) : Int), vI ((c : Nat) : Int)]) dX8_tuples_37 (by decide) rfl ?_
          refine WP.iinc (lt := [vR 167, vI ((set : Nat) : Int), vI ((tps sz set c : Nat) : Int), vI (((c : Nat) : Int) + 1)]) dX8_tuples_38 rfl (by decide) rfl ?_
          refine WP.goto (tgt := 4) dX8_tuples_41 (by decide) ?_
          refine WP.fgt (lt := [vR 167, vI ((set : Nat) : Int), vI ((tps sz set (c + 1) : Nat) : Int), vI (((c + 1) : Nat) : Int)]) ⟨Or.inr rfl, Or.inr rfl, Or.inr (congrArg vI (by rw [q20])), Or.inr (congrArg vI (by omega)), trivial⟩ ?_
          exact ih4 (c + 1) (by omega) (by omega)
        · skip
          have q20 : tps sz set (c + 1) = tps sz set c * sz c := by rw [tps, if_pos (by omega)]
          refine WP.iload_n dX8_tuples_23 rfl ?_
          refine WP.aload_n dX8_tuples_24 rfl ?_
          refine WP.getR (y := 168) dX8_tuples_25 fl_X8_7 (rfl) (by decide) (rfl) ?_
          refine WP.iconst dX8_tuples_28 ?_
          refine WP.iload_n dX8_tuples_29 rfl ?_
          refine WP.iadd dX8_tuples_30 ?_
          refine WP.iaload (y := (2 + c)) (x := ((sz c : Nat) : Int)) dX8_tuples_31 (rfl) (by omega) (by omega) (hA.2.2.1 _ (by omega)) ?_
          refine WP.imul dX8_tuples_32 ?_
          refine WP.goto (tgt := 37) dX8_tuples_33 (by decide) ?_
          refine WP.istore_n (lt := [vR 167, vI ((set : Nat) : Int), vI (((tps sz set c : Nat) : Int) * ((sz c : Nat) : Int)), vI ((c : Nat) : Int)]) dX8_tuples_37 (by decide) rfl ?_
          refine WP.iinc (lt := [vR 167, vI ((set : Nat) : Int), vI (((tps sz set c : Nat) : Int) * ((sz c : Nat) : Int)), vI (((c : Nat) : Int) + 1)]) dX8_tuples_38 rfl (by decide) rfl ?_
          refine WP.goto (tgt := 4) dX8_tuples_41 (by decide) ?_
          refine WP.fgt (lt := [vR 167, vI ((set : Nat) : Int), vI ((tps sz set (c + 1) : Nat) : Int), vI (((c + 1) : Nat) : Int)]) ⟨Or.inr rfl, Or.inr rfl, Or.inr (congrArg vI (by rw [q20, Int.natCast_mul])), Or.inr (congrArg vI (by omega)), trivial⟩ ?_
          exact ih4 (c + 1) (by omega) (by omega)
  refine WP.fgt (lt := [vR 167, vI ((set : Nat) : Int), vI ((tps sz set 0 : Nat) : Int), vI ((0 : Nat) : Int)]) ⟨Or.inr rfl, Or.inr rfl, Or.inr (congrArg vI (rfl)), Or.inr (congrArg vI (by omega)), trivial⟩ ?_
  exact L4 _ (0) (Nat.zero_le _) (Nat.lt_succ_self _)
set_option maxHeartbeats 4000000 in
set_option maxRecDepth 20000 in
theorem w_tupleOf {M : Mem} {n k : Nat} {sz : Nat → Nat} {ce : Nat → Nat → Nat} {r set : Nat} (hA : BX (M 168) n k sz ce) (hW : Wf n k sz ce) (hr : r < n) (hs : set < 2147483648) : CT 2 m_X8_tupleOf [vR 167, vI ((r : Nat) : Int), vI ((set : Nat) : Int)] M (Rt (some (vI ((tpo sz (ce r) set k : Nat) : Int))) M) := by
  have b1 := hW.1
  have b2 := hW.2.1
  refine CT.ofWP (by decide +kernel) (Nat.le_of_ble_eq_true rfl) ?_
  show WP sc0 2 m_X8_tupleOf 0 [vR 167, vI ((r : Nat) : Int), vI ((set : Nat) : Int), vU, vU] [] M (Rt (some (vI ((tpo sz (ce r) set k : Nat) : Int))) M)
  refine WP.iconst dX8_tupleOf_0 ?_
  refine WP.istore_n (lt := [vR 167, vI ((r : Nat) : Int), vI ((set : Nat) : Int), vI (0 : Int), vU]) dX8_tupleOf_1 (by decide) rfl ?_
  refine WP.iconst dX8_tupleOf_2 ?_
  refine WP.istore (lt := [vR 167, vI ((r : Nat) : Int), vI ((set : Nat) : Int), vI (0 : Int), vI (0 : Int)]) dX8_tupleOf_3 (by decide) rfl ?_
  have L5 : ∀ (n9 : Nat) (c : Nat) (hc : c ≤ k), k - c < n9 → WP sc0 2 m_X8_tupleOf 5 [vR 167, vI ((r : Nat) : Int), vI ((set : Nat) : Int), vI ((tpo sz (ce r) set c : Nat) : Int), vI ((c : Nat) : Int)] [] M (Rt (some (vI ((tpo sz (ce r) set k : Nat) : Int))) M) := by
    intro n9
    induction n9 with
    | zero =>
      intro c hc hm9
      exact absurd hm9 (Nat.not_lt_zero _)
    | succ n9 ih5 =>
      intro c hc hm9
      refine WP.iload dX8_tupleOf_5 rfl ?_
      refine WP.aload_n dX8_tupleOf_7 rfl ?_
      refine WP.getR (y := 168) dX8_tupleOf_8 fl_X8_7 (rfl) (by decide) (rfl) ?_
      refine WP.iconst dX8_tupleOf_11 ?_
      refine WP.iaload (y := 1) (x := ((k : Nat) : Int)) dX8_tupleOf_12 (rfl) (by omega) (by omega) (hA.2.1) ?_
      refine WP.icmp_ge (tgt := 56) dX8_tupleOf_13 (by decide) (by omega) (by omega) (fun h13 => ?_) (fun h13 => ?_)
      · skip
        refine WP.iload_n dX8_tupleOf_56 rfl ?_
        refine WP.iret dX8_tupleOf_57 rfl ?_
        rw [show c = k by omega]
        exact ⟨rfl, rfl⟩
      · skip
        refine WP.iload_n dX8_tupleOf_16 rfl ?_
        refine WP.iload dX8_tupleOf_17 rfl ?_
        refine WP.ishr (z := ((set / 2 ^ c : Nat) : Int)) dX8_tupleOf_19 (oi_shr (by omega) (by omega)) ?_
        refine WP.iconst dX8_tupleOf_20 ?_
        refine WP.iand (z := ((set / 2 ^ c % 2 : Nat) : Int)) dX8_tupleOf_21 (oi_and1 (bit_lt (by omega))) ?_
        refine WP.iconst dX8_tupleOf_22 ?_
        refine WP.icmp_ne (tgt := 48) dX8_tupleOf_23 (by decide) (by have := Nat.mod_lt (set / 2 ^ c) (show 2 > 0 by decide); omega) (by omega) (fun h23 => ?_) (fun h23 => ?_)
        · skip
          have q23 : tpo sz (ce r) set (c + 1) = tpo sz (ce r) set c := by rw [tpo, if_neg (by omega)]
          refine WP.iload_n dX8_tupleOf_48 rfl ?_
          refine WP.istore_n (lt := [vR 167, vI ((r : Nat) : Int), vI ((set : Nat) : Int), vI ((tpo sz (ce r) set c : Nat) : Int), vI ((c : Nat) : Int)]) dX8_tupleOf_49 (by decide) rfl ?_
          refine WP.iinc (lt := [vR 167, vI ((r : Nat) : Int), vI ((set : Nat) : Int), vI ((tpo sz (ce r) set c : Nat) : Int), vI (((c : Nat) : Int) + 1)]) dX8_tupleOf_50 rfl (by decide) rfl ?_
          refine WP.goto (tgt := 5) dX8_tupleOf_53 (by decide) ?_
          refine WP.fgt (lt := [vR 167, vI ((r : Nat) : Int), vI ((set : Nat) : Int), vI ((tpo sz (ce r) set (c + 1) : Nat) : Int), vI (((c + 1) : Nat) : Int)]) ⟨Or.inr rfl, Or.inr rfl, Or.inr rfl, Or.inr (congrArg vI (by rw [q23])), Or.inr (congrArg vI (by omega)), trivial⟩ ?_
          exact ih5 (c + 1) (by omega) (by omega)
        · skip
          have q23 : tpo sz (ce r) set (c + 1) = tpo sz (ce r) set c * sz c + ce r c := by rw [tpo, if_pos (by omega)]
          refine WP.iload_n dX8_tupleOf_26 rfl ?_
          refine WP.aload_n dX8_tupleOf_27 rfl ?_
          refine WP.getR (y := 168) dX8_tupleOf_28 fl_X8_7 (rfl) (by decide) (rfl) ?_
          refine WP.iconst dX8_tupleOf_31 ?_
          refine WP.iload dX8_tupleOf_32 rfl ?_
          refine WP.iadd dX8_tupleOf_34 ?_
          refine WP.iaload (y := (2 + c)) (x := ((sz c : Nat) : Int)) dX8_tupleOf_35 (rfl) (by omega) (by omega) (hA.2.2.1 _ (by omega)) ?_
          refine WP.imul dX8_tupleOf_36 ?_
          refine WP.aload_n dX8_tupleOf_37 rfl ?_
          refine WP.iload_n dX8_tupleOf_38 rfl ?_
          refine WP.iload dX8_tupleOf_39 rfl ?_
          refine WP.callVp (as := [vI ((r : Nat) : Int), vI ((c : Nat) : Int)]) dX8_tupleOf_41 mv_X8_62 rfl (rfl) (by decide) rfl rfl (w_at (r := r) (c := c) (by omega) (by omega) (hA.2.2.2 (r) (by omega) (c) (by omega))) rfl (Nat.le_of_ble_eq_true rfl) (by omega) ?_
          refine WP.iadd dX8_tupleOf_44 ?_
          refine WP.goto (tgt := 49) dX8_tupleOf_45 (by decide) ?_
          refine WP.istore_n (lt := [vR 167, vI ((r : Nat) : Int), vI ((set : Nat) : Int), vI ((((tpo sz (ce r) set c : Nat) : Int) * ((sz c : Nat) : Int)) + ((ce r c : Nat) : Int)), vI ((c : Nat) : Int)]) dX8_tupleOf_49 (by decide) rfl ?_
          refine WP.iinc (lt := [vR 167, vI ((r : Nat) : Int), vI ((set : Nat) : Int), vI ((((tpo sz (ce r) set c : Nat) : Int) * ((sz c : Nat) : Int)) + ((ce r c : Nat) : Int)), vI (((c : Nat) : Int) + 1)]) dX8_tupleOf_50 rfl (by decide) rfl ?_
          refine WP.goto (tgt := 5) dX8_tupleOf_53 (by decide) ?_
          refine WP.fgt (lt := [vR 167, vI ((r : Nat) : Int), vI ((set : Nat) : Int), vI ((tpo sz (ce r) set (c + 1) : Nat) : Int), vI (((c + 1) : Nat) : Int)]) ⟨Or.inr rfl, Or.inr rfl, Or.inr rfl, Or.inr (congrArg vI (by rw [q23, Int.natCast_add, Int.natCast_mul])), Or.inr (congrArg vI (by omega)), trivial⟩ ?_
          exact ih5 (c + 1) (by omega) (by omega)
  refine WP.fgt (lt := [vR 167, vI ((r : Nat) : Int), vI ((set : Nat) : Int), vI ((tpo sz (ce r) set 0 : Nat) : Int), vI ((0 : Nat) : Int)]) ⟨Or.inr rfl, Or.inr rfl, Or.inr rfl, Or.inr (congrArg vI (rfl)), Or.inr (congrArg vI (by omega)), trivial⟩ ?_
  exact L5 _ (0) (Nat.zero_le _) (Nat.lt_succ_self _)
set_option maxHeartbeats 4000000 in
set_option maxRecDepth 20000 in
theorem w_size {M : Mem} {set : Nat} (hs : set < 2 ^ 7) : CT 1 m_X8_size [vI ((set : Nat) : Int)] M (Rt (some (vI ((popn 12 set : Nat) : Int))) M) := by
  have hs9 : 2 ^ 7 = 128 := rfl
  refine CT.ofWP (by decide +kernel) (Nat.le_of_ble_eq_true rfl) ?_
  show WP sc0 1 m_X8_size 0 [vI ((set : Nat) : Int), vU, vU] [] M (Rt (some (vI ((popn 12 set : Nat) : Int))) M)
  refine WP.iconst dX8_size_0 ?_
  refine WP.istore_n (lt := [vI ((set : Nat) : Int), vI (0 : Int), vU]) dX8_size_1 (by decide) rfl ?_
  refine WP.iconst dX8_size_2 ?_
  refine WP.istore_n (lt := [vI ((set : Nat) : Int), vI (0 : Int), vI (0 : Int)]) dX8_size_3 (by decide) rfl ?_
  have L4 : ∀ (n9 : Nat) (c : Nat) (hc : c ≤ 7), 7 - c < n9 → WP sc0 1 m_X8_size 4 [vI ((set : Nat) : Int), vI ((cn (mk set) c : Nat) : Int), vI ((c : Nat) : Int)] [] M (Rt (some (vI ((popn 12 set : Nat) : Int))) M) := by
    intro n9
    induction n9 with
    | zero =>
      intro c hc hm9
      exact absurd hm9 (Nat.not_lt_zero _)
    | succ n9 ih4 =>
      intro c hc hm9
      refine WP.iload_n dX8_size_4 rfl ?_
      refine WP.bipush dX8_size_5 (by decide) ?_
      refine WP.icmp_ge (tgt := 24) dX8_size_7 (by decide) (by omega) (by omega) (fun h7 => ?_) (fun h7 => ?_)
      · skip
        refine WP.iload_n dX8_size_24 rfl ?_
        refine WP.iret dX8_size_25 rfl ?_
        rw [show c = 7 by omega, ← popn_12 (n := 7) (by decide) hs]
        exact ⟨rfl, rfl⟩
      · skip
        refine WP.iload_n dX8_size_10 rfl ?_
        refine WP.iload_n dX8_size_11 rfl ?_
        refine WP.iload_n dX8_size_12 rfl ?_
        refine WP.ishr (z := ((set / 2 ^ c : Nat) : Int)) dX8_size_13 (oi_shr (by omega) (by omega)) ?_
        refine WP.iconst dX8_size_14 ?_
        refine WP.iand (z := ((set / 2 ^ c % 2 : Nat) : Int)) dX8_size_15 (oi_and1 (bit_lt (by omega))) ?_
        have hb2 : cn (mk set) (c + 1) = cn (mk set) c + set / 2 ^ c % 2 := by
          have hm2 : set / 2 ^ c % 2 < 2 := Nat.mod_lt _ (by decide)
          by_cases e : mk set c
          · rw [cn_t e]; unfold mk at e; omega
          · rw [cn_f e]; unfold mk at e; omega
        refine WP.iadd dX8_size_16 ?_
        refine WP.istore_n (lt := [vI ((set : Nat) : Int), vI (((cn (mk set) c : Nat) : Int) + ((set / 2 ^ c % 2 : Nat) : Int)), vI ((c : Nat) : Int)]) dX8_size_17 (by decide) rfl ?_
        refine WP.iinc (lt := [vI ((set : Nat) : Int), vI (((cn (mk set) c : Nat) : Int) + ((set / 2 ^ c % 2 : Nat) : Int)), vI (((c : Nat) : Int) + 1)]) dX8_size_18 rfl (by decide) rfl ?_
        refine WP.goto (tgt := 4) dX8_size_21 (by decide) ?_
        refine WP.fgt (lt := [vI ((set : Nat) : Int), vI ((cn (mk set) (c + 1) : Nat) : Int), vI (((c + 1) : Nat) : Int)]) ⟨Or.inr rfl, Or.inr (congrArg vI (by rw [hb2, Int.natCast_add])), Or.inr (congrArg vI (by omega)), trivial⟩ ?_
        exact ih4 (c + 1) (by omega) (by omega)
  refine WP.fgt (lt := [vI ((set : Nat) : Int), vI ((cn (mk set) 0 : Nat) : Int), vI ((0 : Nat) : Int)]) ⟨Or.inr rfl, Or.inr (congrArg vI (rfl)), Or.inr (congrArg vI (by omega)), trivial⟩ ?_
  exact L4 _ (0) (Nat.zero_le _) (Nat.lt_succ_self _)
set_option maxHeartbeats 4000000 in
set_option maxRecDepth 20000 in
theorem w_rowsIn {M : Mem} {set : Nat} (hs : set < 2 ^ 12) : CT 1 m_X8_rowsIn [vI ((set : Nat) : Int)] M (Rt (some (vI ((popn 12 set : Nat) : Int))) M) := by
  have hs9 : 2 ^ 12 = 4096 := rfl
  refine CT.ofWP (by decide +kernel) (Nat.le_of_ble_eq_true rfl) ?_
  show WP sc0 1 m_X8_rowsIn 0 [vI ((set : Nat) : Int), vU, vU] [] M (Rt (some (vI ((popn 12 set : Nat) : Int))) M)
  refine WP.iconst dX8_rowsIn_0 ?_
  refine WP.istore_n (lt := [vI ((set : Nat) : Int), vI (0 : Int), vU]) dX8_rowsIn_1 (by decide) rfl ?_
  refine WP.iconst dX8_rowsIn_2 ?_
  refine WP.istore_n (lt := [vI ((set : Nat) : Int), vI (0 : Int), vI (0 : Int)]) dX8_rowsIn_3 (by decide) rfl ?_
  have L4 : ∀ (n9 : Nat) (c : Nat) (hc : c ≤ 12), 12 - c < n9 → WP sc0 1 m_X8_rowsIn 4 [vI ((set : Nat) : Int), vI ((cn (mk set) c : Nat) : Int), vI ((c : Nat) : Int)] [] M (Rt (some (vI ((popn 12 set : Nat) : Int))) M) := by
    intro n9
    induction n9 with
    | zero =>
      intro c hc hm9
      exact absurd hm9 (Nat.not_lt_zero _)
    | succ n9 ih4 =>
      intro c hc hm9
      refine WP.iload_n dX8_rowsIn_4 rfl ?_
      refine WP.bipush dX8_rowsIn_5 (by decide) ?_
      refine WP.icmp_ge (tgt := 24) dX8_rowsIn_7 (by decide) (by omega) (by omega) (fun h7 => ?_) (fun h7 => ?_)
      · skip
        refine WP.iload_n dX8_rowsIn_24 rfl ?_
        refine WP.iret dX8_rowsIn_25 rfl ?_
        rw [show c = 12 by omega, ← popn_cn]
        exact ⟨rfl, rfl⟩
      · skip
        refine WP.iload_n dX8_rowsIn_10 rfl ?_
        refine WP.iload_n dX8_rowsIn_11 rfl ?_
        refine WP.iload_n dX8_rowsIn_12 rfl ?_
        refine WP.ishr (z := ((set / 2 ^ c : Nat) : Int)) dX8_rowsIn_13 (oi_shr (by omega) (by omega)) ?_
        refine WP.iconst dX8_rowsIn_14 ?_
        refine WP.iand (z := ((set / 2 ^ c % 2 : Nat) : Int)) dX8_rowsIn_15 (oi_and1 (bit_lt (by omega))) ?_
        have hb2 : cn (mk set) (c + 1) = cn (mk set) c + set / 2 ^ c % 2 := by
          have hm2 : set / 2 ^ c % 2 < 2 := Nat.mod_lt _ (by decide)
          by_cases e : mk set c
          · rw [cn_t e]; unfold mk at e; omega
          · rw [cn_f e]; unfold mk at e; omega
        refine WP.iadd dX8_rowsIn_16 ?_
        refine WP.istore_n (lt := [vI ((set : Nat) : Int), vI (((cn (mk set) c : Nat) : Int) + ((set / 2 ^ c % 2 : Nat) : Int)), vI ((c : Nat) : Int)]) dX8_rowsIn_17 (by decide) rfl ?_
        refine WP.iinc (lt := [vI ((set : Nat) : Int), vI (((cn (mk set) c : Nat) : Int) + ((set / 2 ^ c % 2 : Nat) : Int)), vI (((c : Nat) : Int) + 1)]) dX8_rowsIn_18 rfl (by decide) rfl ?_
        refine WP.goto (tgt := 4) dX8_rowsIn_21 (by decide) ?_
        refine WP.fgt (lt := [vI ((set : Nat) : Int), vI ((cn (mk set) (c + 1) : Nat) : Int), vI (((c + 1) : Nat) : Int)]) ⟨Or.inr rfl, Or.inr (congrArg vI (by rw [hb2, Int.natCast_add])), Or.inr (congrArg vI (by omega)), trivial⟩ ?_
        exact ih4 (c + 1) (by omega) (by omega)
  refine WP.fgt (lt := [vI ((set : Nat) : Int), vI ((cn (mk set) 0 : Nat) : Int), vI ((0 : Nat) : Int)]) ⟨Or.inr rfl, Or.inr (congrArg vI (rfl)), Or.inr (congrArg vI (by omega)), trivial⟩ ?_
  exact L4 _ (0) (Nat.zero_le _) (Nat.lt_succ_self _)
set_option maxHeartbeats 4000000 in
set_option maxRecDepth 20000 in
theorem y_levels {M : Mem} {n k h len : Nat} {sz tx : Nat → Nat} {ce : Nat → Nat → Nat} {hs : Nat → AR} {im : Nat → Option AR} (hV : InvM M (mkS n k sz ce h hs im len tx)) {x : Int} (hx : -2147483648 ≤ x ∧ x < 2147483648) : CT 40 m_X8_levels [vR 167, vI x] M (PM M (o_levels (mkS n k sz ce h hs im len tx) x)) := by
  have hA : BX (M 168) n k sz ce := hV.1.1
  have hW : Wf n k sz ce := hV.1.2
  have hH : HM M h hs := hV.2.1
  have hIM : IMm M im := hV.2.2.1
  have hS : SM M len tx := hV.2.2.2
  have b1 := hW.1
  have b2 := hW.2.1
  have hh8 := hH.1
  have hl3 := hS.1
  refine CT.ofWP (by decide +kernel) (Nat.le_of_ble_eq_true rfl) ?_
  show WP sc0 40 m_X8_levels 0 [vR 167, vI x] [] M (PM M (o_levels (mkS n k sz ce h hs im len tx) x))
  refine WP.aload_n dX8_levels_0 rfl ?_
  refine WP.iload_n dX8_levels_1 rfl ?_
  refine WP.callVp (as := [vI x]) dX8_levels_2 mv_X8_66 rfl (rfl) (by decide) rfl rfl (w_isColumn hA hW (by omega)) rfl (Nat.le_of_ble_eq_true rfl) (by omega) ?_
  refine WP.if_eq (tgt := 19) dX8_levels_5 (by decide) (bi_rng) (fun h5 => ?_) (fun h5 => ?_)
  · skip
    have q5 := bi_0 h5
    refine WP.iconst dX8_levels_19 ?_
    refine WP.iret dX8_levels_20 rfl ?_
    exact PM.same (congrArg (fun z => (z, _)) (cif_f q5)) hV
  · skip
    have q5 := bi_1 h5
    obtain ⟨c, hc0⟩ : ∃ c : Nat, x.toNat = c := ⟨_, rfl⟩
    have hc1 : x = ((c : Nat) : Int) := by omega
    refine WP.fgt (lt := [vR 167, vI ((c : Nat) : Int)]) ⟨Or.inr rfl, Or.inr (congrArg vI (hc1.symm)), trivial⟩ ?_
    refine WP.aload_n dX8_levels_8 rfl ?_
    refine WP.getR (y := 168) dX8_levels_9 fl_X8_7 (rfl) (by decide) (rfl) ?_
    refine WP.iconst dX8_levels_12 ?_
    refine WP.iload_n dX8_levels_13 rfl ?_
    refine WP.iadd dX8_levels_14 ?_
    refine WP.iaload (y := (2 + c)) (x := ((sz c : Nat) : Int)) dX8_levels_15 (rfl) (by omega) (by omega) (hA.2.2.1 _ (by omega)) ?_
    refine WP.goto (tgt := 20) dX8_levels_16 (by decide) ?_
    refine WP.iret dX8_levels_20 rfl ?_
    exact PM.same (by subst hc0; exact congrArg (fun z => (z, _)) (cif_t q5)) hV
set_option maxHeartbeats 4000000 in
set_option maxRecDepth 20000 in
theorem y_cell {M : Mem} {n k h len : Nat} {sz tx : Nat → Nat} {ce : Nat → Nat → Nat} {hs : Nat → AR} {im : Nat → Option AR} (hV : InvM M (mkS n k sz ce h hs im len tx)) {x : Int} (hx : -2147483648 ≤ x ∧ x < 2147483648) {y : Int} (hy : -2147483648 ≤ y ∧ y < 2147483648) : CT 40 m_X8_cell [vR 167, vI x, vI y] M (PM M (o_cell (mkS n k sz ce h hs im len tx) x y)) := by
  have hA : BX (M 168) n k sz ce := hV.1.1
  have hW : Wf n k sz ce := hV.1.2
  have hH : HM M h hs := hV.2.1
  have hIM : IMm M im := hV.2.2.1
  have hS : SM M len tx := hV.2.2.2
  have b1 := hW.1
  have b2 := hW.2.1
  have hh8 := hH.1
  have hl3 := hS.1
  refine CT.ofWP (by decide +kernel) (Nat.le_of_ble_eq_true rfl) ?_
  show WP sc0 40 m_X8_cell 0 [vR 167, vI x, vI y] [] M (PM M (o_cell (mkS n k sz ce h hs im len tx) x y))
  refine WP.aload_n dX8_cell_0 rfl ?_
  refine WP.iload_n dX8_cell_1 rfl ?_
  refine WP.callVp (as := [vI x]) dX8_cell_2 mv_X8_73 rfl (rfl) (by decide) rfl rfl (w_isRow hA hW (by omega)) rfl (Nat.le_of_ble_eq_true rfl) (by omega) ?_
  refine WP.if_eq (tgt := 25) dX8_cell_5 (by decide) (bi_rng) (fun h5 => ?_) (fun h5 => ?_)
  · skip
    have q5 := bi_0 h5
    refine WP.iconst dX8_cell_25 ?_
    refine WP.iret dX8_cell_26 rfl ?_
    exact PM.same (congrArg (fun z => (z, _)) (cif_f (fun z => q5 z.1))) hV
  · skip
    have q5 := bi_1 h5
    obtain ⟨r, hr0⟩ : ∃ r : Nat, x.toNat = r := ⟨_, rfl⟩
    have hr1 : x = ((r : Nat) : Int) := by omega
    refine WP.fgt (lt := [vR 167, vI ((r : Nat) : Int), vI y]) ⟨Or.inr rfl, Or.inr (congrArg vI (hr1.symm)), Or.inr rfl, trivial⟩ ?_
    refine WP.aload_n dX8_cell_8 rfl ?_
    refine WP.iload_n dX8_cell_9 rfl ?_
    refine WP.callVp (as := [vI y]) dX8_cell_10 mv_X8_66 rfl (rfl) (by decide) rfl rfl (w_isColumn hA hW (by omega)) rfl (Nat.le_of_ble_eq_true rfl) (by omega) ?_
    refine WP.if_eq (tgt := 25) dX8_cell_13 (by decide) (bi_rng) (fun h13 => ?_) (fun h13 => ?_)
    · skip
      have q13 := bi_0 h13
      refine WP.iconst dX8_cell_25 ?_
      refine WP.iret dX8_cell_26 rfl ?_
      exact PM.same (congrArg (fun z => (z, _)) (cif_f (fun z => q13 z.2))) hV
    · skip
      have q13 := bi_1 h13
      obtain ⟨c, hc0⟩ : ∃ c : Nat, y.toNat = c := ⟨_, rfl⟩
      have hc1 : y = ((c : Nat) : Int) := by omega
      refine WP.fgt (lt := [vR 167, vI ((r : Nat) : Int), vI ((c : Nat) : Int)]) ⟨Or.inr rfl, Or.inr rfl, Or.inr (congrArg vI (hc1.symm)), trivial⟩ ?_
      refine WP.aload_n dX8_cell_16 rfl ?_
      refine WP.iload_n dX8_cell_17 rfl ?_
      refine WP.iload_n dX8_cell_18 rfl ?_
      refine WP.callVp (as := [vI ((r : Nat) : Int), vI ((c : Nat) : Int)]) dX8_cell_19 mv_X8_62 rfl (rfl) (by decide) rfl rfl (w_at (r := r) (c := c) (by omega) (by omega) (hA.2.2.2 (r) (by omega) (c) (by omega))) rfl (Nat.le_of_ble_eq_true rfl) (by omega) ?_
      refine WP.goto (tgt := 26) dX8_cell_22 (by decide) ?_
      refine WP.iret dX8_cell_26 rfl ?_
      exact PM.same (by subst hc0; subst hr0; exact congrArg (fun z => (z, _)) (cif_t ⟨q5, q13⟩)) hV
set_option maxHeartbeats 4000000 in
set_option maxRecDepth 20000 in
theorem y_agreement {M : Mem} {n k h len : Nat} {sz tx : Nat → Nat} {ce : Nat → Nat → Nat} {hs : Nat → AR} {im : Nat → Option AR} (hV : InvM M (mkS n k sz ce h hs im len tx)) {x : Int} (hx : -2147483648 ≤ x ∧ x < 2147483648) {y : Int} (hy : -2147483648 ≤ y ∧ y < 2147483648) : CT 40 m_X8_agreement [vR 167, vI x, vI y] M (PM M (o_agreement (mkS n k sz ce h hs im len tx) x y)) := by
  have hA : BX (M 168) n k sz ce := hV.1.1
  have hW : Wf n k sz ce := hV.1.2
  have hH : HM M h hs := hV.2.1
  have hIM : IMm M im := hV.2.2.1
  have hS : SM M len tx := hV.2.2.2
  have b1 := hW.1
  have b2 := hW.2.1
  have hh8 := hH.1
  have hl3 := hS.1
  refine CT.ofWP (by decide +kernel) (Nat.le_of_ble_eq_true rfl) ?_
  show WP sc0 40 m_X8_agreement 0 [vR 167, vI x, vI y] [] M (PM M (o_agreement (mkS n k sz ce h hs im len tx) x y))
  refine WP.aload_n dX8_agreement_0 rfl ?_
  refine WP.iload_n dX8_agreement_1 rfl ?_
  refine WP.callVp (as := [vI x]) dX8_agreement_2 mv_X8_73 rfl (rfl) (by decide) rfl rfl (w_isRow hA hW (by omega)) rfl (Nat.le_of_ble_eq_true rfl) (by omega) ?_
  refine WP.if_eq (tgt := 25) dX8_agreement_5 (by decide) (bi_rng) (fun h5 => ?_) (fun h5 => ?_)
  · skip
    have q5 := bi_0 h5
    refine WP.iconst dX8_agreement_25 ?_
    refine WP.iret dX8_agreement_26 rfl ?_
    exact PM.same (congrArg (fun z => (z, _)) (cif_f (fun z => q5 z.1))) hV
  · skip
    have q5 := bi_1 h5
    obtain ⟨r, hr0⟩ : ∃ r : Nat, x.toNat = r := ⟨_, rfl⟩
    have hr1 : x = ((r : Nat) : Int) := by omega
    refine WP.fgt (lt := [vR 167, vI ((r : Nat) : Int), vI y]) ⟨Or.inr rfl, Or.inr (congrArg vI (hr1.symm)), Or.inr rfl, trivial⟩ ?_
    refine WP.aload_n dX8_agreement_8 rfl ?_
    refine WP.iload_n dX8_agreement_9 rfl ?_
    refine WP.callVp (as := [vI y]) dX8_agreement_10 mv_X8_73 rfl (rfl) (by decide) rfl rfl (w_isRow hA hW (by omega)) rfl (Nat.le_of_ble_eq_true rfl) (by omega) ?_
    refine WP.if_eq (tgt := 25) dX8_agreement_13 (by decide) (bi_rng) (fun h13 => ?_) (fun h13 => ?_)
    · skip
      have q13 := bi_0 h13
      refine WP.iconst dX8_agreement_25 ?_
      refine WP.iret dX8_agreement_26 rfl ?_
      exact PM.same (congrArg (fun z => (z, _)) (cif_f (fun z => q13 z.2))) hV
    · skip
      have q13 := bi_1 h13
      obtain ⟨c, hc0⟩ : ∃ c : Nat, y.toNat = c := ⟨_, rfl⟩
      have hc1 : y = ((c : Nat) : Int) := by omega
      refine WP.fgt (lt := [vR 167, vI ((r : Nat) : Int), vI ((c : Nat) : Int)]) ⟨Or.inr rfl, Or.inr rfl, Or.inr (congrArg vI (hc1.symm)), trivial⟩ ?_
      refine WP.aload_n dX8_agreement_16 rfl ?_
      refine WP.iload_n dX8_agreement_17 rfl ?_
      refine WP.iload_n dX8_agreement_18 rfl ?_
      refine WP.callVp (as := [vI ((r : Nat) : Int), vI ((c : Nat) : Int)]) dX8_agreement_19 mv_X8_162 rfl (rfl) (by decide) rfl rfl (w_agreeing (r := r) (q := c) hA hW (by omega) (by omega)) rfl (Nat.le_of_ble_eq_true rfl) (by omega) ?_
      refine WP.goto (tgt := 26) dX8_agreement_22 (by decide) ?_
      refine WP.iret dX8_agreement_26 rfl ?_
      exact PM.same (by subst hc0; subst hr0; exact congrArg (fun z => (z, _)) (cif_t ⟨q5, q13⟩)) hV
set_option maxHeartbeats 4000000 in
set_option maxRecDepth 20000 in
theorem y_pairs {M : Mem} {n k h len : Nat} {sz tx : Nat → Nat} {ce : Nat → Nat → Nat} {hs : Nat → AR} {im : Nat → Option AR} (hV : InvM M (mkS n k sz ce h hs im len tx)) {x : Int} (hx : -2147483648 ≤ x ∧ x < 2147483648) : CT 40 m_X8_pairs [vR 167, vI x] M (PM M (o_pairs (mkS n k sz ce h hs im len tx) x)) := by
  have hA : BX (M 168) n k sz ce := hV.1.1
  have hW : Wf n k sz ce := hV.1.2
  have hH : HM M h hs := hV.2.1
  have hIM : IMm M im := hV.2.2.1
  have hS : SM M len tx := hV.2.2.2
  have b1 := hW.1
  have b2 := hW.2.1
  have hh8 := hH.1
  have hl3 := hS.1
  refine CT.ofWP (by decide +kernel) (Nat.le_of_ble_eq_true rfl) ?_
  show WP sc0 40 m_X8_pairs 0 [vR 167, vI x, vU, vU, vU] [] M (PM M (o_pairs (mkS n k sz ce h hs im len tx) x))
  refine WP.iload_n dX8_pairs_0 rfl ?_
  refine WP.iconst dX8_pairs_1 ?_
  refine WP.bipush dX8_pairs_2 (by decide) ?_
  refine WP.callSp (as := [vI x, vI (0 : Int), vI (7 : Int)]) dX8_pairs_4 ms_X8_43 rfl (w_isIn (by omega) (by omega) (by omega)) rfl (Nat.le_of_ble_eq_true rfl) (by omega) ?_
  refine WP.if_ne (tgt := 12) dX8_pairs_7 (by decide) (bi_rng) (fun h7 => ?_) (fun h7 => ?_)
  · skip
    have q7 := bi_1 h7
    obtain ⟨c, hc0⟩ : ∃ c : Nat, x.toNat = c := ⟨_, rfl⟩
    have hc1 : x = ((c : Nat) : Int) := by omega
    refine WP.fgt (lt := [vR 167, vI ((c : Nat) : Int), vU, vU, vU]) ⟨Or.inr rfl, Or.inr (congrArg vI (hc1.symm)), Or.inl rfl, Or.inl rfl, Or.inl rfl, trivial⟩ ?_
    refine WP.iconst dX8_pairs_12 ?_
    refine WP.istore_n (lt := [vR 167, vI ((c : Nat) : Int), vI (0 : Int), vU, vU]) dX8_pairs_13 (by decide) rfl ?_
    refine WP.iconst dX8_pairs_14 ?_
    refine WP.istore_n (lt := [vR 167, vI ((c : Nat) : Int), vI (0 : Int), vI (0 : Int), vU]) dX8_pairs_15 (by decide) rfl ?_
    have L16 : ∀ (n9 : Nat) (r : Nat) (hr : r ≤ n), n - r < n9 → WP sc0 40 m_X8_pairs 16 [vR 167, vI ((c : Nat) : Int), vI ((prs r k ce c : Nat) : Int), vI ((r : Nat) : Int), vU] [] M (PM M (o_pairs (mkS n k sz ce h hs im len tx) x)) := by
      intro n9
      induction n9 with
      | zero =>
        intro r hr hm9
        exact absurd hm9 (Nat.not_lt_zero _)
      | succ n9 ih16 =>
        intro r hr hm9
        have hps := prs_le r k ce c
        refine WP.iload_n dX8_pairs_16 rfl ?_
        refine WP.aload_n dX8_pairs_17 rfl ?_
        refine WP.getR (y := 168) dX8_pairs_18 fl_X8_7 (rfl) (by decide) (rfl) ?_
        refine WP.iconst dX8_pairs_21 ?_
        refine WP.iaload (y := 0) (x := ((n : Nat) : Int)) dX8_pairs_22 (rfl) (by omega) (by omega) (hA.1) ?_
        refine WP.icmp_ge (tgt := 66) dX8_pairs_23 (by decide) (by omega) (by omega) (fun h23 => ?_) (fun h23 => ?_)
        · skip
          refine WP.iload_n dX8_pairs_66 rfl ?_
          refine WP.iret dX8_pairs_67 rfl ?_
          exact PM.same (by subst hc0; rw [show r = n by omega]; exact congrArg (fun z => (z, _)) (cif_t (show 0 ≤ x ∧ x ≤ 7 by omega))) hV
        · skip
          refine WP.iconst dX8_pairs_26 ?_
          refine WP.istore (lt := [vR 167, vI ((c : Nat) : Int), vI ((prs r k ce c : Nat) : Int), vI ((r : Nat) : Int), vI (0 : Int)]) dX8_pairs_27 (by decide) rfl ?_
          have L29 : ∀ (n9 : Nat) (q : Nat) (hq : q ≤ r), r - q < n9 → WP sc0 40 m_X8_pairs 29 [vR 167, vI ((c : Nat) : Int), vI ((prs r k ce c + cn (fun y9 => agr ce r y9 k = c) q : Nat) : Int), vI ((r : Nat) : Int), vI ((q : Nat) : Int)] [] M (PM M (o_pairs (mkS n k sz ce h hs im len tx) x)) := by
            intro n9
            induction n9 with
            | zero =>
              intro q hq hm9
              exact absurd hm9 (Nat.not_lt_zero _)
            | succ n9 ih29 =>
              intro q hq hm9
              have hcl := cn_le (fun y9 => agr ce r y9 k = c) q
              refine WP.iload dX8_pairs_29 rfl ?_
              refine WP.iload_n dX8_pairs_31 rfl ?_
              refine WP.icmp_ge (tgt := 60) dX8_pairs_32 (by decide) (by omega) (by omega) (fun h32 => ?_) (fun h32 => ?_)
              · skip
                refine WP.iinc (lt := [vR 167, vI ((c : Nat) : Int), vI ((prs r k ce c + cn (fun y9 => agr ce r y9 k = c) q : Nat) : Int), vI (((r : Nat) : Int) + 1), vI ((q : Nat) : Int)]) dX8_pairs_60 rfl (by decide) rfl ?_
                refine WP.goto (tgt := 16) dX8_pairs_63 (by decide) ?_
                refine WP.fgt (lt := [vR 167, vI ((c : Nat) : Int), vI ((prs (r + 1) k ce c : Nat) : Int), vI (((r + 1) : Nat) : Int), vU]) ⟨Or.inr rfl, Or.inr rfl, Or.inr (congrArg vI (by rw [prs_s, show q = r by omega])), Or.inr (congrArg vI (by omega)), Or.inl rfl, trivial⟩ ?_
                exact ih16 (r + 1) (by omega) (by omega)
              · skip
                refine WP.iload_n dX8_pairs_35 rfl ?_
                refine WP.aload_n dX8_pairs_36 rfl ?_
                refine WP.iload_n dX8_pairs_37 rfl ?_
                refine WP.iload dX8_pairs_38 rfl ?_
                refine WP.callVp (as := [vI ((r : Nat) : Int), vI ((q : Nat) : Int)]) dX8_pairs_40 mv_X8_162 rfl (rfl) (by decide) rfl rfl (w_agreeing (r := r) (q := q) hA hW (by omega) (by omega)) rfl (Nat.le_of_ble_eq_true rfl) (by omega) ?_
                have w1 := agr_le ce r q k
                refine WP.iload_n dX8_pairs_43 rfl ?_
                refine WP.icmp_ne (tgt := 51) dX8_pairs_44 (by decide) (by omega) (by omega) (fun h44 => ?_) (fun h44 => ?_)
                · skip
                  have q44 : cn (fun y9 => agr ce r y9 k = c) (q + 1) = cn (fun y9 => agr ce r y9 k = c) q := cn_f (p := (fun y9 => agr ce r y9 k = c)) (by omega)
                  refine WP.iconst dX8_pairs_51 ?_
                  refine WP.iadd dX8_pairs_52 ?_
                  refine WP.istore_n (lt := [vR 167, vI ((c : Nat) : Int), vI (((prs r k ce c + cn (fun y9 => agr ce r y9 k = c) q : Nat) : Int) + (0 : Int)), vI ((r : Nat) : Int), vI ((q : Nat) : Int)]) dX8_pairs_53 (by decide) rfl ?_
                  refine WP.iinc (lt := [vR 167, vI ((c : Nat) : Int), vI (((prs r k ce c + cn (fun y9 => agr ce r y9 k = c) q : Nat) : Int) + (0 : Int)), vI ((r : Nat) : Int), vI (((q : Nat) : Int) + 1)]) dX8_pairs_54 rfl (by decide) rfl ?_
                  refine WP.goto (tgt := 29) dX8_pairs_57 (by decide) ?_
                  refine WP.fgt (lt := [vR 167, vI ((c : Nat) : Int), vI ((prs r k ce c + cn (fun y9 => agr ce r y9 k = c) (q + 1) : Nat) : Int), vI ((r : Nat) : Int), vI (((q + 1) : Nat) : Int)]) ⟨Or.inr rfl, Or.inr rfl, Or.inr (congrArg vI (by rw [q44]; omega)), Or.inr rfl, Or.inr (congrArg vI (by omega)), trivial⟩ ?_
                  exact ih29 (q + 1) (by omega) (by omega)
                · skip
                  have q44 : cn (fun y9 => agr ce r y9 k = c) (q + 1) = cn (fun y9 => agr ce r y9 k = c) q + 1 := cn_t (p := (fun y9 => agr ce r y9 k = c)) (by omega)
                  refine WP.iconst dX8_pairs_47 ?_
                  refine WP.goto (tgt := 52) dX8_pairs_48 (by decide) ?_
                  refine WP.iadd dX8_pairs_52 ?_
                  refine WP.istore_n (lt := [vR 167, vI ((c : Nat) : Int), vI (((prs r k ce c + cn (fun y9 => agr ce r y9 k = c) q : Nat) : Int) + (1 : Int)), vI ((r : Nat) : Int), vI ((q : Nat) : Int)]) dX8_pairs_53 (by decide) rfl ?_
                  refine WP.iinc (lt := [vR 167, vI ((c : Nat) : Int), vI (((prs r k ce c + cn (fun y9 => agr ce r y9 k = c) q : Nat) : Int) + (1 : Int)), vI ((r : Nat) : Int), vI (((q : Nat) : Int) + 1)]) dX8_pairs_54 rfl (by decide) rfl ?_
                  refine WP.goto (tgt := 29) dX8_pairs_57 (by decide) ?_
                  refine WP.fgt (lt := [vR 167, vI ((c : Nat) : Int), vI ((prs r k ce c + cn (fun y9 => agr ce r y9 k = c) (q + 1) : Nat) : Int), vI ((r : Nat) : Int), vI (((q + 1) : Nat) : Int)]) ⟨Or.inr rfl, Or.inr rfl, Or.inr (congrArg vI (by rw [q44]; omega)), Or.inr rfl, Or.inr (congrArg vI (by omega)), trivial⟩ ?_
                  exact ih29 (q + 1) (by omega) (by omega)
          refine WP.fgt (lt := [vR 167, vI ((c : Nat) : Int), vI ((prs r k ce c + cn (fun y9 => agr ce r y9 k = c) 0 : Nat) : Int), vI ((r : Nat) : Int), vI ((0 : Nat) : Int)]) ⟨Or.inr rfl, Or.inr rfl, Or.inr (congrArg vI (rfl)), Or.inr rfl, Or.inr (congrArg vI (by omega)), trivial⟩ ?_
          exact L29 _ (0) (Nat.zero_le _) (Nat.lt_succ_self _)
    refine WP.fgt (lt := [vR 167, vI ((c : Nat) : Int), vI ((prs 0 k ce c : Nat) : Int), vI ((0 : Nat) : Int), vU]) ⟨Or.inr rfl, Or.inr rfl, Or.inr (congrArg vI (rfl)), Or.inr (congrArg vI (by omega)), Or.inl rfl, trivial⟩ ?_
    exact L16 _ (0) (Nat.zero_le _) (Nat.lt_succ_self _)
  · skip
    have q7 := bi_0 h7
    refine WP.iconst dX8_pairs_10 ?_
    refine WP.iret dX8_pairs_11 rfl ?_
    exact PM.same (congrArg (fun z => (z, _)) (cif_f (fun z => q7 (by omega)))) hV
set_option maxHeartbeats 4000000 in
set_option maxRecDepth 20000 in
theorem y_count {M : Mem} {n k h len : Nat} {sz tx : Nat → Nat} {ce : Nat → Nat → Nat} {hs : Nat → AR} {im : Nat → Option AR} (hV : InvM M (mkS n k sz ce h hs im len tx)) {x : Int} (hx : -2147483648 ≤ x ∧ x < 2147483648) {y : Int} (hy : -2147483648 ≤ y ∧ y < 2147483648) : CT 40 m_X8_count [vR 167, vI x, vI y] M (PM M (o_count (mkS n k sz ce h hs im len tx) x y)) := by
  have hA : BX (M 168) n k sz ce := hV.1.1
  have hW : Wf n k sz ce := hV.1.2
  have hH : HM M h hs := hV.2.1
  have hIM : IMm M im := hV.2.2.1
  have hS : SM M len tx := hV.2.2.2
  have b1 := hW.1
  have b2 := hW.2.1
  have hh8 := hH.1
  have hl3 := hS.1
  have hp128 := pw7 b2
  have hp1 : 0 < 2 ^ k := Nat.two_pow_pos k
  refine CT.ofWP (by decide +kernel) (Nat.le_of_ble_eq_true rfl) ?_
  show WP sc0 40 m_X8_count 0 [vR 167, vI x, vI y, vU, vU] [] M (PM M (o_count (mkS n k sz ce h hs im len tx) x y))
  refine WP.iload_n dX8_count_0 rfl ?_
  refine WP.if_lt (tgt := 31) dX8_count_1 (by decide) (by omega) (fun h1 => ?_) (fun h1 => ?_)
  · skip
    refine WP.iconst dX8_count_31 ?_
    refine WP.iret dX8_count_32 rfl ?_
    exact PM.same (congrArg (fun z => (z, _)) (cif_f (fun z => by have := z.1; omega))) hV
  · skip
    obtain ⟨c, hc0⟩ : ∃ c : Nat, x.toNat = c := ⟨_, rfl⟩
    have hc1 : x = ((c : Nat) : Int) := by omega
    refine WP.fgt (lt := [vR 167, vI ((c : Nat) : Int), vI y, vU, vU]) ⟨Or.inr rfl, Or.inr (congrArg vI (hc1.symm)), Or.inr rfl, Or.inl rfl, Or.inl rfl, trivial⟩ ?_
    refine WP.iload_n dX8_count_4 rfl ?_
    refine WP.iconst dX8_count_5 ?_
    refine WP.aload_n dX8_count_6 rfl ?_
    refine WP.getR (y := 168) dX8_count_7 fl_X8_7 (rfl) (by decide) (rfl) ?_
    refine WP.iconst dX8_count_10 ?_
    refine WP.iaload (y := 1) (x := ((k : Nat) : Int)) dX8_count_11 (rfl) (by omega) (by omega) (hA.2.1) ?_
    refine WP.ishl (z := ((2 ^ k : Nat) : Int)) dX8_count_12 (shl_ok k (by omega)) ?_
    refine WP.icmp_ge (tgt := 31) dX8_count_13 (by decide) (by omega) (by omega) (fun h13 => ?_) (fun h13 => ?_)
    · skip
      refine WP.iconst dX8_count_31 ?_
      refine WP.iret dX8_count_32 rfl ?_
      exact PM.same (by subst hc0; exact congrArg (fun z => (z, _)) (cif_f (fun z => by first
        | (have := z.1; dsimp only at this; omega)
        | (have := z.2; dsimp only at this; omega)))) hV
    · skip
      refine WP.iload_n dX8_count_16 rfl ?_
      refine WP.iconst dX8_count_17 ?_
      refine WP.aload_n dX8_count_18 rfl ?_
      refine WP.iload_n dX8_count_19 rfl ?_
      refine WP.callVp (as := [vI ((c : Nat) : Int)]) dX8_count_20 mv_X8_132 rfl (rfl) (by decide) rfl rfl (w_tuples (set := c) hA hW (by omega)) rfl (Nat.le_of_ble_eq_true rfl) (by omega) ?_
      have w1 := tps_b (sz := sz) (set := c) b2 (fun b hb => (hW.2.2.1 b hb).2)
      refine WP.iconst dX8_count_23 ?_
      refine WP.isub dX8_count_24 ?_
      refine WP.callSp (as := [vI y, vI (0 : Int), vI (((tps sz c k : Nat) : Int) - (1 : Int))]) dX8_count_25 ms_X8_43 rfl (w_isIn (by omega) (by omega) (by omega)) rfl (Nat.le_of_ble_eq_true rfl) (by omega) ?_
      refine WP.if_ne (tgt := 33) dX8_count_28 (by decide) (bi_rng) (fun h28 => ?_) (fun h28 => ?_)
      · skip
        have q28 := bi_1 h28
        obtain ⟨v, hv0⟩ : ∃ v : Nat, y.toNat = v := ⟨_, rfl⟩
        have hv1 : y = ((v : Nat) : Int) := by omega
        refine WP.fgt (lt := [vR 167, vI ((c : Nat) : Int), vI ((v : Nat) : Int), vU, vU]) ⟨Or.inr rfl, Or.inr rfl, Or.inr (congrArg vI (hv1.symm)), Or.inl rfl, Or.inl rfl, trivial⟩ ?_
        refine WP.iconst dX8_count_33 ?_
        refine WP.istore_n (lt := [vR 167, vI ((c : Nat) : Int), vI ((v : Nat) : Int), vI (0 : Int), vU]) dX8_count_34 (by decide) rfl ?_
        refine WP.iconst dX8_count_35 ?_
        refine WP.istore (lt := [vR 167, vI ((c : Nat) : Int), vI ((v : Nat) : Int), vI (0 : Int), vI (0 : Int)]) dX8_count_36 (by decide) rfl ?_
        have L38 : ∀ (n9 : Nat) (r : Nat) (hr : r ≤ n), n - r < n9 → WP sc0 40 m_X8_count 38 [vR 167, vI ((c : Nat) : Int), vI ((v : Nat) : Int), vI ((cn (fun y9 => tpo sz (ce y9) c k = v) r : Nat) : Int), vI ((r : Nat) : Int)] [] M (PM M (o_count (mkS n k sz ce h hs im len tx) x y)) := by
          intro n9
          induction n9 with
          | zero =>
            intro r hr hm9
            exact absurd hm9 (Nat.not_lt_zero _)
          | succ n9 ih38 =>
            intro r hr hm9
            have hcl := cn_le (fun y9 => tpo sz (ce y9) c k = v) r
            refine WP.iload dX8_count_38 rfl ?_
            refine WP.aload_n dX8_count_40 rfl ?_
            refine WP.getR (y := 168) dX8_count_41 fl_X8_7 (rfl) (by decide) (rfl) ?_
            refine WP.iconst dX8_count_44 ?_
            refine WP.iaload (y := 0) (x := ((n : Nat) : Int)) dX8_count_45 (rfl) (by omega) (by omega) (hA.1) ?_
            refine WP.icmp_ge (tgt := 74) dX8_count_46 (by decide) (by omega) (by omega) (fun h46 => ?_) (fun h46 => ?_)
            · skip
              refine WP.iload_n dX8_count_74 rfl ?_
              refine WP.iret dX8_count_75 rfl ?_
              exact PM.same (by subst hc0; subst hv0; rw [show r = n by omega]; exact congrArg (fun z => (z, _)) (cif_t ⟨(show 0 ≤ x ∧ x < ((2 ^ k : Nat) : Int) by omega), (show 0 ≤ y ∧ y < ((tps sz x.toNat k : Nat) : Int) by omega)⟩)) hV
            · skip
              refine WP.iload_n dX8_count_49 rfl ?_
              refine WP.aload_n dX8_count_50 rfl ?_
              refine WP.iload dX8_count_51 rfl ?_
              refine WP.iload_n dX8_count_53 rfl ?_
              refine WP.callVp (as := [vI ((r : Nat) : Int), vI ((c : Nat) : Int)]) dX8_count_54 mv_X8_129 rfl (rfl) (by decide) rfl rfl (w_tupleOf (r := r) (set := c) hA hW (by omega) (by omega)) rfl (Nat.le_of_ble_eq_true rfl) (by omega) ?_
              have w2 := tpo_lt (sz := sz) (row := ce r) (set := c) (k := k) (fun b hb => hW.2.2.2 r (by omega) b hb)
              refine WP.iload_n dX8_count_57 rfl ?_
              refine WP.icmp_ne (tgt := 65) dX8_count_58 (by decide) (by omega) (by omega) (fun h58 => ?_) (fun h58 => ?_)
              · skip
                have q58 : cn (fun y9 => tpo sz (ce y9) c k = v) (r + 1) = cn (fun y9 => tpo sz (ce y9) c k = v) r := cn_f (p := (fun y9 => tpo sz (ce y9) c k = v)) (by omega)
                refine WP.iconst dX8_count_65 ?_
                refine WP.iadd dX8_count_66 ?_
                refine WP.istore_n (lt := [vR 167, vI ((c : Nat) : Int), vI ((v : Nat) : Int), vI (((cn (fun y9 => tpo sz (ce y9) c k = v) r : Nat) : Int) + (0 : Int)), vI ((r : Nat) : Int)]) dX8_count_67 (by decide) rfl ?_
                refine WP.iinc (lt := [vR 167, vI ((c : Nat) : Int), vI ((v : Nat) : Int), vI (((cn (fun y9 => tpo sz (ce y9) c k = v) r : Nat) : Int) + (0 : Int)), vI (((r : Nat) : Int) + 1)]) dX8_count_68 rfl (by decide) rfl ?_
                refine WP.goto (tgt := 38) dX8_count_71 (by decide) ?_
                refine WP.fgt (lt := [vR 167, vI ((c : Nat) : Int), vI ((v : Nat) : Int), vI ((cn (fun y9 => tpo sz (ce y9) c k = v) (r + 1) : Nat) : Int), vI (((r + 1) : Nat) : Int)]) ⟨Or.inr rfl, Or.inr rfl, Or.inr rfl, Or.inr (congrArg vI (by rw [q58]; omega)), Or.inr (congrArg vI (by omega)), trivial⟩ ?_
                exact ih38 (r + 1) (by omega) (by omega)
              · skip
                have q58 : cn (fun y9 => tpo sz (ce y9) c k = v) (r + 1) = cn (fun y9 => tpo sz (ce y9) c k = v) r + 1 := cn_t (p := (fun y9 => tpo sz (ce y9) c k = v)) (by omega)
                refine WP.iconst dX8_count_61 ?_
                refine WP.goto (tgt := 66) dX8_count_62 (by decide) ?_
                refine WP.iadd dX8_count_66 ?_
                refine WP.istore_n (lt := [vR 167, vI ((c : Nat) : Int), vI ((v : Nat) : Int), vI (((cn (fun y9 => tpo sz (ce y9) c k = v) r : Nat) : Int) + (1 : Int)), vI ((r : Nat) : Int)]) dX8_count_67 (by decide) rfl ?_
                refine WP.iinc (lt := [vR 167, vI ((c : Nat) : Int), vI ((v : Nat) : Int), vI (((cn (fun y9 => tpo sz (ce y9) c k = v) r : Nat) : Int) + (1 : Int)), vI (((r : Nat) : Int) + 1)]) dX8_count_68 rfl (by decide) rfl ?_
                refine WP.goto (tgt := 38) dX8_count_71 (by decide) ?_
                refine WP.fgt (lt := [vR 167, vI ((c : Nat) : Int), vI ((v : Nat) : Int), vI ((cn (fun y9 => tpo sz (ce y9) c k = v) (r + 1) : Nat) : Int), vI (((r + 1) : Nat) : Int)]) ⟨Or.inr rfl, Or.inr rfl, Or.inr rfl, Or.inr (congrArg vI (by rw [q58]; omega)), Or.inr (congrArg vI (by omega)), trivial⟩ ?_
                exact ih38 (r + 1) (by omega) (by omega)
        refine WP.fgt (lt := [vR 167, vI ((c : Nat) : Int), vI ((v : Nat) : Int), vI ((cn (fun y9 => tpo sz (ce y9) c k = v) 0 : Nat) : Int), vI ((0 : Nat) : Int)]) ⟨Or.inr rfl, Or.inr rfl, Or.inr rfl, Or.inr (congrArg vI (rfl)), Or.inr (congrArg vI (by omega)), trivial⟩ ?_
        exact L38 _ (0) (Nat.zero_le _) (Nat.lt_succ_self _)
      · skip
        have q28 := bi_0 h28
        refine WP.iconst dX8_count_31 ?_
        refine WP.iret dX8_count_32 rfl ?_
        exact PM.same (by subst hc0; exact congrArg (fun z => (z, _)) (cif_f (fun z => by first
          | (have := z.1; dsimp only at this; omega)
          | (have := z.2; dsimp only at this; omega)))) hV
