theorem msk_dec' : ∀ n : Nat, n < 37 → (1 : Int64) <<< ((Int32.ofInt (n : Int)).toInt64 &&& 63) = Int64.ofNat (2 ^ n) := by decide +kernel
theorem msk_dec2 : ∀ n : Nat, n < 37 → Int64.ofNat (2 ^ n) - 1 = Int64.ofNat (2 ^ n - 1) := by decide +kernel
set_option maxHeartbeats 4000000 in
set_option maxRecDepth 20000 in
theorem c_T_allRows {M : Mem} {t n k : Nat} {sz : Nat → Nat} {ce : Nat → Nat → Nat} (ht : isT t) (hT : TX M t n k sz ce) (hW : Wf n k sz ce) : CT 1 m_X6_allRows [vR t] M (Rt (some (vL (Int64.ofNat (2 ^ n - 1)))) M) := by
  have b1 := hW.1
  have b2 := hW.2.1
  refine CT.ofWP (by decide +kernel) (Nat.le_of_ble_eq_true rfl) ?_
  show WP sc0 1 m_X6_allRows 0 [vR t] [] M (Rt (some (vL (Int64.ofNat (2 ^ n - 1)))) M)
  refine WP.lconst (v := 1) dX6_allRows_0 (by decide) ?_
  refine WP.aload_n dX6_allRows_1 rfl ?_
  refine WP.getI (x := ((n : Nat) : Int)) dX6_allRows_2 fl_X6_9 (shT0 ht) (by decide) (hT.1) ?_
  refine WP.lshl (z := (Int64.ofNat (2 ^ n))) dX6_allRows_5 (msk_dec' n (by omega)) ?_
  refine WP.lconst (v := 1) dX6_allRows_6 (by decide) ?_
  refine WP.lsub dX6_allRows_7 ?_
  refine WP.eqs (st' := [vL (Int64.ofNat (2 ^ n - 1))]) rfl (lc (congrArg vL (msk_dec2 n (by omega))) rfl) ?_
  refine WP.lret dX6_allRows_8 rfl ?_
  exact ⟨rfl, rfl⟩
set_option maxHeartbeats 4000000 in
set_option maxRecDepth 20000 in
theorem c_T_removeRow {M : Mem} {t n k : Nat} {sz : Nat → Nat} {ce : Nat → Nat → Nat} {r : Nat} (ht : isT t) (hT : TX M t n k sz ce) (hW : Wf n k sz ce) (hr : r < n) : CT 3 m_X6_removeRow [vR t, vI ((r : Nat) : Int)] M (fun z M' => z = none ∧ (∀ a, a ≠ t → a ≠ t + 2 → M' a = M a) ∧ TX M' t (n - 1) k sz (fun p c => if p < r then ce p c else ce (p + 1) c)) := by
  have b1 := hW.1
  have b2 := hW.2.1
  refine CT.ofWP (by decide +kernel) (Nat.le_of_ble_eq_true rfl) ?_
  show WP sc0 3 m_X6_removeRow 0 [vR t, vI ((r : Nat) : Int), vU] [] M (fun z M' => z = none ∧ (∀ a, a ≠ t → a ≠ t + 2 → M' a = M a) ∧ TX M' t (n - 1) k sz (fun p c => if p < r then ce p c else ce (p + 1) c))
  refine WP.aload_n dX6_removeRow_0 rfl ?_
  refine WP.dup dX6_removeRow_1 rfl ?_
  refine WP.getI (x := ((n : Nat) : Int)) dX6_removeRow_2 fl_X6_9 (shT0 ht) (by decide) (hT.1) ?_
  refine WP.iconst dX6_removeRow_5 ?_
  refine WP.isub dX6_removeRow_6 ?_
  refine WP.putI dX6_removeRow_7 fl_X6_9 (shT0 ht) (by decide) rfl ?_
  have hO0 := mset_o (M := M) (id := t) (i := 0) (x := ((n : Nat) : Int) - 1)
  have hS0 : mset M t 0 (((n : Nat) : Int) - 1) t 0 = ((n - 1 : Nat) : Int) := by rw [mset_s]; omega
  have hS1 : mset M t 0 (((n : Nat) : Int) - 1) t 1 = (k : Int) := by rw [mset_n (Or.inr (by decide))]; exact hT.2.1
  generalize mset M t 0 (((n : Nat) : Int) - 1) = M0 at hO0 hS0 hS1 ⊢
  refine WP.iload_n dX6_removeRow_10 rfl ?_
  refine WP.istore_n (lt := [vR t, vI ((r : Nat) : Int), vI ((r : Nat) : Int)]) dX6_removeRow_11 (by decide) rfl ?_
  have L12 : ∀ (n9 : Nat) (q : Nat) (M1 : Mem) (hq : r ≤ q ∧ q ≤ n - 1) (hF : ∀ a, a ≠ t → a ≠ t + 2 → M1 a = M a) (h0 : M1 t 0 = ((n - 1 : Nat) : Int)) (h1 : M1 t 1 = (k : Int)) (hC : ∀ p b, b < 7 → M1 (t + 2) (p * 7 + b) = if (r ≤ p ∧ p < q) ∧ b < k then M (t + 2) ((p + 1) * 7 + b) else M (t + 2) (p * 7 + b)), n - q < n9 → WP sc0 3 m_X6_removeRow 12 [vR t, vI ((r : Nat) : Int), vI ((q : Nat) : Int)] [] M1 (fun z M' => z = none ∧ (∀ a, a ≠ t → a ≠ t + 2 → M' a = M a) ∧ TX M' t (n - 1) k sz (fun p c => if p < r then ce p c else ce (p + 1) c)) := by
    intro n9
    induction n9 with
    | zero =>
      intro q M1 hq hF h0 h1 hC hm9
      exact absurd hm9 (Nat.not_lt_zero _)
    | succ n9 ih12 =>
      intro q M1 hq hF h0 h1 hC hm9
      refine WP.iload_n dX6_removeRow_12 rfl ?_
      refine WP.aload_n dX6_removeRow_13 rfl ?_
      refine WP.getI (x := ((n - 1 : Nat) : Int)) dX6_removeRow_14 fl_X6_9 (shT0 ht) (by decide) (h0) ?_
      refine WP.icmp_ge (tgt := 34) dX6_removeRow_17 (by decide) (by omega) (by omega) (fun h17 => ?_) (fun h17 => ?_)
      · skip
        refine WP.vret dX6_removeRow_34 rfl ?_
        refine ⟨rfl, hF, h0, h1, fun c hc => by rw [hF (t + 1) (by omega) (by omega)]; exact hT.2.2.1 c hc, fun p hp c hc => ?_⟩
        rw [hC p c (by omega)]
        by_cases e1 : p < r
        · rw [if_neg (by omega)]
          dsimp only
          rw [if_pos e1]
          exact hT.2.2.2 p (by omega) c hc
        · rw [if_pos (by omega)]
          dsimp only
          rw [if_neg e1]
          exact hT.2.2.2 (p + 1) (by omega) c hc
      · skip
        refine WP.aload_n dX6_removeRow_20 rfl ?_
        refine WP.iload_n dX6_removeRow_21 rfl ?_
        refine WP.iconst dX6_removeRow_22 ?_
        refine WP.iadd dX6_removeRow_23 ?_
        refine WP.iload_n dX6_removeRow_24 rfl ?_
        refine WP.eqs (st' := [vI ((q : Nat) : Int), vI ((q + 1 : Nat) : Int), vR t]) rfl (lc (rfl) (lc (congrArg vI (by omega)) (rfl))) ?_
        refine WP.callV (as := [vI ((q + 1 : Nat) : Int), vI ((q : Nat) : Int)]) dX6_removeRow_25 mv_X6_39 rfl (shT0 ht) (by decide) rfl rfl (c_T_copyRow (r := q + 1) (e := q) ht h1 b2 (by omega) (by omega)) rfl (Nat.le_of_ble_eq_true rfl) (by omega) (fun r9 M2 h9 => ?_)
        obtain ⟨rfl, g1, g2⟩ := h9
        show WP sc0 3 m_X6_removeRow 28 [vR t, vI ((r : Nat) : Int), vI ((q : Nat) : Int)] [] M2 (fun z M' => z = none ∧ (∀ a, a ≠ t → a ≠ t + 2 → M' a = M a) ∧ TX M' t (n - 1) k sz (fun p c => if p < r then ce p c else ce (p + 1) c))
        refine WP.iinc (lt := [vR t, vI ((r : Nat) : Int), vI (((q : Nat) : Int) + 1)]) dX6_removeRow_28 rfl (by decide) rfl ?_
        refine WP.goto (tgt := 12) dX6_removeRow_31 (by decide) ?_
        refine WP.fgt (lt := [vR t, vI ((r : Nat) : Int), vI (((q + 1) : Nat) : Int)]) ⟨Or.inr rfl, Or.inr rfl, Or.inr (congrArg vI (by omega)), trivial⟩ ?_
        exact ih12 (q + 1) (M2) (by omega) (fun a h8 h9 => (g1 a h9).trans (hF a h8 h9)) (by rw [g1 t (by omega)]; exact h0) (by rw [g1 t (by omega)]; exact h1) (fun p b hb => by
          rw [g2 p b hb, hC p b hb, hC (q + 1) b hb]
          by_cases e1 : p = q
          · subst e1
            by_cases e2 : b < k
            · rw [if_pos ⟨rfl, e2⟩, if_neg (by omega), if_pos (by omega)]
            · rw [if_neg (by omega), if_neg (by omega), if_neg (by omega)]
          · rw [if_neg (by omega)]
            by_cases e2 : (r ≤ p ∧ p < q) ∧ b < k
            · rw [if_pos e2, if_pos (by omega)]
            · rw [if_neg e2, if_neg (by omega)]) (by omega)
  exact L12 _ (r) (M0) (by omega) (fun a h1 h2 => hO0 a h1) (hS0) (hS1) (fun p b hb => by rw [if_neg (by omega), hO0 (t + 2) (by omega)]) (Nat.lt_succ_self _)
set_option maxHeartbeats 4000000 in
set_option maxRecDepth 20000 in
theorem c_T_swapRows {M : Mem} {t n k : Nat} {sz : Nat → Nat} {ce : Nat → Nat → Nat} {r q : Nat} (ht : isT t) (hT : TX M t n k sz ce) (hW : Wf n k sz ce) (hr : r < n) (hq : q < n) : CT 2 m_X6_swapRows [vR t, vI ((r : Nat) : Int), vI ((q : Nat) : Int)] M (fun z M' => z = none ∧ (∀ a, a ≠ t + 2 → M' a = M a) ∧ TX M' t n k sz (swp ce r q)) := by
  have b1 := hW.1
  have b2 := hW.2.1
  refine CT.ofWP (by decide +kernel) (Nat.le_of_ble_eq_true rfl) ?_
  show WP sc0 2 m_X6_swapRows 0 [vR t, vI ((r : Nat) : Int), vI ((q : Nat) : Int), vU, vU] [] M (fun z M' => z = none ∧ (∀ a, a ≠ t + 2 → M' a = M a) ∧ TX M' t n k sz (swp ce r q))
  refine WP.iconst dX6_swapRows_0 ?_
  refine WP.istore_n (lt := [vR t, vI ((r : Nat) : Int), vI ((q : Nat) : Int), vI (0 : Int), vU]) dX6_swapRows_1 (by decide) rfl ?_
  have L2 : ∀ (n9 : Nat) (c : Nat) (M1 : Mem) (hc : c ≤ k) (hF : ∀ a, a ≠ t + 2 → M1 a = M a) (hC : ∀ p b, b < 7 → M1 (t + 2) (p * 7 + b) = if p = r ∧ b < c then M (t + 2) (q * 7 + b) else if p = q ∧ b < c then M (t + 2) (r * 7 + b) else M (t + 2) (p * 7 + b)), k - c < n9 → WP sc0 2 m_X6_swapRows 2 [vR t, vI ((r : Nat) : Int), vI ((q : Nat) : Int), vI ((c : Nat) : Int), vU] [] M1 (fun z M' => z = none ∧ (∀ a, a ≠ t + 2 → M' a = M a) ∧ TX M' t n k sz (swp ce r q)) := by
    intro n9
    induction n9 with
    | zero =>
      intro c M1 hc hF hC hm9
      exact absurd hm9 (Nat.not_lt_zero _)
    | succ n9 ih2 =>
      intro c M1 hc hF hC hm9
      refine WP.iload_n dX6_swapRows_2 rfl ?_
      refine WP.aload_n dX6_swapRows_3 rfl ?_
      refine WP.getI (x := ((k : Nat) : Int)) dX6_swapRows_4 fl_X6_15 (shT0 ht) (by decide) (by rw [hF t (by omega)]; exact hT.2.1) ?_
      refine WP.icmp_ge (tgt := 44) dX6_swapRows_7 (by decide) (by omega) (by omega) (fun h7 => ?_) (fun h7 => ?_)
      · skip
        have e1 : k = c := by omega
        subst e1
        refine WP.vret dX6_swapRows_44 rfl ?_
        refine ⟨rfl, hF, by rw [hF t (by omega)]; exact hT.1, by rw [hF t (by omega)]; exact hT.2.1, fun b hb => by rw [hF (t + 1) (by omega)]; exact hT.2.2.1 b hb, fun p hp b hb => ?_⟩
        rw [hC p b (by omega)]
        unfold swp
        by_cases e1 : p = r
        · rw [if_pos (by omega), if_pos e1]
          exact hT.2.2.2 q hq b hb
        · rw [if_neg (by omega), if_neg e1]
          by_cases e2 : p = q
          · rw [if_pos (by omega), if_pos e2]
            exact hT.2.2.2 r hr b hb
          · rw [if_neg (by omega), if_neg e2]
            exact hT.2.2.2 p hp b hb
      · skip
        have v1 : M1 (t + 2) (r * 7 + c) = (ce r c : Int) := by rw [hC r c (by omega), if_neg (by omega), if_neg (by omega)]; exact hT.2.2.2 r hr c (by omega)
        have v2 : M1 (t + 2) (q * 7 + c) = (ce q c : Int) := by rw [hC q c (by omega), if_neg (by omega), if_neg (by omega)]; exact hT.2.2.2 q hq c (by omega)
        refine WP.aload_n dX6_swapRows_10 rfl ?_
        refine WP.iload_n dX6_swapRows_11 rfl ?_
        refine WP.iload_n dX6_swapRows_12 rfl ?_
        refine WP.callVp (as := [vI ((r : Nat) : Int), vI ((c : Nat) : Int)]) dX6_swapRows_13 mv_X6_35 rfl (shT0 ht) (by decide) rfl rfl (c_T_at (r := r) (c := c) ht (by omega) (by omega) v1) rfl (Nat.le_of_ble_eq_true rfl) (by omega) ?_
        refine WP.istore (lt := [vR t, vI ((r : Nat) : Int), vI ((q : Nat) : Int), vI ((c : Nat) : Int), vI ((ce r c : Nat) : Int)]) dX6_swapRows_16 (by decide) rfl ?_
        refine WP.aload_n dX6_swapRows_18 rfl ?_
        refine WP.iload_n dX6_swapRows_19 rfl ?_
        refine WP.iload_n dX6_swapRows_20 rfl ?_
        refine WP.aload_n dX6_swapRows_21 rfl ?_
        refine WP.iload_n dX6_swapRows_22 rfl ?_
        refine WP.iload_n dX6_swapRows_23 rfl ?_
        refine WP.callVp (as := [vI ((q : Nat) : Int), vI ((c : Nat) : Int)]) dX6_swapRows_24 mv_X6_35 rfl (shT0 ht) (by decide) rfl rfl (c_T_at (r := q) (c := c) ht (by omega) (by omega) v2) rfl (Nat.le_of_ble_eq_true rfl) (by omega) ?_
        refine WP.callV (as := [vI ((r : Nat) : Int), vI ((c : Nat) : Int), vI ((ce q c : Nat) : Int)]) dX6_swapRows_27 mv_X6_31 rfl (shT0 ht) (by decide) rfl rfl (c_T_set (r := r) (c := c) ht (by omega) (by omega)) rfl (Nat.le_of_ble_eq_true rfl) (by omega) (fun r9 M2 h9 => ?_)
        obtain ⟨rfl, rfl⟩ := h9
        have hS := cell_set (M := M1) (t := t) (r0 := r) (c0 := c) (x := ((ce q c : Nat) : Int)) (by omega)
        have hO := mset_o (M := M1) (id := t + 2) (i := r * 7 + c) (x := ((ce q c : Nat) : Int))
        generalize mset M1 (t + 2) (r * 7 + c) ((ce q c : Nat) : Int) = M2 at hS hO ⊢
        refine WP.aload_n dX6_swapRows_30 rfl ?_
        refine WP.iload_n dX6_swapRows_31 rfl ?_
        refine WP.iload_n dX6_swapRows_32 rfl ?_
        refine WP.iload dX6_swapRows_33 rfl ?_
        refine WP.callV (as := [vI ((q : Nat) : Int), vI ((c : Nat) : Int), vI ((ce r c : Nat) : Int)]) dX6_swapRows_35 mv_X6_31 rfl (shT0 ht) (by decide) rfl rfl (c_T_set (r := q) (c := c) ht (by omega) (by omega)) rfl (Nat.le_of_ble_eq_true rfl) (by omega) (fun r9 M3 h9 => ?_)
        obtain ⟨rfl, rfl⟩ := h9
        have hS2 := cell_set (M := M2) (t := t) (r0 := q) (c0 := c) (x := ((ce r c : Nat) : Int)) (by omega)
        have hO2 := mset_o (M := M2) (id := t + 2) (i := q * 7 + c) (x := ((ce r c : Nat) : Int))
        generalize mset M2 (t + 2) (q * 7 + c) ((ce r c : Nat) : Int) = M3 at hS2 hO2 ⊢
        refine WP.iinc (lt := [vR t, vI ((r : Nat) : Int), vI ((q : Nat) : Int), vI (((c : Nat) : Int) + 1), vI ((ce r c : Nat) : Int)]) dX6_swapRows_38 rfl (by decide) rfl ?_
        refine WP.goto (tgt := 2) dX6_swapRows_41 (by decide) ?_
        refine WP.fgt (lt := [vR t, vI ((r : Nat) : Int), vI ((q : Nat) : Int), vI (((c + 1) : Nat) : Int), vU]) ⟨Or.inr rfl, Or.inr rfl, Or.inr rfl, Or.inr (congrArg vI (by omega)), Or.inl rfl, trivial⟩ ?_
        exact ih2 (c + 1) (M3) (by omega) (fun a ha => ((hO2 a ha).trans (hO a ha)).trans (hF a ha)) (fun p b hb => by
          have w1 := hT.2.2.2 r hr c (by omega)
          have w2 := hT.2.2.2 q hq c (by omega)
          rw [hS2 p b hb, hS p b hb, hC p b hb]
          by_cases e2 : b = c
          · subst e2
            by_cases e3 : p = q
            · subst e3
              rw [if_pos ⟨rfl, rfl⟩]
              by_cases e4 : p = r
              · rw [if_pos (by omega), e4, w1]
              · rw [if_neg (by omega), if_pos (by omega), w1]
            · rw [if_neg (by omega)]
              by_cases e4 : p = r
              · rw [if_pos (by omega), if_pos (by omega), w2]
              · rw [if_neg (by omega), if_neg (by omega), if_neg (by omega), if_neg (by omega), if_neg (by omega)]
          · rw [if_neg (by omega), if_neg (by omega)]
            have e5 : b < c + 1 ↔ b < c := by omega
            simp only [e5]) (by omega)
  refine WP.fgt (lt := [vR t, vI ((r : Nat) : Int), vI ((q : Nat) : Int), vI ((0 : Nat) : Int), vU]) ⟨Or.inr rfl, Or.inr rfl, Or.inr rfl, Or.inr (congrArg vI (by omega)), Or.inl rfl, trivial⟩ ?_
  exact L2 _ (0) (M) (Nat.zero_le _) (fun _ _ => rfl) (fun p b _ => by rw [if_neg (by omega), if_neg (by omega)]) (Nat.lt_succ_self _)

set_option maxHeartbeats 4000000 in
set_option maxRecDepth 20000 in
theorem c_T_sortRows {M : Mem} {t n k : Nat} {sz : Nat → Nat} {ce : Nat → Nat → Nat} (ht : isT t) (hT : TX M t n k sz ce) (hW : Wf n k sz ce) : CT 3 m_X6_sortRows [vR t] M (fun z M' => z = some (vI ((srt k ce n).2 : Nat)) ∧ (∀ a, a ≠ t + 2 → M' a = M a) ∧ TX M' t n k sz (srt k ce n).1) := by
  have b1 := hW.1
  have b2 := hW.2.1
  refine CT.ofWP (by decide +kernel) (Nat.le_of_ble_eq_true rfl) ?_
  show WP sc0 3 m_X6_sortRows 0 [vR t, vU, vU, vU] [] M (fun z M' => z = some (vI ((srt k ce n).2 : Nat)) ∧ (∀ a, a ≠ t + 2 → M' a = M a) ∧ TX M' t n k sz (srt k ce n).1)
  refine WP.iconst dX6_sortRows_0 ?_
  refine WP.istore_n (lt := [vR t, vI (0 : Int), vU, vU]) dX6_sortRows_1 (by decide) rfl ?_
  refine WP.iconst dX6_sortRows_2 ?_
  refine WP.istore_n (lt := [vR t, vI (0 : Int), vI (1 : Int), vU]) dX6_sortRows_3 (by decide) rfl ?_
  have L4 : ∀ (n9 : Nat) (r : Nat) (M1 : Mem) (hr : (1 ≤ r ∧ r ≤ n) ∨ (r = 1 ∧ n = 0)) (hF : ∀ a, a ≠ t + 2 → M1 a = M a) (hT1 : TX M1 t n k sz (srt k ce r).1), n + 1 - r < n9 → WP sc0 3 m_X6_sortRows 4 [vR t, vI (((srt k ce r).2 : Nat) : Int), vI ((r : Nat) : Int), vU] [] M1 (fun z M' => z = some (vI ((srt k ce n).2 : Nat)) ∧ (∀ a, a ≠ t + 2 → M' a = M a) ∧ TX M' t n k sz (srt k ce n).1) := by
    intro n9
    induction n9 with
    | zero =>
      intro r M1 hr hF hT1 hm9
      exact absurd hm9 (Nat.not_lt_zero _)
    | succ n9 ih4 =>
      intro r M1 hr hF hT1 hm9
      refine WP.iload_n dX6_sortRows_4 rfl ?_
      refine WP.aload_n dX6_sortRows_5 rfl ?_
      refine WP.getI (x := ((n : Nat) : Int)) dX6_sortRows_6 fl_X6_9 (shT0 ht) (by decide) (hT1.1) ?_
      refine WP.icmp_ge (tgt := 52) dX6_sortRows_9 (by decide) (by omega) (by omega) (fun h9 => ?_) (fun h9 => ?_)
      · skip
        refine WP.iload_n dX6_sortRows_52 rfl ?_
        refine WP.iret dX6_sortRows_53 rfl ?_
        rcases hr with hr | hr
        · have e1 : n = r := by omega
          subst e1
          exact ⟨rfl, hF, hT1⟩
        · obtain ⟨rfl, rfl⟩ := hr
          exact ⟨rfl, hF, hT1⟩
      · skip
        have hrn : r < n := by omega
        refine WP.iload_n dX6_sortRows_12 rfl ?_
        refine WP.istore_n (lt := [vR t, vI (((srt k ce r).2 : Nat) : Int), vI ((r : Nat) : Int), vI ((r : Nat) : Int)]) dX6_sortRows_13 (by decide) rfl ?_
        have L14 : ∀ (n9 : Nat) (q : Nat) (s : (Nat → Nat → Nat) × Nat) (M2 : Mem) (hq : q ≤ r) (hF2 : ∀ a, a ≠ t + 2 → M2 a = M a) (hT2 : TX M2 t n k sz s.1) (hW2 : Wf n k sz s.1) (hs : inz k q s = inz k r (srt k ce r)), q < n9 → WP sc0 3 m_X6_sortRows 14 [vR t, vI ((s.2 : Nat) : Int), vI ((r : Nat) : Int), vI ((q : Nat) : Int)] [] M2 (fun z M' => z = some (vI ((srt k ce n).2 : Nat)) ∧ (∀ a, a ≠ t + 2 → M' a = M a) ∧ TX M' t n k sz (srt k ce n).1) := by
          intro n9
          induction n9 with
          | zero =>
            intro q s M2 hq hF2 hT2 hW2 hs hm9
            exact absurd hm9 (Nat.not_lt_zero _)
          | succ n9 ih14 =>
            intro q s M2 hq hF2 hT2 hW2 hs hm9
            refine WP.iload_n dX6_sortRows_14 rfl ?_
            refine WP.if_le (tgt := 46) dX6_sortRows_15 (by decide) (by omega) (fun h15 => ?_) (fun h15 => ?_)
            · skip
              have e3 : q = 0 := by omega
              have hTe : TX M2 t n k sz (inz k q s).1 := by rw [e3]; exact hT2
              have hse : (inz k q s).2 = s.2 := by rw [e3]; rfl
              refine WP.iinc (lt := [vR t, vI ((s.2 : Nat) : Int), vI (((r : Nat) : Int) + 1), vI ((q : Nat) : Int)]) dX6_sortRows_46 rfl (by decide) rfl ?_
              refine WP.goto (tgt := 4) dX6_sortRows_49 (by decide) ?_
              refine WP.fgt (lt := [vR t, vI (((srt k ce (r + 1)).2 : Nat) : Int), vI (((r + 1) : Nat) : Int), vU]) ⟨Or.inr rfl, Or.inr (congrArg vI (by rw [srt, ← hs, hse])), Or.inr (congrArg vI (by omega)), Or.inl rfl, trivial⟩ ?_
              exact ih4 (r + 1) (M2) (by omega) (hF2) (by rw [srt, ← hs]; exact hTe) (by omega)
            · skip
              obtain ⟨q, rfl⟩ : ∃ z, q = z + 1 := ⟨q - 1, by omega⟩
              refine WP.aload_n dX6_sortRows_18 rfl ?_
              refine WP.iload_n dX6_sortRows_19 rfl ?_
              refine WP.iconst dX6_sortRows_20 ?_
              refine WP.isub dX6_sortRows_21 ?_
              refine WP.iload_n dX6_sortRows_22 rfl ?_
              refine WP.eqs (st' := [vI ((q + 1 : Nat) : Int), vI ((q : Nat) : Int), vR t]) rfl (lc (rfl) (lc (congrArg vI (by omega)) (rfl))) ?_
              refine WP.callVp (as := [vI ((q : Nat) : Int), vI ((q + 1 : Nat) : Int)]) dX6_sortRows_23 mv_X6_47 rfl (shT0 ht) (by decide) rfl rfl (c_T_order (r := q) (q := q + 1) ht hT2 hW2 (by omega) (by omega)) rfl (Nat.le_of_ble_eq_true rfl) (by omega) ?_
              refine WP.if_le (tgt := 46) dX6_sortRows_26 (by decide) (by have := ordv_rng hW2 (r := q) (q := q + 1) (by omega) (by omega) k (Nat.le_refl _); unfold ord; omega) (fun h26 => ?_) (fun h26 => ?_)
              · skip
                have e3 : inz k (q + 1) s = s := by rw [inz, if_neg (by omega)]
                have hTe : TX M2 t n k sz (inz k (q + 1) s).1 := by rw [e3]; exact hT2
                have hse : (inz k (q + 1) s).2 = s.2 := by rw [e3]
                refine WP.iinc (lt := [vR t, vI ((s.2 : Nat) : Int), vI (((r : Nat) : Int) + 1), vI ((q + 1 : Nat) : Int)]) dX6_sortRows_46 rfl (by decide) rfl ?_
                refine WP.goto (tgt := 4) dX6_sortRows_49 (by decide) ?_
                refine WP.fgt (lt := [vR t, vI (((srt k ce (r + 1)).2 : Nat) : Int), vI (((r + 1) : Nat) : Int), vU]) ⟨Or.inr rfl, Or.inr (congrArg vI (by rw [srt, ← hs, hse])), Or.inr (congrArg vI (by omega)), Or.inl rfl, trivial⟩ ?_
                exact ih4 (r + 1) (M2) (by omega) (hF2) (by rw [srt, ← hs]; exact hTe) (by omega)
              · skip
                refine WP.aload_n dX6_sortRows_29 rfl ?_
                refine WP.iload_n dX6_sortRows_30 rfl ?_
                refine WP.iconst dX6_sortRows_31 ?_
                refine WP.isub dX6_sortRows_32 ?_
                refine WP.iload_n dX6_sortRows_33 rfl ?_
                refine WP.eqs (st' := [vI ((q + 1 : Nat) : Int), vI ((q : Nat) : Int), vR t]) rfl (lc (rfl) (lc (congrArg vI (by omega)) (rfl))) ?_
                refine WP.callV (as := [vI ((q : Nat) : Int), vI ((q + 1 : Nat) : Int)]) dX6_sortRows_34 mv_X6_50 rfl (shT0 ht) (by decide) rfl rfl (c_T_swapRows (r := q) (q := q + 1) ht hT2 hW2 (by omega) (by omega)) rfl (Nat.le_of_ble_eq_true rfl) (by omega) (fun r9 M3 h9 => ?_)
                obtain ⟨rfl, g1, g2⟩ := h9
                show WP sc0 3 m_X6_sortRows 37 [vR t, vI ((s.2 : Nat) : Int), vI ((r : Nat) : Int), vI ((q + 1 : Nat) : Int)] [] M3 (fun z M' => z = some (vI ((srt k ce n).2 : Nat)) ∧ (∀ a, a ≠ t + 2 → M' a = M a) ∧ TX M' t n k sz (srt k ce n).1)
                refine WP.iinc (lt := [vR t, vI (((s.2 : Nat) : Int) + 1), vI ((r : Nat) : Int), vI ((q + 1 : Nat) : Int)]) dX6_sortRows_37 rfl (by decide) rfl ?_
                refine WP.iinc (lt := [vR t, vI (((s.2 : Nat) : Int) + 1), vI ((r : Nat) : Int), vI (((q + 1 : Nat) : Int) + (-1))]) dX6_sortRows_40 rfl (by decide) rfl ?_
                refine WP.goto (tgt := 14) dX6_sortRows_43 (by decide) ?_
                refine WP.fgt (lt := [vR t, vI ((((swp s.1 q (q + 1), s.2 + 1)).2 : Nat) : Int), vI ((r : Nat) : Int), vI ((q : Nat) : Int)]) ⟨Or.inr rfl, Or.inr (congrArg vI (by omega)), Or.inr rfl, Or.inr (congrArg vI (by omega)), trivial⟩ ?_
                exact ih14 (q) ((swp s.1 q (q + 1), s.2 + 1)) (M3) (by omega) (fun a ha => (g1 a ha).trans (hF2 a ha)) (g2) (Wf_swp hW2 (by omega) (by omega)) (by rw [← hs, inz, if_pos (by omega)]) (by omega)
        exact L14 _ (r) (srt k ce r) (M1) (Nat.le_refl _) (hF) (hT1) (Wf_srt hW r (by omega)) (rfl) (Nat.lt_succ_self _)
  refine WP.fgt (lt := [vR t, vI (((srt k ce 1).2 : Nat) : Int), vI ((1 : Nat) : Int), vU]) ⟨Or.inr rfl, Or.inr (congrArg vI (rfl)), Or.inr (congrArg vI (by omega)), Or.inl rfl, trivial⟩ ?_
  exact L4 _ (1) (M) (by omega) (fun _ _ => rfl) (hT) (Nat.lt_succ_self _)
set_option maxHeartbeats 4000000 in
set_option maxRecDepth 20000 in
theorem c_T_reset {M : Mem} {t n : Nat} (ht : isT t) : CT 1 m_X6_reset [vR t, vI ((n : Nat) : Int)] M (fun z M' => z = none ∧ (∀ a, a ≠ t → M' a = M a) ∧ M' t 0 = (n : Int) ∧ M' t 1 = ((0 : Nat) : Int)) := by
  refine CT.ofWP (by decide +kernel) (Nat.le_of_ble_eq_true rfl) ?_
  show WP sc0 1 m_X6_reset 0 [vR t, vI ((n : Nat) : Int)] [] M (fun z M' => z = none ∧ (∀ a, a ≠ t → M' a = M a) ∧ M' t 0 = (n : Int) ∧ M' t 1 = ((0 : Nat) : Int))
  refine WP.aload_n dX6_reset_0 rfl ?_
  refine WP.iload_n dX6_reset_1 rfl ?_
  refine WP.putI dX6_reset_2 fl_X6_9 (shT0 ht) (by decide) rfl ?_
  refine WP.aload_n dX6_reset_5 rfl ?_
  refine WP.iconst dX6_reset_6 ?_
  refine WP.putI dX6_reset_7 fl_X6_15 (shT0 ht) (by decide) rfl ?_
  refine WP.vret dX6_reset_10 rfl ?_
  refine ⟨rfl, fun a ha => by rw [mset_o a ha, mset_o a ha], ?_, mset_s⟩
  rw [mset_n (Or.inr (by decide)), mset_s]
set_option maxHeartbeats 4000000 in
set_option maxRecDepth 20000 in
theorem c_T_removeCopies {M : Mem} {t n k : Nat} {sz : Nat → Nat} {ce : Nat → Nat → Nat} (ht : isT t) (hT : TX M t n k sz ce) (hW : Wf n k sz ce) : CT 4 m_X6_removeCopies [vR t] M (fun z M' => z = none ∧ (∀ a, a ≠ t → a ≠ t + 2 → M' a = M a) ∧ TX M' t (nk ce k n) k sz (fun p c => ce (kr ce k n p) c)) := by
  have b1 := hW.1
  have b2 := hW.2.1
  refine CT.ofWP (by decide +kernel) (Nat.le_of_ble_eq_true rfl) ?_
  show WP sc0 4 m_X6_removeCopies 0 [vR t, vU, vU] [] M (fun z M' => z = none ∧ (∀ a, a ≠ t → a ≠ t + 2 → M' a = M a) ∧ TX M' t (nk ce k n) k sz (fun p c => ce (kr ce k n p) c))
  refine WP.iconst dX6_removeCopies_0 ?_
  refine WP.istore_n (lt := [vR t, vI (0 : Int), vU]) dX6_removeCopies_1 (by decide) rfl ?_
  refine WP.iconst dX6_removeCopies_2 ?_
  refine WP.istore_n (lt := [vR t, vI (0 : Int), vI (0 : Int)]) dX6_removeCopies_3 (by decide) rfl ?_
  have L4 : ∀ (n9 : Nat) (r : Nat) (M1 : Mem) (hr : r ≤ n) (hF : ∀ a, a ≠ t + 2 → M1 a = M a) (hT1 : TX M1 t n k sz (dc ce k r)), n - r < n9 → WP sc0 4 m_X6_removeCopies 4 [vR t, vI ((nk ce k r : Nat) : Int), vI ((r : Nat) : Int)] [] M1 (fun z M' => z = none ∧ (∀ a, a ≠ t → a ≠ t + 2 → M' a = M a) ∧ TX M' t (nk ce k n) k sz (fun p c => ce (kr ce k n p) c)) := by
    intro n9
    induction n9 with
    | zero =>
      intro r M1 hr hF hT1 hm9
      exact absurd hm9 (Nat.not_lt_zero _)
    | succ n9 ih4 =>
      intro r M1 hr hF hT1 hm9
      have hnk := nk_le ce k r
      refine WP.iload_n dX6_removeCopies_4 rfl ?_
      refine WP.aload_n dX6_removeCopies_5 rfl ?_
      refine WP.getI (x := ((n : Nat) : Int)) dX6_removeCopies_6 fl_X6_9 (shT0 ht) (by decide) (by rw [hF t (by omega)]; exact hT.1) ?_
      refine WP.icmp_ge (tgt := 36) dX6_removeCopies_9 (by decide) (by omega) (by omega) (fun h9 => ?_) (fun h9 => ?_)
      · skip
        have e1 : n = r := by omega
        subst e1
        refine WP.aload_n dX6_removeCopies_36 rfl ?_
        refine WP.iload_n dX6_removeCopies_37 rfl ?_
        refine WP.putI dX6_removeCopies_38 fl_X6_9 (shT0 ht) (by decide) rfl ?_
        refine WP.vret dX6_removeCopies_41 rfl ?_
        refine ⟨rfl, fun a h1 h2 => by rw [mset_o a h1]; exact hF a h2, mset_s, by rw [mset_n (Or.inr (by decide))]; exact hT1.2.1, fun c hc => by rw [mset_o (t + 1) (by omega)]; exact hT1.2.2.1 c hc, fun p hp c hc => ?_⟩
        rw [mset_o (t + 2) (by omega), hT1.2.2.2 p (by omega) c hc, dc_lt hp]
      · skip
        have hW1 : Wf n k sz (dc ce k r) := ⟨b1, b2, hW.2.2.1, fun p hp c hc => by
          by_cases e : p < nk ce k r
          · rw [dc_lt e]
            exact hW.2.2.2 _ (by have := kr_lt ce k r p e; omega) c hc
          · rw [dc_ge (by omega)]
            exact hW.2.2.2 p hp c hc⟩
        have hco : (∃ q, q < nk ce k r ∧ ord (dc ce k r) q r k = 0) ↔ isC ce k r := by
          rw [isC_kr]
          constructor
          · rintro ⟨q, hq, h0⟩
            exact ⟨q, hq, (ord_cg (fun c _ => dc_lt hq c) (fun c _ => dc_ge hnk c)).symm.trans h0⟩
          · rintro ⟨q, hq, h0⟩
            exact ⟨q, hq, (ord_cg (fun c _ => dc_lt hq c) (fun c _ => dc_ge hnk c)).trans h0⟩
        refine WP.aload_n dX6_removeCopies_12 rfl ?_
        refine WP.iload_n dX6_removeCopies_13 rfl ?_
        refine WP.iload_n dX6_removeCopies_14 rfl ?_
        refine WP.callVp (as := [vI ((r : Nat) : Int), vI ((nk ce k r : Nat) : Int)]) dX6_removeCopies_15 mv_X6_43 rfl (shT0 ht) (by decide) rfl rfl (c_T_occursBefore (r := r) (e := nk ce k r) ht hT1 hW1 (by omega) (by omega)) rfl (Nat.le_of_ble_eq_true rfl) (by omega) ?_
        refine WP.if_ne (tgt := 30) dX6_removeCopies_18 (by decide) (bi_rng) (fun h18 => ?_) (fun h18 => ?_)
        · skip
          have hcp := hco.mp (bi_1 h18)
          refine WP.iinc (lt := [vR t, vI ((nk ce k r : Nat) : Int), vI (((r : Nat) : Int) + 1)]) dX6_removeCopies_30 rfl (by decide) rfl ?_
          refine WP.goto (tgt := 4) dX6_removeCopies_33 (by decide) ?_
          refine WP.fgt (lt := [vR t, vI ((nk ce k (r + 1) : Nat) : Int), vI (((r + 1) : Nat) : Int)]) ⟨Or.inr rfl, Or.inr (congrArg vI (by rw [nk_c hcp])), Or.inr (congrArg vI (by omega)), trivial⟩ ?_
          exact ih4 (r + 1) (M1) (by omega) (hF) (by unfold dc; rw [kr_c hcp, nk_c hcp]; exact hT1) (by clear hcp hco h18; omega)
        · skip
          have hcp : ¬ isC ce k r := fun z => bi_0 h18 (hco.mpr z)
          refine WP.aload_n dX6_removeCopies_21 rfl ?_
          refine WP.iload_n dX6_removeCopies_22 rfl ?_
          refine WP.iload_n dX6_removeCopies_23 rfl ?_
          refine WP.callV (as := [vI ((r : Nat) : Int), vI ((nk ce k r : Nat) : Int)]) dX6_removeCopies_24 mv_X6_39 rfl (shT0 ht) (by decide) rfl rfl (c_T_copyRow (r := r) (e := nk ce k r) ht hT1.2.1 b2 (by omega) (by omega)) rfl (Nat.le_of_ble_eq_true rfl) (by omega) (fun r9 M2 h9 => ?_)
          obtain ⟨rfl, g1, g2⟩ := h9
          show WP sc0 4 m_X6_removeCopies 27 [vR t, vI ((nk ce k r : Nat) : Int), vI ((r : Nat) : Int)] [] M2 (fun z M' => z = none ∧ (∀ a, a ≠ t → a ≠ t + 2 → M' a = M a) ∧ TX M' t (nk ce k n) k sz (fun p c => ce (kr ce k n p) c))
          have hT3 : TX M2 t n k sz (dc ce k (r + 1)) := by
            refine ⟨by rw [g1 t (by omega)]; exact hT1.1, by rw [g1 t (by omega)]; exact hT1.2.1, fun c hc => by rw [g1 (t + 1) (by omega)]; exact hT1.2.2.1 c hc, fun p hp c hc => ?_⟩
            have w1 := hT1.2.2.2 p hp c hc
            have w2 := hT1.2.2.2 r (by omega) c hc
            have w3 := nk_n hcp
            rw [dc_ge hnk] at w2
            rw [g2 p c (by omega)]
            by_cases e1 : p = nk ce k r
            · rw [if_pos ⟨e1, hc⟩, w2, dc_lt (by omega), kr_n hcp, if_pos e1]
            · rw [if_neg (by omega), w1]
              by_cases e2 : p < nk ce k r
              · rw [dc_lt e2, dc_lt (by omega), kr_n hcp, if_neg e1]
              · rw [dc_ge (by omega), dc_ge (by omega)]
          refine WP.iinc (lt := [vR t, vI (((nk ce k r : Nat) : Int) + 1), vI ((r : Nat) : Int)]) dX6_removeCopies_27 rfl (by decide) rfl ?_
          refine WP.iinc (lt := [vR t, vI (((nk ce k r : Nat) : Int) + 1), vI (((r : Nat) : Int) + 1)]) dX6_removeCopies_30 rfl (by decide) rfl ?_
          refine WP.goto (tgt := 4) dX6_removeCopies_33 (by decide) ?_
          refine WP.fgt (lt := [vR t, vI ((nk ce k (r + 1) : Nat) : Int), vI (((r + 1) : Nat) : Int)]) ⟨Or.inr rfl, Or.inr (congrArg vI (by rw [nk_n hcp]; omega)), Or.inr (congrArg vI (by omega)), trivial⟩ ?_
          exact ih4 (r + 1) (M2) (by omega) (fun a ha => (g1 a ha).trans (hF a ha)) (hT3) (by clear hcp hco h18; omega)
  refine WP.fgt (lt := [vR t, vI ((nk ce k 0 : Nat) : Int), vI ((0 : Nat) : Int)]) ⟨Or.inr rfl, Or.inr (congrArg vI (rfl)), Or.inr (congrArg vI (by omega)), trivial⟩ ?_
  exact L4 _ (0) (M) (Nat.zero_le _) (fun _ _ => rfl) (⟨hT.1, hT.2.1, hT.2.2.1, fun p hp c hc => by rw [dc_ge (Nat.zero_le _)]; exact hT.2.2.2 p hp c hc⟩) (Nat.lt_succ_self _)
