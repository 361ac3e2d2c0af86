set_option maxHeartbeats 4000000 in
set_option maxRecDepth 20000 in
theorem c_E_isEven {M : Mem} {t n k : Nat} {sz : Nat → Nat} {ce : Nat → Nat → Nat} (ht : isT t) (hT : TX M t n k sz ce) (hW : Wf n k sz ce) (hm1 : M 52 1 = (t : Int)) {c : Nat} (hc : c < k) : CT 2 m_X1_isEven [vR 52, vI ((c : Nat) : Int)] M (Rt (some (vI (bi (evc n sz ce c)))) M) := by
  have b1 := hW.1
  have b2 := hW.2.1
  have b3 := hW.2.2.1 c hc
  refine CT.ofWP (by decide +kernel) (Nat.le_of_ble_eq_true rfl) ?_
  show WP sc0 2 m_X1_isEven 0 [vR 52, vI ((c : Nat) : Int), vU, vU, vU] [] M (Rt (some (vI (bi (evc n sz ce c)))) M)
  refine WP.iconst dX1_isEven_0 ?_
  refine WP.istore_n (lt := [vR 52, vI ((c : Nat) : Int), vI (0 : Int), vU, vU]) dX1_isEven_1 (by decide) rfl ?_
  have L2 : ∀ (n9 : Nat) (v : Nat) (hv : v ≤ sz c) (hn : ∀ w, w < v → cn (fun q => ce q c = w) n * sz c = n), sz c - v < n9 → WP sc0 2 m_X1_isEven 2 [vR 52, vI ((c : Nat) : Int), vI ((v : Nat) : Int), vU, vU] [] M (Rt (some (vI (bi (evc n sz ce c)))) M) := by
    intro n9
    induction n9 with
    | zero =>
      intro v hv hn hm9
      exact absurd hm9 (Nat.not_lt_zero _)
    | succ n9 ih2 =>
      intro v hv hn hm9
      have b1 := hW.1
      have b2 := hW.2.1
      have b3 := hW.2.2.1 c hc
      refine WP.iload_n dX1_isEven_2 rfl ?_
      refine WP.aload_n dX1_isEven_3 rfl ?_
      refine WP.getM (y := t) dX1_isEven_4 fl_X1_18 (rfl) (by decide) (hm1) rfl ?_
      refine WP.getR (y := (t + 1)) dX1_isEven_7 fl_X1_55 (shT0 ht) (by decide) (srT1 ht) ?_
      refine WP.iload_n dX1_isEven_10 rfl ?_
      refine WP.iaload (y := c) (x := ((sz c : Nat) : Int)) dX1_isEven_11 (shT1 ht) (by omega) (by omega) (hT.2.2.1 c (by omega)) ?_
      refine WP.icmp_ge (tgt := 84) dX1_isEven_12 (by decide) (by omega) (by have := hW.2.2.1 c (by omega); omega) (fun h12 => ?_) (fun h12 => ?_)
      · skip
        have hvz : v = sz c := by omega
        refine WP.iconst dX1_isEven_84 ?_
        refine WP.zret dX1_isEven_85 rfl (by decide) ?_
        exact ⟨congrArg some (congrArg vI (bi_t (show evc n sz ce c from fun w hw => hn w (by omega))).symm), rfl⟩
      · skip
        refine WP.iconst dX1_isEven_15 ?_
        refine WP.istore_n (lt := [vR 52, vI ((c : Nat) : Int), vI ((v : Nat) : Int), vI (0 : Int), vU]) dX1_isEven_16 (by decide) rfl ?_
        refine WP.iconst dX1_isEven_17 ?_
        refine WP.istore (lt := [vR 52, vI ((c : Nat) : Int), vI ((v : Nat) : Int), vI (0 : Int), vI (0 : Int)]) dX1_isEven_18 (by decide) rfl ?_
        have L20 : ∀ (n9 : Nat) (r : Nat) (hr : r ≤ n), n - r < n9 → WP sc0 2 m_X1_isEven 20 [vR 52, vI ((c : Nat) : Int), vI ((v : Nat) : Int), vI ((cn (fun q => ce q c = v) r : Nat) : Int), vI ((r : Nat) : Int)] [] M (Rt (some (vI (bi (evc n sz ce c)))) M) := by
          intro n9
          induction n9 with
          | zero =>
            intro r hr hm9
            exact absurd hm9 (Nat.not_lt_zero _)
          | succ n9 ih20 =>
            intro r hr hm9
            have b4 := cn_le (fun q => ce q c = v) r
            refine WP.iload dX1_isEven_20 rfl ?_
            refine WP.aload_n dX1_isEven_22 rfl ?_
            refine WP.getM (y := t) dX1_isEven_23 fl_X1_18 (rfl) (by decide) (hm1) rfl ?_
            refine WP.getI (x := ((n : Nat) : Int)) dX1_isEven_26 fl_X1_41 (shT0 ht) (by decide) (hT.1) ?_
            refine WP.icmp_ge (tgt := 55) dX1_isEven_29 (by decide) (by omega) (by omega) (fun h29 => ?_) (fun h29 => ?_)
            · skip
              have hrn : r = n := by omega
              have hmul : cn (fun q => ce q c = v) r * sz c ≤ 36 * 6 := Nat.mul_le_mul (by omega) b3.2
              refine WP.iload_n dX1_isEven_55 rfl ?_
              refine WP.aload_n dX1_isEven_56 rfl ?_
              refine WP.getM (y := t) dX1_isEven_57 fl_X1_18 (rfl) (by decide) (hm1) rfl ?_
              refine WP.getR (y := (t + 1)) dX1_isEven_60 fl_X1_55 (shT0 ht) (by decide) (srT1 ht) ?_
              refine WP.iload_n dX1_isEven_63 rfl ?_
              refine WP.iaload (y := c) (x := ((sz c : Nat) : Int)) dX1_isEven_64 (shT1 ht) (by omega) (by omega) (hT.2.2.1 c (by omega)) ?_
              refine WP.imul dX1_isEven_65 ?_
              refine WP.eqs (st' := [vI ((cn (fun q => ce q c = v) n * sz c : Nat) : Int)]) rfl (lc (congrArg vI (by rw [hrn]; exact Int.natCast_mul _ _)) rfl) ?_
              refine WP.aload_n dX1_isEven_66 rfl ?_
              refine WP.getM (y := t) dX1_isEven_67 fl_X1_18 (rfl) (by decide) (hm1) rfl ?_
              refine WP.getI (x := ((n : Nat) : Int)) dX1_isEven_70 fl_X1_41 (shT0 ht) (by decide) (hT.1) ?_
              refine WP.icmp_eq (tgt := 78) dX1_isEven_73 (by decide) (by rw [← hrn]; omega) (by omega) (fun h73 => ?_) (fun h73 => ?_)
              · skip
                refine WP.iinc (lt := [vR 52, vI ((c : Nat) : Int), vI (((v : Nat) : Int) + 1), vI ((cn (fun q => ce q c = v) r : Nat) : Int), vI ((r : Nat) : Int)]) dX1_isEven_78 rfl (by decide) rfl ?_
                refine WP.goto (tgt := 2) dX1_isEven_81 (by decide) ?_
                refine WP.fgt (lt := [vR 52, vI ((c : Nat) : Int), vI (((v + 1) : Nat) : Int), vU, vU]) ⟨Or.inr rfl, Or.inr rfl, Or.inr (congrArg vI (by omega)), Or.inl rfl, Or.inl rfl, trivial⟩ ?_
                exact ih2 (v + 1) (by omega) (fun w hw => by
                  by_cases e : w = v
                  · rw [e]; exact Int.ofNat_inj.mp h73
                  · exact hn w (by omega)) (by omega)
              · skip
                refine WP.iconst dX1_isEven_76 ?_
                refine WP.zret dX1_isEven_77 rfl (by decide) ?_
                exact ⟨congrArg some (congrArg vI (bi_f (fun z => h73 (congrArg Int.ofNat (z v (by omega))))).symm), rfl⟩
            · skip
              refine WP.aload_n dX1_isEven_32 rfl ?_
              refine WP.getM (y := t) dX1_isEven_33 fl_X1_18 (rfl) (by decide) (hm1) rfl ?_
              refine WP.iload dX1_isEven_36 rfl ?_
              refine WP.iload_n dX1_isEven_38 rfl ?_
              refine WP.eqs (st' := [vI ((c : Nat) : Int), vI ((r : Nat) : Int), vR t]) rfl (lc (rfl) (lc (rfl) (rfl))) ?_
              refine WP.callVp (as := [vI ((r : Nat) : Int), vI ((c : Nat) : Int)]) dX1_isEven_39 mv_X1_62 rfl (shT0 ht) (by decide) rfl rfl (c_T_at (r := r) (c := c) ht (by omega) (by omega) (hT.2.2.2 r (by omega) c (by omega))) rfl (Nat.le_of_ble_eq_true rfl) (by omega) ?_
              refine WP.iload_n dX1_isEven_42 rfl ?_
              refine WP.icmp_ne (tgt := 49) dX1_isEven_43 (by decide) (by have := hW.2.2.2 r (by omega) c hc; omega) (by omega) (fun h43 => ?_) (fun h43 => ?_)
              · skip
                refine WP.iinc (lt := [vR 52, vI ((c : Nat) : Int), vI ((v : Nat) : Int), vI ((cn (fun q => ce q c = v) r : Nat) : Int), vI (((r : Nat) : Int) + 1)]) dX1_isEven_49 rfl (by decide) rfl ?_
                refine WP.goto (tgt := 20) dX1_isEven_52 (by decide) ?_
                refine WP.fgt (lt := [vR 52, vI ((c : Nat) : Int), vI ((v : Nat) : Int), vI ((cn (fun q => ce q c = v) (r + 1) : Nat) : Int), vI (((r + 1) : Nat) : Int)]) ⟨Or.inr rfl, Or.inr rfl, Or.inr rfl, Or.inr (congrArg vI (by rw [cn_f (p := fun q => ce q c = v) (by omega)])), Or.inr (congrArg vI (by omega)), trivial⟩ ?_
                exact ih20 (r + 1) (by omega) (by omega)
              · skip
                refine WP.iinc (lt := [vR 52, vI ((c : Nat) : Int), vI ((v : Nat) : Int), vI (((cn (fun q => ce q c = v) r : Nat) : Int) + 1), vI ((r : Nat) : Int)]) dX1_isEven_46 rfl (by decide) rfl ?_
                refine WP.iinc (lt := [vR 52, vI ((c : Nat) : Int), vI ((v : Nat) : Int), vI (((cn (fun q => ce q c = v) r : Nat) : Int) + 1), vI (((r : Nat) : Int) + 1)]) dX1_isEven_49 rfl (by decide) rfl ?_
                refine WP.goto (tgt := 20) dX1_isEven_52 (by decide) ?_
                refine WP.fgt (lt := [vR 52, vI ((c : Nat) : Int), vI ((v : Nat) : Int), vI ((cn (fun q => ce q c = v) (r + 1) : Nat) : Int), vI (((r + 1) : Nat) : Int)]) ⟨Or.inr rfl, Or.inr rfl, Or.inr rfl, Or.inr (congrArg vI (by rw [cn_t (p := fun q => ce q c = v) (by omega)]; omega)), Or.inr (congrArg vI (by omega)), trivial⟩ ?_
                exact ih20 (r + 1) (by omega) (by omega)
        refine WP.fgt (lt := [vR 52, vI ((c : Nat) : Int), vI ((v : Nat) : Int), vI ((cn (fun q => ce q c = v) 0 : Nat) : Int), vI ((0 : Nat) : Int)]) ⟨Or.inr rfl, Or.inr rfl, Or.inr rfl, Or.inr (congrArg vI (rfl)), Or.inr (congrArg vI (by omega)), trivial⟩ ?_
        exact L20 _ (0) (Nat.zero_le _) (Nat.lt_succ_self _)
  refine WP.fgt (lt := [vR 52, vI ((c : Nat) : Int), vI ((0 : Nat) : Int), vU, vU]) ⟨Or.inr rfl, Or.inr rfl, Or.inr (congrArg vI (by omega)), Or.inl rfl, Or.inl rfl, trivial⟩ ?_
  exact L2 _ (0) (Nat.zero_le _) (fun w h => absurd h (Nat.not_lt_zero w)) (Nat.lt_succ_self _)
set_option maxHeartbeats 4000000 in
set_option maxRecDepth 20000 in
theorem c_E_lastEqual {M : Mem} {t n k : Nat} {sz : Nat → Nat} {ce : Nat → Nat → Nat} (ht : isT t) (hT : TX M t n k sz ce) (hW : Wf n k sz ce) (hm1 : M 52 1 = (t : Int)) {r : Nat} (hr : r < n) : CT 3 m_X1_lastEqualBefore [vR 52, vI ((r : Nat) : Int)] M (Rt (some (vI ((eb ce k r : Int) - 1))) M) := by
  have b1 := hW.1
  have b2 := hW.2.1
  refine CT.ofWP (by decide +kernel) (Nat.le_of_ble_eq_true rfl) ?_
  show WP sc0 3 m_X1_lastEqualBefore 0 [vR 52, vI ((r : Nat) : Int), vU] [] M (Rt (some (vI ((eb ce k r : Int) - 1))) M)
  refine WP.iload_n dX1_lastEqualBefore_0 rfl ?_
  refine WP.iconst dX1_lastEqualBefore_1 ?_
  refine WP.isub dX1_lastEqualBefore_2 ?_
  refine WP.istore_n (lt := [vR 52, vI ((r : Nat) : Int), vI (((r : Nat) : Int) - (1 : Int))]) dX1_lastEqualBefore_3 (by decide) rfl ?_
  have L4 : ∀ (n9 : Nat) (q : Nat) (hq : q ≤ r) (he : ebF ce k r q = eb ce k r), q < n9 → WP sc0 3 m_X1_lastEqualBefore 4 [vR 52, vI ((r : Nat) : Int), vI (((q : Nat) : Int) - 1)] [] M (Rt (some (vI ((eb ce k r : Int) - 1))) M) := by
    intro n9
    induction n9 with
    | zero =>
      intro q hq he hm9
      exact absurd hm9 (Nat.not_lt_zero _)
    | succ n9 ih4 =>
      intro q hq he hm9
      refine WP.iload_n dX1_lastEqualBefore_4 rfl ?_
      refine WP.if_lt (tgt := 28) dX1_lastEqualBefore_5 (by decide) (by omega) (fun h5 => ?_) (fun h5 => ?_)
      · skip
        refine WP.iconst dX1_lastEqualBefore_28 ?_
        refine WP.iret dX1_lastEqualBefore_29 rfl ?_
        refine ⟨congrArg some (congrArg vI ?_), rfl⟩
        have e1 : eb ce k r = 0 := by rw [← he, show q = 0 by omega]; rfl
        rw [e1]
        rfl
      · skip
        obtain ⟨q, rfl⟩ : ∃ z, q = z + 1 := ⟨q - 1, by omega⟩
        refine WP.aload_n dX1_lastEqualBefore_8 rfl ?_
        refine WP.getM (y := t) dX1_lastEqualBefore_9 fl_X1_18 (rfl) (by decide) (hm1) rfl ?_
        refine WP.iload_n dX1_lastEqualBefore_12 rfl ?_
        refine WP.iload_n dX1_lastEqualBefore_13 rfl ?_
        refine WP.eqs (st' := [vI ((r : Nat) : Int), vI ((q : Nat) : Int), vR t]) rfl (lc (rfl) (lc (congrArg vI (by omega)) (rfl))) ?_
        refine WP.callVp (as := [vI ((q : Nat) : Int), vI ((r : Nat) : Int)]) dX1_lastEqualBefore_14 mv_X1_66 rfl (shT0 ht) (by decide) rfl rfl (c_T_order (r := q) (q := r) ht hT hW (by omega) (by omega)) rfl (Nat.le_of_ble_eq_true rfl) (by omega) ?_
        refine WP.if_ne (tgt := 22) dX1_lastEqualBefore_17 (by decide) (by have := ordv_rng hW (r := q) (q := r) (by omega) hr k (Nat.le_refl _); unfold ord; omega) (fun h17 => ?_) (fun h17 => ?_)
        · skip
          refine WP.iinc (lt := [vR 52, vI ((r : Nat) : Int), vI (((q + 1 : Nat) : Int) - 1 + (-1))]) dX1_lastEqualBefore_22 rfl (by decide) rfl ?_
          refine WP.goto (tgt := 4) dX1_lastEqualBefore_25 (by decide) ?_
          refine WP.fgt (lt := [vR 52, vI ((r : Nat) : Int), vI (((q : Nat) : Int) - 1)]) ⟨Or.inr rfl, Or.inr rfl, Or.inr (congrArg vI (by omega)), trivial⟩ ?_
          exact ih4 (q) (by omega) (by rw [← he, ebF, cif_f h17]) (by omega)
        · skip
          refine WP.iload_n dX1_lastEqualBefore_20 rfl ?_
          refine WP.iret dX1_lastEqualBefore_21 rfl ?_
          refine ⟨congrArg some (congrArg vI ?_), rfl⟩
          have e1 : eb ce k r = q + 1 := by rw [← he, ebF, cif_t h17]
          rw [e1]
  refine WP.fgt (lt := [vR 52, vI ((r : Nat) : Int), vI (((r : Nat) : Int) - 1)]) ⟨Or.inr rfl, Or.inr rfl, Or.inr (congrArg vI (by omega)), trivial⟩ ?_
  exact L4 _ (r) (Nat.le_refl _) (rfl) (Nat.lt_succ_self _)
theorem lf_dec : ∀ j : Nat, j < 42 → shp (56 + j) = (10, 6) := by decide +kernel
theorem lf_shp {j : Nat} (h : j < 42) : shp (56 + j) = (10, 6) := lf_dec j h
set_option maxHeartbeats 4000000 in
set_option maxRecDepth 20000 in
theorem c_E_canBalance {M : Mem} {t n k : Nat} {sz : Nat → Nat} {ce : Nat → Nat → Nat} (ht : isT t) (hT : TX M t n k sz ce) (hW : Wf n k sz ce) (hm1 : M 52 1 = (t : Int)) {lv : Nat} (hm2 : M 52 2 = (lv : Int)) (hlv : 2 ≤ lv ∧ lv ≤ 6) : CT 3 m_X1_canBalance [vR 52] M (fun z M' => z = some (vI (bi (canB n k sz ce lv))) ∧ (∀ a, a ≠ 98 → (a < 56 ∨ 98 ≤ a) → M' a = M a) ∧ (canB n k sz ce lv → (∀ h, h < lv → M' 98 h = ((n / lv : Nat) : Int)) ∧ ∀ b, b < k → ∀ w, w < sz b → ∀ h, h < lv → M' (56 + (6 * b + w)) h = ((n / (sz b * lv) : Nat) : Int))) := by
  have b1 := hW.1
  have b2 := hW.2.1
  have ht2 := ht.2
  refine CT.ofWP (by decide +kernel) (Nat.le_of_ble_eq_true rfl) ?_
  show WP sc0 3 m_X1_canBalance 0 [vR 52, vU, vU, vU, vU] [] M (fun z M' => z = some (vI (bi (canB n k sz ce lv))) ∧ (∀ a, a ≠ 98 → (a < 56 ∨ 98 ≤ a) → M' a = M a) ∧ (canB n k sz ce lv → (∀ h, h < lv → M' 98 h = ((n / lv : Nat) : Int)) ∧ ∀ b, b < k → ∀ w, w < sz b → ∀ h, h < lv → M' (56 + (6 * b + w)) h = ((n / (sz b * lv) : Nat) : Int)))
  have hml := Nat.mod_lt n (show 0 < lv by omega)
  refine WP.aload_n dX1_canBalance_0 rfl ?_
  refine WP.getM (y := t) dX1_canBalance_1 fl_X1_18 (rfl) (by decide) (hm1) rfl ?_
  refine WP.getI (x := ((n : Nat) : Int)) dX1_canBalance_4 fl_X1_41 (shT0 ht) (by decide) (hT.1) ?_
  refine WP.aload_n dX1_canBalance_7 rfl ?_
  refine WP.getI (x := ((lv : Nat) : Int)) dX1_canBalance_8 fl_X1_22 (rfl) (by decide) (hm2) ?_
  refine WP.irem dX1_canBalance_11 (by omega) (by omega) ?_
  refine WP.eqs (st' := [vI ((n % lv : Nat) : Int)]) rfl (lc (congrArg vI (by rw [Int.natCast_emod])) rfl) ?_
  refine WP.if_eq (tgt := 17) dX1_canBalance_12 (by decide) (by omega) (fun h12 => ?_) (fun h12 => ?_)
  · skip
    refine WP.iconst dX1_canBalance_17 ?_
    refine WP.istore_n (lt := [vR 52, vI (0 : Int), vU, vU, vU]) dX1_canBalance_18 (by decide) rfl ?_
    have L19 : ∀ (n9 : Nat) (g : Nat) (M1 : Mem) (hg : g ≤ lv) (hF : ∀ a, a ≠ 98 → (a < 56 ∨ 98 ≤ a) → M1 a = M a) (hA : ∀ h, h < g → M1 98 h = ((n / lv : Nat) : Int)), lv - g < n9 → WP sc0 3 m_X1_canBalance 19 [vR 52, vI ((g : Nat) : Int), vU, vU, vU] [] M1 (fun z M' => z = some (vI (bi (canB n k sz ce lv))) ∧ (∀ a, a ≠ 98 → (a < 56 ∨ 98 ≤ a) → M' a = M a) ∧ (canB n k sz ce lv → (∀ h, h < lv → M' 98 h = ((n / lv : Nat) : Int)) ∧ ∀ b, b < k → ∀ w, w < sz b → ∀ h, h < lv → M' (56 + (6 * b + w)) h = ((n / (sz b * lv) : Nat) : Int))) := by
      intro n9
      induction n9 with
      | zero =>
        intro g M1 hg hF hA hm9
        exact absurd hm9 (Nat.not_lt_zero _)
      | succ n9 ih19 =>
        intro g M1 hg hF hA hm9
        have hT1 : TX M1 t n k sz ce := hT.fr (hF t (by omega) (by omega)) (hF (t + 1) (by omega) (by omega)) (hF (t + 2) (by omega) (by omega))
        have hm11 : M1 52 1 = (t : Int) := by rw [hF 52 (by omega) (by omega)]; exact hm1
        have hm21 : M1 52 2 = (lv : Int) := by rw [hF 52 (by omega) (by omega)]; exact hm2
        refine WP.iload_n dX1_canBalance_19 rfl ?_
        refine WP.aload_n dX1_canBalance_20 rfl ?_
        refine WP.getI (x := ((lv : Nat) : Int)) dX1_canBalance_21 fl_X1_22 (rfl) (by decide) (hm21) ?_
        refine WP.icmp_ge (tgt := 51) dX1_canBalance_24 (by decide) (by omega) (by omega) (fun h24 => ?_) (fun h24 => ?_)
        · skip
          refine WP.iconst dX1_canBalance_51 ?_
          refine WP.istore_n (lt := [vR 52, vI (0 : Int), vU, vU, vU]) dX1_canBalance_52 (by decide) rfl ?_
          have L53 : ∀ (n9 : Nat) (c : Nat) (M1 : Mem) (hc : c ≤ k) (hF : ∀ a, a ≠ 98 → (a < 56 ∨ 98 ≤ a) → M1 a = M a) (hA : ∀ h, h < lv → M1 98 h = ((n / lv : Nat) : Int)) (hB : ∀ b, b < c → ∀ w, w < sz b → ∀ h, h < lv → M1 (56 + (6 * b + w)) h = ((n / (sz b * lv) : Nat) : Int)) (hC : ∀ b, b < c → n % (sz b * lv) = 0 ∧ evc n sz ce b), k - c < n9 → WP sc0 3 m_X1_canBalance 53 [vR 52, vI ((c : Nat) : Int), vU, vU, vU] [] M1 (fun z M' => z = some (vI (bi (canB n k sz ce lv))) ∧ (∀ a, a ≠ 98 → (a < 56 ∨ 98 ≤ a) → M' a = M a) ∧ (canB n k sz ce lv → (∀ h, h < lv → M' 98 h = ((n / lv : Nat) : Int)) ∧ ∀ b, b < k → ∀ w, w < sz b → ∀ h, h < lv → M' (56 + (6 * b + w)) h = ((n / (sz b * lv) : Nat) : Int))) := by
            intro n9
            induction n9 with
            | zero =>
              intro c M1 hc hF hA hB hC hm9
              exact absurd hm9 (Nat.not_lt_zero _)
            | succ n9 ih53 =>
              intro c M1 hc hF hA hB hC hm9
              have hT1 : TX M1 t n k sz ce := hT.fr (hF t (by omega) (by omega)) (hF (t + 1) (by omega) (by omega)) (hF (t + 2) (by omega) (by omega))
              have hm11 : M1 52 1 = (t : Int) := by rw [hF 52 (by omega) (by omega)]; exact hm1
              have hm21 : M1 52 2 = (lv : Int) := by rw [hF 52 (by omega) (by omega)]; exact hm2
              refine WP.iload_n dX1_canBalance_53 rfl ?_
              refine WP.aload_n dX1_canBalance_54 rfl ?_
              refine WP.getM (y := t) dX1_canBalance_55 fl_X1_18 (rfl) (by decide) (hm11) rfl ?_
              refine WP.getI (x := ((k : Nat) : Int)) dX1_canBalance_58 fl_X1_52 (shT0 ht) (by decide) (hT1.2.1) ?_
              refine WP.icmp_ge (tgt := 169) dX1_canBalance_61 (by decide) (by omega) (by omega) (fun h61 => ?_) (fun h61 => ?_)
              · skip
                refine WP.iconst dX1_canBalance_169 ?_
                refine WP.zret dX1_canBalance_170 rfl (by decide) ?_
                have hall : canB n k sz ce lv := ⟨by omega, fun b hb => hC b (by omega)⟩
                exact ⟨congrArg some (congrArg vI (bi_t hall).symm), hF, fun _ => ⟨hA, fun b hb w hw h hh => hB b (by omega) w hw h hh⟩⟩
              · skip
                have z1 := hW.2.2.1 c (by omega)
                have z2 : sz c * lv ≤ 6 * 6 := Nat.mul_le_mul z1.2 hlv.2
                have z3 : 0 < sz c * lv := Nat.mul_pos (by omega) (by omega)
                have z4 := Nat.mod_lt n z3
                refine WP.aload_n dX1_canBalance_64 rfl ?_
                refine WP.getM (y := t) dX1_canBalance_65 fl_X1_18 (rfl) (by decide) (hm11) rfl ?_
                refine WP.getR (y := (t + 1)) dX1_canBalance_68 fl_X1_55 (shT0 ht) (by decide) (srT1 ht) ?_
                refine WP.iload_n dX1_canBalance_71 rfl ?_
                refine WP.iaload (y := c) (x := ((sz c : Nat) : Int)) dX1_canBalance_72 (shT1 ht) (by omega) (by omega) (hT1.2.2.1 c (by omega)) ?_
                refine WP.aload_n dX1_canBalance_73 rfl ?_
                refine WP.getI (x := ((lv : Nat) : Int)) dX1_canBalance_74 fl_X1_22 (rfl) (by decide) (hm21) ?_
                refine WP.imul dX1_canBalance_77 ?_
                refine WP.eqs (st' := [vI ((sz c * lv : Nat) : Int)]) rfl (lc (congrArg vI (by rw [Int.natCast_mul])) rfl) ?_
                refine WP.istore_n (lt := [vR 52, vI ((c : Nat) : Int), vI ((sz c * lv : Nat) : Int), vU, vU]) dX1_canBalance_78 (by decide) rfl ?_
                refine WP.aload_n dX1_canBalance_79 rfl ?_
                refine WP.getM (y := t) dX1_canBalance_80 fl_X1_18 (rfl) (by decide) (hm11) rfl ?_
                refine WP.getI (x := ((n : Nat) : Int)) dX1_canBalance_83 fl_X1_41 (shT0 ht) (by decide) (hT1.1) ?_
                refine WP.iload_n dX1_canBalance_86 rfl ?_
                refine WP.irem dX1_canBalance_87 (by omega) (by omega) ?_
                refine WP.eqs (st' := [vI ((n % (sz c * lv) : Nat) : Int)]) rfl (lc (congrArg vI (by rw [Int.natCast_emod])) rfl) ?_
                refine WP.if_ne (tgt := 99) dX1_canBalance_88 (by decide) (by omega) (fun h88 => ?_) (fun h88 => ?_)
                · skip
                  refine WP.iconst dX1_canBalance_99 ?_
                  refine WP.zret dX1_canBalance_100 rfl (by decide) ?_
                  exact ⟨congrArg some (congrArg vI (bi_f (fun z => h88 (by rw [(z.2 c (by omega)).1]; rfl))).symm), hF, fun z => absurd (z.2 c (by omega)).1 (fun q => h88 (by rw [q]; rfl))⟩
                · skip
                  refine WP.aload_n dX1_canBalance_91 rfl ?_
                  refine WP.iload_n dX1_canBalance_92 rfl ?_
                  refine WP.callVp (as := [vI ((c : Nat) : Int)]) dX1_canBalance_93 mv_X1_58 rfl (rfl) (by decide) rfl rfl (c_E_isEven ht hT1 hW hm11 (c := c) (by omega)) rfl (Nat.le_of_ble_eq_true rfl) (by omega) ?_
                  refine WP.if_ne (tgt := 101) dX1_canBalance_96 (by decide) (bi_rng) (fun h96 => ?_) (fun h96 => ?_)
                  · skip
                    have hev := bi_1 h96
                    refine WP.iconst dX1_canBalance_101 ?_
                    refine WP.istore_n (lt := [vR 52, vI ((c : Nat) : Int), vI ((sz c * lv : Nat) : Int), vI (0 : Int), vU]) dX1_canBalance_102 (by decide) rfl ?_
                    have L103 : ∀ (n9 : Nat) (v : Nat) (M2 : Mem) (hv : v ≤ sz c) (hF2 : ∀ a, a ≠ 98 → (a < 56 ∨ 98 ≤ a) → M2 a = M a) (hA2 : ∀ h, h < lv → M2 98 h = ((n / lv : Nat) : Int)) (hB2 : ∀ b, b < c → ∀ w, w < sz b → ∀ h, h < lv → M2 (56 + (6 * b + w)) h = ((n / (sz b * lv) : Nat) : Int)) (hV : ∀ w, w < v → ∀ h, h < lv → M2 (56 + (6 * c + w)) h = ((n / (sz c * lv) : Nat) : Int)), sz c - v < n9 → WP sc0 3 m_X1_canBalance 103 [vR 52, vI ((c : Nat) : Int), vI ((sz c * lv : Nat) : Int), vI ((v : Nat) : Int), vU] [] M2 (fun z M' => z = some (vI (bi (canB n k sz ce lv))) ∧ (∀ a, a ≠ 98 → (a < 56 ∨ 98 ≤ a) → M' a = M a) ∧ (canB n k sz ce lv → (∀ h, h < lv → M' 98 h = ((n / lv : Nat) : Int)) ∧ ∀ b, b < k → ∀ w, w < sz b → ∀ h, h < lv → M' (56 + (6 * b + w)) h = ((n / (sz b * lv) : Nat) : Int))) := by
                      intro n9
                      induction n9 with
                      | zero =>
                        intro v M2 hv hF2 hA2 hB2 hV hm9
                        exact absurd hm9 (Nat.not_lt_zero _)
                      | succ n9 ih103 =>
                        intro v M2 hv hF2 hA2 hB2 hV hm9
                        have hT2 : TX M2 t n k sz ce := hT.fr (hF2 t (by omega) (by omega)) (hF2 (t + 1) (by omega) (by omega)) (hF2 (t + 2) (by omega) (by omega))
                        have hm12 : M2 52 1 = (t : Int) := by rw [hF2 52 (by omega) (by omega)]; exact hm1
                        have hm22 : M2 52 2 = (lv : Int) := by rw [hF2 52 (by omega) (by omega)]; exact hm2
                        refine WP.iload_n dX1_canBalance_103 rfl ?_
                        refine WP.aload_n dX1_canBalance_104 rfl ?_
                        refine WP.getM (y := t) dX1_canBalance_105 fl_X1_18 (rfl) (by decide) (hm12) rfl ?_
                        refine WP.getR (y := (t + 1)) dX1_canBalance_108 fl_X1_55 (shT0 ht) (by decide) (srT1 ht) ?_
                        refine WP.iload_n dX1_canBalance_111 rfl ?_
                        refine WP.iaload (y := c) (x := ((sz c : Nat) : Int)) dX1_canBalance_112 (shT1 ht) (by omega) (by omega) (hT2.2.2.1 c (by omega)) ?_
                        refine WP.icmp_ge (tgt := 163) dX1_canBalance_113 (by decide) (by omega) (by omega) (fun h113 => ?_) (fun h113 => ?_)
                        · skip
                          refine WP.iinc (lt := [vR 52, vI (((c : Nat) : Int) + 1), vI ((sz c * lv : Nat) : Int), vI ((v : Nat) : Int), vU]) dX1_canBalance_163 rfl (by decide) rfl ?_
                          refine WP.goto (tgt := 53) dX1_canBalance_166 (by decide) ?_
                          refine WP.fgt (lt := [vR 52, vI (((c + 1) : Nat) : Int), vU, vU, vU]) ⟨Or.inr rfl, Or.inr (congrArg vI (by omega)), Or.inl rfl, Or.inl rfl, Or.inl rfl, trivial⟩ ?_
                          exact ih53 (c + 1) (M2) (by omega) (hF2) (hA2) (fun b hb w hw h hh => by
                            by_cases e : b = c
                            · rw [e] at hw ⊢; exact hV w (by omega) h hh
                            · exact hB2 b (by omega) w hw h hh) (fun b hb => by
                            by_cases e : b = c
                            · rw [e]; exact ⟨by omega, hev⟩
                            · exact hC b (by omega)) (by omega)
                        · skip
                          refine WP.iconst dX1_canBalance_116 ?_
                          refine WP.istore (lt := [vR 52, vI ((c : Nat) : Int), vI ((sz c * lv : Nat) : Int), vI ((v : Nat) : Int), vI (0 : Int)]) dX1_canBalance_117 (by decide) rfl ?_
                          have L119 : ∀ (n9 : Nat) (g : Nat) (M3 : Mem) (hg3 : g ≤ lv) (hF3 : ∀ a, a ≠ 98 → (a < 56 ∨ 98 ≤ a) → M3 a = M a) (hA3 : ∀ h, h < lv → M3 98 h = ((n / lv : Nat) : Int)) (hB3 : ∀ b, b < c → ∀ w, w < sz b → ∀ h, h < lv → M3 (56 + (6 * b + w)) h = ((n / (sz b * lv) : Nat) : Int)) (hV3 : ∀ w, w < v → ∀ h, h < lv → M3 (56 + (6 * c + w)) h = ((n / (sz c * lv) : Nat) : Int)) (hG : ∀ h, h < g → M3 (56 + (6 * c + v)) h = ((n / (sz c * lv) : Nat) : Int)), lv - g < n9 → WP sc0 3 m_X1_canBalance 119 [vR 52, vI ((c : Nat) : Int), vI ((sz c * lv : Nat) : Int), vI ((v : Nat) : Int), vI ((g : Nat) : Int)] [] M3 (fun z M' => z = some (vI (bi (canB n k sz ce lv))) ∧ (∀ a, a ≠ 98 → (a < 56 ∨ 98 ≤ a) → M' a = M a) ∧ (canB n k sz ce lv → (∀ h, h < lv → M' 98 h = ((n / lv : Nat) : Int)) ∧ ∀ b, b < k → ∀ w, w < sz b → ∀ h, h < lv → M' (56 + (6 * b + w)) h = ((n / (sz b * lv) : Nat) : Int))) := by
                            intro n9
                            induction n9 with
                            | zero =>
                              intro g M3 hg3 hF3 hA3 hB3 hV3 hG hm9
                              exact absurd hm9 (Nat.not_lt_zero _)
                            | succ n9 ih119 =>
                              intro g M3 hg3 hF3 hA3 hB3 hV3 hG hm9
                              have hT3 : TX M3 t n k sz ce := hT.fr (hF3 t (by omega) (by omega)) (hF3 (t + 1) (by omega) (by omega)) (hF3 (t + 2) (by omega) (by omega))
                              have hm13 : M3 52 1 = (t : Int) := by rw [hF3 52 (by omega) (by omega)]; exact hm1
                              have hm23 : M3 52 2 = (lv : Int) := by rw [hF3 52 (by omega) (by omega)]; exact hm2
                              refine WP.iload dX1_canBalance_119 rfl ?_
                              refine WP.aload_n dX1_canBalance_121 rfl ?_
                              refine WP.getI (x := ((lv : Nat) : Int)) dX1_canBalance_122 fl_X1_22 (rfl) (by decide) (hm23) ?_
                              refine WP.icmp_ge (tgt := 157) dX1_canBalance_125 (by decide) (by omega) (by omega) (fun h125 => ?_) (fun h125 => ?_)
                              · skip
                                refine WP.iinc (lt := [vR 52, vI ((c : Nat) : Int), vI ((sz c * lv : Nat) : Int), vI (((v : Nat) : Int) + 1), vI ((g : Nat) : Int)]) dX1_canBalance_157 rfl (by decide) rfl ?_
                                refine WP.goto (tgt := 103) dX1_canBalance_160 (by decide) ?_
                                refine WP.fgt (lt := [vR 52, vI ((c : Nat) : Int), vI ((sz c * lv : Nat) : Int), vI (((v + 1) : Nat) : Int), vU]) ⟨Or.inr rfl, Or.inr rfl, Or.inr rfl, Or.inr (congrArg vI (by omega)), Or.inl rfl, trivial⟩ ?_
                                exact ih103 (v + 1) (M3) (by omega) (hF3) (hA3) (hB3) (fun w hw h hh => by
                                  by_cases e : w = v
                                  · rw [e]; exact hG h (by omega)
                                  · exact hV3 w (by omega) h hh) (by omega)
                              · skip
                                refine WP.aload_n dX1_canBalance_128 rfl ?_
                                refine WP.getR (y := 55) dX1_canBalance_129 fl_X1_31 (rfl) (by decide) (rfl) ?_
                                refine WP.iload_n dX1_canBalance_132 rfl ?_
                                refine WP.bipush dX1_canBalance_133 (by decide) ?_
                                refine WP.imul dX1_canBalance_135 ?_
                                refine WP.iload_n dX1_canBalance_136 rfl ?_
                                refine WP.iadd dX1_canBalance_137 ?_
                                refine WP.aaloadI (y := (6 * c + v)) (z := (56 + (6 * c + v))) dX1_canBalance_138 (rfl) (by omega) (by omega) (rfl) ?_
                                refine WP.iload dX1_canBalance_139 rfl ?_
                                refine WP.aload_n dX1_canBalance_141 rfl ?_
                                refine WP.getM (y := t) dX1_canBalance_142 fl_X1_18 (rfl) (by decide) (hm13) rfl ?_
                                refine WP.getI (x := ((n : Nat) : Int)) dX1_canBalance_145 fl_X1_41 (shT0 ht) (by decide) (hT3.1) ?_
                                refine WP.iload_n dX1_canBalance_148 rfl ?_
                                refine WP.idiv dX1_canBalance_149 (by omega) (by omega) ?_
                                refine WP.eqs (st' := [vI ((n / (sz c * lv) : Nat) : Int), vI ((g : Nat) : Int), vR (56 + (6 * c + v))]) rfl (lc (congrArg vI (by rw [Int.natCast_ediv])) rfl) ?_
                                refine WP.iastore (y := g) dX1_canBalance_150 (lf_shp (by omega)) (by omega) (by omega) rfl ?_
                                obtain ⟨M4, hM4⟩ : ∃ z, z = mset M3 (56 + (6 * c + v)) g ((n / (sz c * lv) : Nat) : Int) := ⟨_, rfl⟩
                                refine WP.eqM hM4.symm ?_
                                refine WP.iinc (lt := [vR 52, vI ((c : Nat) : Int), vI ((sz c * lv : Nat) : Int), vI ((v : Nat) : Int), vI (((g : Nat) : Int) + 1)]) dX1_canBalance_151 rfl (by decide) rfl ?_
                                refine WP.goto (tgt := 119) dX1_canBalance_154 (by decide) ?_
                                refine WP.fgt (lt := [vR 52, vI ((c : Nat) : Int), vI ((sz c * lv : Nat) : Int), vI ((v : Nat) : Int), vI (((g + 1) : Nat) : Int)]) ⟨Or.inr rfl, Or.inr rfl, Or.inr rfl, Or.inr rfl, Or.inr (congrArg vI (by omega)), trivial⟩ ?_
                                exact ih119 (g + 1) (M4) (by omega) (fun a i1 i2 => by rw [hM4, mset_o a (by omega)]; exact hF3 a i1 i2) (fun h hh => by rw [hM4, mset_o 98 (by omega)]; exact hA3 h hh) (fun b hb w hw h hh => by have := hW.2.2.1 b (by omega); rw [hM4, mset_o _ (by omega)]; exact hB3 b hb w hw h hh) (fun w hw h hh => by rw [hM4, mset_o _ (by omega)]; exact hV3 w hw h hh) (fun h hh => by
                                  rw [hM4]
                                  by_cases e : h = g
                                  · rw [e]; exact mset_s
                                  · rw [mset_n (Or.inr e)]; exact hG h (by omega)) (by omega)
                          refine WP.fgt (lt := [vR 52, vI ((c : Nat) : Int), vI ((sz c * lv : Nat) : Int), vI ((v : Nat) : Int), vI ((0 : Nat) : Int)]) ⟨Or.inr rfl, Or.inr rfl, Or.inr rfl, Or.inr rfl, Or.inr (congrArg vI (by omega)), trivial⟩ ?_
                          exact L119 _ (0) (M2) (Nat.zero_le _) (hF2) (hA2) (hB2) (hV) (fun h hh => absurd hh (Nat.not_lt_zero h)) (Nat.lt_succ_self _)
                    refine WP.fgt (lt := [vR 52, vI ((c : Nat) : Int), vI ((sz c * lv : Nat) : Int), vI ((0 : Nat) : Int), vU]) ⟨Or.inr rfl, Or.inr rfl, Or.inr rfl, Or.inr (congrArg vI (by omega)), Or.inl rfl, trivial⟩ ?_
                    exact L103 _ (0) (M1) (Nat.zero_le _) (hF) (hA) (hB) (fun w hw => absurd hw (Nat.not_lt_zero w)) (Nat.lt_succ_self _)
                  · skip
                    have hnev := bi_0 h96
                    refine WP.iconst dX1_canBalance_99 ?_
                    refine WP.zret dX1_canBalance_100 rfl (by decide) ?_
                    exact ⟨congrArg some (congrArg vI (bi_f (fun z => hnev (z.2 c (by omega)).2)).symm), hF, fun z => absurd (z.2 c (by omega)).2 hnev⟩
          refine WP.fgt (lt := [vR 52, vI ((0 : Nat) : Int), vU, vU, vU]) ⟨Or.inr rfl, Or.inr (congrArg vI (by omega)), Or.inl rfl, Or.inl rfl, Or.inl rfl, trivial⟩ ?_
          exact L53 _ (0) (M1) (Nat.zero_le _) (hF) (fun h hh => hA h (by omega)) (fun b hb => absurd hb (Nat.not_lt_zero b)) (fun b hb => absurd hb (Nat.not_lt_zero b)) (Nat.lt_succ_self _)
        · skip
          refine WP.aload_n dX1_canBalance_27 rfl ?_
          refine WP.getR (y := 98) dX1_canBalance_28 fl_X1_34 (rfl) (by decide) (rfl) ?_
          refine WP.iload_n dX1_canBalance_31 rfl ?_
          refine WP.aload_n dX1_canBalance_32 rfl ?_
          refine WP.getM (y := t) dX1_canBalance_33 fl_X1_18 (rfl) (by decide) (hm11) rfl ?_
          refine WP.getI (x := ((n : Nat) : Int)) dX1_canBalance_36 fl_X1_41 (shT0 ht) (by decide) (hT1.1) ?_
          refine WP.aload_n dX1_canBalance_39 rfl ?_
          refine WP.getI (x := ((lv : Nat) : Int)) dX1_canBalance_40 fl_X1_22 (rfl) (by decide) (hm21) ?_
          refine WP.idiv dX1_canBalance_43 (by omega) (by omega) ?_
          refine WP.eqs (st' := [vI ((n / lv : Nat) : Int), vI ((g : Nat) : Int), vR 98]) rfl (lc (congrArg vI (by rw [Int.natCast_ediv])) rfl) ?_
          refine WP.iastore (y := g) dX1_canBalance_44 (rfl) (by omega) (by omega) rfl ?_
          obtain ⟨M2, hM2⟩ : ∃ z, z = mset M1 98 g ((n / lv : Nat) : Int) := ⟨_, rfl⟩
          refine WP.eqM hM2.symm ?_
          refine WP.iinc (lt := [vR 52, vI (((g : Nat) : Int) + 1), vU, vU, vU]) dX1_canBalance_45 rfl (by decide) rfl ?_
          refine WP.goto (tgt := 19) dX1_canBalance_48 (by decide) ?_
          refine WP.fgt (lt := [vR 52, vI (((g + 1) : Nat) : Int), vU, vU, vU]) ⟨Or.inr rfl, Or.inr (congrArg vI (by omega)), Or.inl rfl, Or.inl rfl, Or.inl rfl, trivial⟩ ?_
          exact ih19 (g + 1) (M2) (by omega) (fun a i1 i2 => by rw [hM2, mset_o a i1]; exact hF a i1 i2) (fun h hh => by
            rw [hM2]
            by_cases e : h = g
            · rw [e]; exact mset_s
            · rw [mset_n (Or.inr e)]; exact hA h (by omega)) (by omega)
    refine WP.fgt (lt := [vR 52, vI ((0 : Nat) : Int), vU, vU, vU]) ⟨Or.inr rfl, Or.inr (congrArg vI (by omega)), Or.inl rfl, Or.inl rfl, Or.inl rfl, trivial⟩ ?_
    exact L19 _ (0) (M) (Nat.zero_le _) (fun _ _ _ => rfl) (fun h hh => absurd hh (Nat.not_lt_zero h)) (Nat.lt_succ_self _)
  · skip
    refine WP.iconst dX1_canBalance_15 ?_
    refine WP.zret dX1_canBalance_16 rfl (by decide) ?_
    exact ⟨congrArg some (congrArg vI (bi_f (fun z => by have := z.1; omega)).symm), fun _ _ _ => rfl, fun z => absurd z.1 (by omega)⟩
