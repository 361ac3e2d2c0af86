theorem mxv_same {f g : Nat → Nat} {T u : Nat} (h1 : ∀ i, i < u → ∃ v, v < T ∧ g i = f v) (h2 : ∀ v, v < T → 0 < f v → ∃ i, i < u ∧ g i = f v) : mxv g u = mxv f T := by
  apply Nat.le_antisymm
  · exact mxv_le (fun i hi => by
      obtain ⟨v, hv, e⟩ := h1 i hi
      rw [e]; exact mxv_ge hv)
  · exact mxv_le (fun v hv => by
      rcases Nat.eq_zero_or_pos (f v) with e | e
      · rw [e]; exact Nat.zero_le _
      · obtain ⟨i, hi, e2⟩ := h2 v hv e
        rw [← e2]; exact mxv_ge hi)
theorem mnv_min {f : Nat → Nat} {a b : Nat} (hab : a ≤ b) : ∀ T, Nat.min a (mnv f b T) = mnv f a T
  | 0 => Nat.min_eq_left hab
  | T + 1 => by
    show Nat.min a (Nat.min (mnv f b T) (f T)) = Nat.min (mnv f a T) (f T)
    rw [← mnv_min hab T]
    exact (Nat.min_assoc _ _ _).symm
theorem spb_1 {n k t : Nat} {sz : Nat → Nat} {ce : Nat → Nat → Nat} : spb n k sz ce t 1 = 0 := by
  show spb n k sz ce t (0 + 1) = 0
  rw [spb, cif_f (fun z => absurd z.1 (Nat.lt_irrefl 0))]
  rfl
theorem lss_le {n k t : Nat} {sz : Nat → Nat} {ce : Nat → Nat → Nat} (s : Nat) : lss n k sz ce t s ≤ n := lss_mono (s := 0) (Nat.zero_le s)
set_option maxHeartbeats 4000000 in
set_option maxRecDepth 20000 in
theorem c_C_greatest {M : Mem} {t n k : Nat} {sz : Nat → Nat} {ce : Nat → Nat → Nat} {b : Nat} (ht : isT t) (hT : TX M t n k sz ce) (hW : Wf n k sz ce) (hb7 : b ≤ 12) : CT 5 m_X0_greatestTally [vR 49, vR t, vI ((b : Nat) : Int)] M (fun z M' => z = some (vI (gts n k sz ce b (2 ^ k) : Nat)) ∧ ∀ a, a ≠ 50 → a ≠ 51 → M' a = M a) := by
  have b1 := hW.1
  have b2 := hW.2.1
  have ht2 := ht.2
  have hp128 := pw7 b2
  refine CT.ofWP (by decide +kernel) (Nat.le_of_ble_eq_true rfl) ?_
  show WP sc0 5 m_X0_greatestTally 0 [vR 49, vR t, vI ((b : Nat) : Int), vU, vU, vU, vU] [] M (fun z M' => z = some (vI (gts n k sz ce b (2 ^ k) : Nat)) ∧ ∀ a, a ≠ 50 → a ≠ 51 → M' a = M a)
  refine WP.iconst dX0_greatestTally_0 ?_
  refine WP.istore_n (lt := [vR 49, vR t, vI ((b : Nat) : Int), vI (0 : Int), vU, vU, vU]) dX0_greatestTally_1 (by decide) rfl ?_
  refine WP.iconst dX0_greatestTally_2 ?_
  refine WP.istore (lt := [vR 49, vR t, vI ((b : Nat) : Int), vI (0 : Int), vI (0 : Int), vU, vU]) dX0_greatestTally_3 (by decide) rfl ?_
  have L5 : ∀ (n9 : Nat) (set : Nat) (M1 : Mem) (hs : set ≤ 2 ^ k) (hF : ∀ a, a ≠ 50 → a ≠ 51 → M1 a = M a), 2 ^ k - set < n9 → WP sc0 5 m_X0_greatestTally 5 [vR 49, vR t, vI ((b : Nat) : Int), vI ((gts n k sz ce b set : Nat) : Int), vI ((set : Nat) : Int), vU, vU] [] M1 (fun z M' => z = some (vI (gts n k sz ce b (2 ^ k) : Nat)) ∧ ∀ a, a ≠ 50 → a ≠ 51 → M' a = M a) := by
    intro n9
    induction n9 with
    | zero =>
      intro set M1 hs hF hm9
      exact absurd hm9 (Nat.not_lt_zero _)
    | succ n9 ih5 =>
      intro set M1 hs hF hm9
      have hT1 : TX M1 t n k sz ce := hT.fr (hF t (by omega) (by omega)) (hF (t + 1) (by omega) (by omega)) (hF (t + 2) (by omega) (by omega))
      have hgl := gts_le (n := n) (k := k) (t := b) (sz := sz) (ce := ce) set
      refine WP.iload dX0_greatestTally_5 rfl ?_
      refine WP.iconst dX0_greatestTally_7 ?_
      refine WP.aload_n dX0_greatestTally_8 rfl ?_
      refine WP.getI (x := ((k : Nat) : Int)) dX0_greatestTally_9 fl_X0_42 (shT0 ht) (by decide) (hT1.2.1) ?_
      refine WP.ishl (z := ((2 ^ k : Nat) : Int)) dX0_greatestTally_12 (shl_ok k (by omega)) ?_
      refine WP.icmp_ge (tgt := 68) dX0_greatestTally_13 (by decide) (by omega) (by omega) (fun h13 => ?_) (fun h13 => ?_)
      · skip
        refine WP.iload_n dX0_greatestTally_68 rfl ?_
        refine WP.iret dX0_greatestTally_69 rfl ?_
        rw [show set = 2 ^ k by omega]
        exact ⟨rfl, hF⟩
      · skip
        have hpp : popn 12 set ≤ 12 := by rw [popn_cn]; exact cn_le _ _
        refine WP.iload dX0_greatestTally_16 rfl ?_
        refine WP.callSp (as := [vI ((set : Nat) : Int)]) dX0_greatestTally_18 ms_X0_45 rfl (c_bitCountI (bq_ok set (by omega))) rfl (Nat.le_of_ble_eq_true rfl) (by omega) ?_
        refine WP.iload_n dX0_greatestTally_21 rfl ?_
        refine WP.icmp_ne (tgt := 62) dX0_greatestTally_22 (by decide) (by omega) (by omega) (fun h22 => ?_) (fun h22 => ?_)
        · skip
          refine WP.iinc (lt := [vR 49, vR t, vI ((b : Nat) : Int), vI ((gts n k sz ce b set : Nat) : Int), vI (((set : Nat) : Int) + 1), vU, vU]) dX0_greatestTally_62 rfl (by decide) rfl ?_
          refine WP.goto (tgt := 5) dX0_greatestTally_65 (by decide) ?_
          refine WP.fgt (lt := [vR 49, vR t, vI ((b : Nat) : Int), vI ((gts n k sz ce b (set + 1) : Nat) : Int), vI (((set + 1) : Nat) : Int), vU, vU]) ⟨Or.inr rfl, Or.inr rfl, Or.inr rfl, Or.inr (congrArg vI (by rw [gts, cif_f (fun z => h22 (by rw [z]))])), Or.inr (congrArg vI (by omega)), Or.inl rfl, Or.inl rfl, trivial⟩ ?_
          exact ih5 (set + 1) (M1) (by omega) (hF) (by omega)
        · skip
          refine WP.aload_n dX0_greatestTally_25 rfl ?_
          refine WP.aload_n dX0_greatestTally_26 rfl ?_
          refine WP.iload dX0_greatestTally_27 rfl ?_
          refine WP.callV (as := [vR t, vI ((set : Nat) : Int)]) dX0_greatestTally_29 mv_X0_61 rfl (rfl) (by decide) rfl rfl (c_C_tally (set := set) ht hT1 hW (by omega)) rfl (Nat.le_of_ble_eq_true rfl) (by omega) (fun r9 M2 h9 => ?_)
          obtain ⟨u, rfl, hu, e1, ⟨f, e2, e3, e4⟩, e5⟩ := h9
          show WP sc0 5 m_X0_greatestTally 32 [vR 49, vR t, vI ((b : Nat) : Int), vI ((gts n k sz ce b set : Nat) : Int), vI ((set : Nat) : Int), vU, vU] [vI ((u : Nat) : Int)] M2 (fun z M' => z = some (vI (gts n k sz ce b (2 ^ k) : Nat)) ∧ ∀ a, a ≠ 50 → a ≠ 51 → M' a = M a)
          refine WP.istore (lt := [vR 49, vR t, vI ((b : Nat) : Int), vI ((gts n k sz ce b set : Nat) : Int), vI ((set : Nat) : Int), vI ((u : Nat) : Int), vU]) dX0_greatestTally_32 (by decide) rfl ?_
          refine WP.iconst dX0_greatestTally_34 ?_
          refine WP.istore (lt := [vR 49, vR t, vI ((b : Nat) : Int), vI ((gts n k sz ce b set : Nat) : Int), vI ((set : Nat) : Int), vI ((u : Nat) : Int), vI (0 : Int)]) dX0_greatestTally_35 (by decide) rfl ?_
          have L37 : ∀ (n9 : Nat) (i : Nat) (hiu : i ≤ u), u - i < n9 → WP sc0 5 m_X0_greatestTally 37 [vR 49, vR t, vI ((b : Nat) : Int), vI ((Nat.max (gts n k sz ce b set) (mxv f i) : Nat) : Int), vI ((set : Nat) : Int), vI ((u : Nat) : Int), vI ((i : Nat) : Int)] [] M2 (fun z M' => z = some (vI (gts n k sz ce b (2 ^ k) : Nat)) ∧ ∀ a, a ≠ 50 → a ≠ 51 → M' a = M a) := by
            intro n9
            induction n9 with
            | zero =>
              intro i hiu hm9
              exact absurd hm9 (Nat.not_lt_zero _)
            | succ n9 ih37 =>
              intro i hiu hm9
              refine WP.iload dX0_greatestTally_37 rfl ?_
              refine WP.iload dX0_greatestTally_39 rfl ?_
              refine WP.icmp_ge (tgt := 62) dX0_greatestTally_41 (by decide) (by omega) (by omega) (fun h41 => ?_) (fun h41 => ?_)
              · skip
                refine WP.iinc (lt := [vR 49, vR t, vI ((b : Nat) : Int), vI ((Nat.max (gts n k sz ce b set) (mxv f i) : Nat) : Int), vI (((set : Nat) : Int) + 1), vI ((u : Nat) : Int), vI ((i : Nat) : Int)]) dX0_greatestTally_62 rfl (by decide) rfl ?_
                refine WP.goto (tgt := 5) dX0_greatestTally_65 (by decide) ?_
                refine WP.fgt (lt := [vR 49, vR t, vI ((b : Nat) : Int), vI ((gts n k sz ce b (set + 1) : Nat) : Int), vI (((set + 1) : Nat) : Int), vU, vU]) ⟨Or.inr rfl, Or.inr rfl, Or.inr rfl, Or.inr (congrArg vI (by rw [gts, cif_t (by omega), mxS, ← mxv_same e3 e4, show u = i by omega])), Or.inr (congrArg vI (by omega)), Or.inl rfl, Or.inl rfl, trivial⟩ ?_
                exact ih5 (set + 1) (M2) (by omega) (fun a h1 h2 => (e1 a h1 h2).trans (hF a h1 h2)) (by omega)
              · skip
                have hfi : f i ≤ n := by
                  obtain ⟨v, _, e⟩ := e3 i (by omega)
                  rw [e]; exact tc_n
                have hmx : Nat.max (gts n k sz ce b set) (mxv f i) ≤ n := Nat.max_le.mpr ⟨hgl, mxv_le (fun j hj => by
                  obtain ⟨v, _, e⟩ := e3 j (by omega)
                  rw [e]; exact tc_n)⟩
                refine WP.iload_n dX0_greatestTally_44 rfl ?_
                refine WP.aload_n dX0_greatestTally_45 rfl ?_
                refine WP.getR (y := 50) dX0_greatestTally_46 fl_X0_9 (rfl) (by decide) (rfl) ?_
                refine WP.iload dX0_greatestTally_49 rfl ?_
                refine WP.iaload (y := i) (x := ((f i : Nat) : Int)) dX0_greatestTally_51 (rfl) (by omega) (by omega) (e2 i (by omega)) ?_
                refine WP.mmax (a := Nat.max (gts n k sz ce b set) (mxv f i)) (b := f i) dX0_greatestTally_52 w_ml_X0_65 (by omega) (by omega) (by omega) (Nat.le_of_ble_eq_true rfl) ?_
                refine WP.istore_n (lt := [vR 49, vR t, vI ((b : Nat) : Int), vI ((Nat.max (Nat.max (gts n k sz ce b set) (mxv f i)) (f i) : Nat) : Int), vI ((set : Nat) : Int), vI ((u : Nat) : Int), vI ((i : Nat) : Int)]) dX0_greatestTally_55 (by decide) rfl ?_
                refine WP.iinc (lt := [vR 49, vR t, vI ((b : Nat) : Int), vI ((Nat.max (Nat.max (gts n k sz ce b set) (mxv f i)) (f i) : Nat) : Int), vI ((set : Nat) : Int), vI ((u : Nat) : Int), vI (((i : Nat) : Int) + 1)]) dX0_greatestTally_56 rfl (by decide) rfl ?_
                refine WP.goto (tgt := 37) dX0_greatestTally_59 (by decide) ?_
                refine WP.fgt (lt := [vR 49, vR t, vI ((b : Nat) : Int), vI ((Nat.max (gts n k sz ce b set) (mxv f (i + 1)) : Nat) : Int), vI ((set : Nat) : Int), vI ((u : Nat) : Int), vI (((i + 1) : Nat) : Int)]) ⟨Or.inr rfl, Or.inr rfl, Or.inr rfl, Or.inr (congrArg vI (by rw [show mxv f (i + 1) = Nat.max (mxv f i) (f i) from rfl, show Nat.max (gts n k sz ce b set) (Nat.max (mxv f i) (f i)) = Nat.max (Nat.max (gts n k sz ce b set) (mxv f i)) (f i) from (Nat.max_assoc _ _ _).symm])), Or.inr rfl, Or.inr rfl, Or.inr (congrArg vI (by omega)), trivial⟩ ?_
                exact ih37 (i + 1) (by omega) (by omega)
          refine WP.fgt (lt := [vR 49, vR t, vI ((b : Nat) : Int), vI ((Nat.max (gts n k sz ce b set) (mxv f 0) : Nat) : Int), vI ((set : Nat) : Int), vI ((u : Nat) : Int), vI ((0 : Nat) : Int)]) ⟨Or.inr rfl, Or.inr rfl, Or.inr rfl, Or.inr (congrArg vI (by rw [show Nat.max (gts n k sz ce b set) (mxv f 0) = gts n k sz ce b set from Nat.max_eq_left (Nat.zero_le _)])), Or.inr rfl, Or.inr rfl, Or.inr (congrArg vI (by omega)), trivial⟩ ?_
          exact L37 _ (0) (Nat.zero_le _) (Nat.lt_succ_self _)
  refine WP.fgt (lt := [vR 49, vR t, vI ((b : Nat) : Int), vI ((gts n k sz ce b 0 : Nat) : Int), vI ((0 : Nat) : Int), vU, vU]) ⟨Or.inr rfl, Or.inr rfl, Or.inr rfl, Or.inr (congrArg vI (rfl)), Or.inr (congrArg vI (by omega)), Or.inl rfl, Or.inl rfl, trivial⟩ ?_
  exact L5 _ (0) (M) (Nat.zero_le _) (fun _ _ _ => rfl) (Nat.lt_succ_self _)
set_option maxHeartbeats 4000000 in
set_option maxRecDepth 20000 in
theorem c_C_least {M : Mem} {t n k : Nat} {sz : Nat → Nat} {ce : Nat → Nat → Nat} {b : Nat} (ht : isT t) (hT : TX M t n k sz ce) (hW : Wf n k sz ce) (hb7 : b ≤ 12) : CT 5 m_X0_leastTally [vR 49, vR t, vI ((b : Nat) : Int)] M (fun z M' => z = some (vI (lss n k sz ce b (2 ^ k) : Nat)) ∧ ∀ a, a ≠ 50 → a ≠ 51 → M' a = M a) := by
  have b1 := hW.1
  have b2 := hW.2.1
  have ht2 := ht.2
  have hp128 := pw7 b2
  refine CT.ofWP (by decide +kernel) (Nat.le_of_ble_eq_true rfl) ?_
  show WP sc0 5 m_X0_leastTally 0 [vR 49, vR t, vI ((b : Nat) : Int), vU, vU, vU, vU] [] M (fun z M' => z = some (vI (lss n k sz ce b (2 ^ k) : Nat)) ∧ ∀ a, a ≠ 50 → a ≠ 51 → M' a = M a)
  refine WP.aload_n dX0_leastTally_0 rfl ?_
  refine WP.getI (x := ((n : Nat) : Int)) dX0_leastTally_1 fl_X0_34 (shT0 ht) (by decide) (hT.1) ?_
  refine WP.istore_n (lt := [vR 49, vR t, vI ((b : Nat) : Int), vI ((n : Nat) : Int), vU, vU, vU]) dX0_leastTally_4 (by decide) rfl ?_
  refine WP.iconst dX0_leastTally_5 ?_
  refine WP.istore (lt := [vR 49, vR t, vI ((b : Nat) : Int), vI ((n : Nat) : Int), vI (0 : Int), vU, vU]) dX0_leastTally_6 (by decide) rfl ?_
  have L8 : ∀ (n9 : Nat) (set : Nat) (M1 : Mem) (hs : set ≤ 2 ^ k) (hF : ∀ a, a ≠ 50 → a ≠ 51 → M1 a = M a), 2 ^ k - set < n9 → WP sc0 5 m_X0_leastTally 8 [vR 49, vR t, vI ((b : Nat) : Int), vI ((lss n k sz ce b set : Nat) : Int), vI ((set : Nat) : Int), vU, vU] [] M1 (fun z M' => z = some (vI (lss n k sz ce b (2 ^ k) : Nat)) ∧ ∀ a, a ≠ 50 → a ≠ 51 → M' a = M a) := by
    intro n9
    induction n9 with
    | zero =>
      intro set M1 hs hF hm9
      exact absurd hm9 (Nat.not_lt_zero _)
    | succ n9 ih8 =>
      intro set M1 hs hF hm9
      have hT1 : TX M1 t n k sz ce := hT.fr (hF t (by omega) (by omega)) (hF (t + 1) (by omega) (by omega)) (hF (t + 2) (by omega) (by omega))
      have hgl := lss_le (n := n) (k := k) (t := b) (sz := sz) (ce := ce) set
      refine WP.iload dX0_leastTally_8 rfl ?_
      refine WP.iconst dX0_leastTally_10 ?_
      refine WP.aload_n dX0_leastTally_11 rfl ?_
      refine WP.getI (x := ((k : Nat) : Int)) dX0_leastTally_12 fl_X0_42 (shT0 ht) (by decide) (hT1.2.1) ?_
      refine WP.ishl (z := ((2 ^ k : Nat) : Int)) dX0_leastTally_15 (shl_ok k (by omega)) ?_
      refine WP.icmp_ge (tgt := 86) dX0_leastTally_16 (by decide) (by omega) (by omega) (fun h16 => ?_) (fun h16 => ?_)
      · skip
        refine WP.iload_n dX0_leastTally_86 rfl ?_
        refine WP.iret dX0_leastTally_87 rfl ?_
        rw [show set = 2 ^ k by omega]
        exact ⟨rfl, hF⟩
      · skip
        have hpp : popn 12 set ≤ 12 := by rw [popn_cn]; exact cn_le _ _
        refine WP.iload dX0_leastTally_19 rfl ?_
        refine WP.callSp (as := [vI ((set : Nat) : Int)]) dX0_leastTally_21 ms_X0_45 rfl (c_bitCountI (bq_ok set (by omega))) rfl (Nat.le_of_ble_eq_true rfl) (by omega) ?_
        refine WP.iload_n dX0_leastTally_24 rfl ?_
        refine WP.icmp_ne (tgt := 80) dX0_leastTally_25 (by decide) (by omega) (by omega) (fun h25 => ?_) (fun h25 => ?_)
        · skip
          refine WP.iinc (lt := [vR 49, vR t, vI ((b : Nat) : Int), vI ((lss n k sz ce b set : Nat) : Int), vI (((set : Nat) : Int) + 1), vU, vU]) dX0_leastTally_80 rfl (by decide) rfl ?_
          refine WP.goto (tgt := 8) dX0_leastTally_83 (by decide) ?_
          refine WP.fgt (lt := [vR 49, vR t, vI ((b : Nat) : Int), vI ((lss n k sz ce b (set + 1) : Nat) : Int), vI (((set + 1) : Nat) : Int), vU, vU]) ⟨Or.inr rfl, Or.inr rfl, Or.inr rfl, Or.inr (congrArg vI (by rw [lss, cif_f (fun z => h25 (by rw [z]))])), Or.inr (congrArg vI (by omega)), Or.inl rfl, Or.inl rfl, trivial⟩ ?_
          exact ih8 (set + 1) (M1) (by omega) (hF) (by omega)
        · skip
          refine WP.aload_n dX0_leastTally_28 rfl ?_
          refine WP.iload dX0_leastTally_29 rfl ?_
          refine WP.callVp (as := [vI ((set : Nat) : Int)]) dX0_leastTally_31 mv_X0_24 rfl (shT0 ht) (by decide) rfl rfl (c_T_tuples (set := set) ht hT1 hW (by omega)) rfl (Nat.le_of_ble_eq_true rfl) (by omega) ?_
          have hTb := tps_b (sz := sz) (set := set) b2 (fun c hc => (hW.2.2.1 c hc).2)
          refine WP.aload_n dX0_leastTally_34 rfl ?_
          refine WP.getI (x := ((n : Nat) : Int)) dX0_leastTally_35 fl_X0_34 (shT0 ht) (by decide) (hT1.1) ?_
          refine WP.icmp_le (tgt := 43) dX0_leastTally_38 (by decide) (by omega) (by omega) (fun h38 => ?_) (fun h38 => ?_)
          · skip
            refine WP.aload_n dX0_leastTally_43 rfl ?_
            refine WP.aload_n dX0_leastTally_44 rfl ?_
            refine WP.iload dX0_leastTally_45 rfl ?_
            refine WP.callV (as := [vR t, vI ((set : Nat) : Int)]) dX0_leastTally_47 mv_X0_61 rfl (rfl) (by decide) rfl rfl (c_C_tally (set := set) ht hT1 hW (by omega)) rfl (Nat.le_of_ble_eq_true rfl) (by omega) (fun r9 M2 h9 => ?_)
            obtain ⟨u, rfl, hu, e1, ⟨f, e2, e3, e4⟩, e5⟩ := h9
            obtain ⟨e6, e7⟩ := e5 (by omega)
            show WP sc0 5 m_X0_leastTally 50 [vR 49, vR t, vI ((b : Nat) : Int), vI ((lss n k sz ce b set : Nat) : Int), vI ((set : Nat) : Int), vU, vU] [vI ((u : Nat) : Int)] M2 (fun z M' => z = some (vI (lss n k sz ce b (2 ^ k) : Nat)) ∧ ∀ a, a ≠ 50 → a ≠ 51 → M' a = M a)
            refine WP.istore (lt := [vR 49, vR t, vI ((b : Nat) : Int), vI ((lss n k sz ce b set : Nat) : Int), vI ((set : Nat) : Int), vI ((u : Nat) : Int), vU]) dX0_leastTally_50 (by decide) rfl ?_
            refine WP.iconst dX0_leastTally_52 ?_
            refine WP.istore (lt := [vR 49, vR t, vI ((b : Nat) : Int), vI ((lss n k sz ce b set : Nat) : Int), vI ((set : Nat) : Int), vI ((u : Nat) : Int), vI (0 : Int)]) dX0_leastTally_53 (by decide) rfl ?_
            have L55 : ∀ (n9 : Nat) (i : Nat) (hiu : i ≤ u), u - i < n9 → WP sc0 5 m_X0_leastTally 55 [vR 49, vR t, vI ((b : Nat) : Int), vI ((mnv (ctA n k sz ce set) (lss n k sz ce b set) i : Nat) : Int), vI ((set : Nat) : Int), vI ((u : Nat) : Int), vI ((i : Nat) : Int)] [] M2 (fun z M' => z = some (vI (lss n k sz ce b (2 ^ k) : Nat)) ∧ ∀ a, a ≠ 50 → a ≠ 51 → M' a = M a) := by
              intro n9
              induction n9 with
              | zero =>
                intro i hiu hm9
                exact absurd hm9 (Nat.not_lt_zero _)
              | succ n9 ih55 =>
                intro i hiu hm9
                refine WP.iload dX0_leastTally_55 rfl ?_
                refine WP.iload dX0_leastTally_57 rfl ?_
                refine WP.icmp_ge (tgt := 80) dX0_leastTally_59 (by decide) (by omega) (by omega) (fun h59 => ?_) (fun h59 => ?_)
                · skip
                  refine WP.iinc (lt := [vR 49, vR t, vI ((b : Nat) : Int), vI ((mnv (ctA n k sz ce set) (lss n k sz ce b set) i : Nat) : Int), vI (((set : Nat) : Int) + 1), vI ((u : Nat) : Int), vI ((i : Nat) : Int)]) dX0_leastTally_80 rfl (by decide) rfl ?_
                  refine WP.goto (tgt := 8) dX0_leastTally_83 (by decide) ?_
                  refine WP.fgt (lt := [vR 49, vR t, vI ((b : Nat) : Int), vI ((lss n k sz ce b (set + 1) : Nat) : Int), vI (((set + 1) : Nat) : Int), vU, vU]) ⟨Or.inr rfl, Or.inr rfl, Or.inr rfl, Or.inr (congrArg vI (by rw [lss, cif_t (by omega), mnS, mnv_min hgl, show tps sz set k = i by omega])), Or.inr (congrArg vI (by omega)), Or.inl rfl, Or.inl rfl, trivial⟩ ?_
                  exact ih8 (set + 1) (M2) (by omega) (fun a h1 h2 => (e1 a h1 h2).trans (hF a h1 h2)) (by omega)
                · skip
                  have hfi : ctA n k sz ce set i ≤ n := tc_n
                  have hmx : mnv (ctA n k sz ce set) (lss n k sz ce b set) i ≤ n := Nat.le_trans mnv_lea hgl
                  refine WP.iload_n dX0_leastTally_62 rfl ?_
                  refine WP.aload_n dX0_leastTally_63 rfl ?_
                  refine WP.getR (y := 50) dX0_leastTally_64 fl_X0_9 (rfl) (by decide) (rfl) ?_
                  refine WP.iload dX0_leastTally_67 rfl ?_
                  refine WP.iaload (y := i) (x := ((ctA n k sz ce set i : Nat) : Int)) dX0_leastTally_69 (rfl) (by omega) (by omega) (e7 i (by omega)) ?_
                  refine WP.mmin (a := mnv (ctA n k sz ce set) (lss n k sz ce b set) i) (b := ctA n k sz ce set i) dX0_leastTally_70 w_ml_X0_70 (by omega) (by omega) (by omega) (Nat.le_of_ble_eq_true rfl) ?_
                  refine WP.istore_n (lt := [vR 49, vR t, vI ((b : Nat) : Int), vI ((Nat.min (mnv (ctA n k sz ce set) (lss n k sz ce b set) i) (ctA n k sz ce set i) : Nat) : Int), vI ((set : Nat) : Int), vI ((u : Nat) : Int), vI ((i : Nat) : Int)]) dX0_leastTally_73 (by decide) rfl ?_
                  refine WP.iinc (lt := [vR 49, vR t, vI ((b : Nat) : Int), vI ((Nat.min (mnv (ctA n k sz ce set) (lss n k sz ce b set) i) (ctA n k sz ce set i) : Nat) : Int), vI ((set : Nat) : Int), vI ((u : Nat) : Int), vI (((i : Nat) : Int) + 1)]) dX0_leastTally_74 rfl (by decide) rfl ?_
                  refine WP.goto (tgt := 55) dX0_leastTally_77 (by decide) ?_
                  refine WP.fgt (lt := [vR 49, vR t, vI ((b : Nat) : Int), vI ((mnv (ctA n k sz ce set) (lss n k sz ce b set) (i + 1) : Nat) : Int), vI ((set : Nat) : Int), vI ((u : Nat) : Int), vI (((i + 1) : Nat) : Int)]) ⟨Or.inr rfl, Or.inr rfl, Or.inr rfl, Or.inr (congrArg vI (rfl)), Or.inr rfl, Or.inr rfl, Or.inr (congrArg vI (by omega)), trivial⟩ ?_
                  exact ih55 (i + 1) (by omega) (by omega)
            refine WP.fgt (lt := [vR 49, vR t, vI ((b : Nat) : Int), vI ((mnv (ctA n k sz ce set) (lss n k sz ce b set) 0 : Nat) : Int), vI ((set : Nat) : Int), vI ((u : Nat) : Int), vI ((0 : Nat) : Int)]) ⟨Or.inr rfl, Or.inr rfl, Or.inr rfl, Or.inr (congrArg vI (rfl)), Or.inr rfl, Or.inr rfl, Or.inr (congrArg vI (by omega)), trivial⟩ ?_
            exact L55 _ (0) (Nat.zero_le _) (Nat.lt_succ_self _)
          · skip
            refine WP.iconst dX0_leastTally_41 ?_
            refine WP.iret dX0_leastTally_42 rfl ?_
            refine ⟨congrArg some (congrArg vI (show (0 : Int) = ((lss n k sz ce b (2 ^ k) : Nat) : Int) from ?_)), hF⟩
            have h1 := lss_mono (n := n) (k := k) (t := b) (sz := sz) (ce := ce) (m := 2 ^ k) (s := set + 1) (by omega)
            have h2 : lss n k sz ce b (set + 1) = 0 := by
              rw [lss, cif_t (by omega), mnS_0 hW (by omega)]
              exact Nat.min_eq_right (Nat.zero_le _)
            omega
  refine WP.fgt (lt := [vR 49, vR t, vI ((b : Nat) : Int), vI ((lss n k sz ce b 0 : Nat) : Int), vI ((0 : Nat) : Int), vU, vU]) ⟨Or.inr rfl, Or.inr rfl, Or.inr rfl, Or.inr (congrArg vI (rfl)), Or.inr (congrArg vI (by omega)), Or.inl rfl, Or.inl rfl, trivial⟩ ?_
  exact L8 _ (0) (M) (Nat.zero_le _) (fun _ _ _ => rfl) (Nat.lt_succ_self _)
set_option maxHeartbeats 4000000 in
set_option maxRecDepth 20000 in
theorem c_C_spare {M : Mem} {t n k : Nat} {sz : Nat → Nat} {ce : Nat → Nat → Nat} {b : Nat} (ht : isT t) (hT : TX M t n k sz ce) (hW : Wf n k sz ce) (hb7 : b ≤ 12) (hn12 : n ≤ 12) : CT 5 m_X0_sparedRows [vR 49, vR t, vI ((b : Nat) : Int)] M (fun z M' => z = some (vI (cif (okT n k sz ce b aT) (spb n k sz ce b (2 ^ n - 1) : Nat) (-9))) ∧ ∀ a, a ≠ 50 → M' a = M a) := by
  have b1 := hW.1
  have b2 := hW.2.1
  have ht2 := ht.2
  have hp128 := pw7 b2
  have hm : 2 ^ n - 1 < 2 ^ 36 := by have : 2 ^ n ≤ 2 ^ 36 := Nat.pow_le_pow_right (by decide) b1; omega
  have hb : lq (Int64.ofNat (2 ^ n - 1)) = ((cn (mk (2 ^ n - 1)) n : Nat) : Int) := by rw [cn_all]; exact lq_all n (by omega)
  have hp4 : 2 ^ n ≤ 4096 := Nat.pow_le_pow_right (n := 2) (by decide) hn12
  refine CT.ofWP (by decide +kernel) (Nat.le_of_ble_eq_true rfl) ?_
  show WP sc0 5 m_X0_sparedRows 0 [vR 49, vR t, vI ((b : Nat) : Int), vU, vU, vU, vU, vU] [] M (fun z M' => z = some (vI (cif (okT n k sz ce b aT) (spb n k sz ce b (2 ^ n - 1) : Nat) (-9))) ∧ ∀ a, a ≠ 50 → M' a = M a)
  refine WP.aload_n dX0_sparedRows_0 rfl ?_
  refine WP.callVp (as := []) dX0_sparedRows_1 mv_X0_53 rfl (shT0 ht) (by decide) rfl rfl (c_T_allRows ht hT hW) rfl (Nat.le_of_ble_eq_true rfl) (by omega) ?_
  refine WP.l2i (z := ((2 ^ n - 1 : Nat) : Int)) dX0_sparedRows_4 (l2i_ok n (by omega)) ?_
  refine WP.istore_n (lt := [vR 49, vR t, vI ((b : Nat) : Int), vI ((2 ^ n - 1 : Nat) : Int), vU, vU, vU, vU]) dX0_sparedRows_5 (by decide) rfl ?_
  refine WP.aload_n dX0_sparedRows_6 rfl ?_
  refine WP.aload_n dX0_sparedRows_7 rfl ?_
  refine WP.iload_n dX0_sparedRows_8 rfl ?_
  refine WP.iload_n dX0_sparedRows_9 rfl ?_
  refine WP.i2l (z := (Int64.ofNat (2 ^ n - 1))) dX0_sparedRows_10 (i2l_ok (by omega)) ?_
  refine WP.callV (as := [vR t, vI ((b : Nat) : Int), vL (Int64.ofNat (2 ^ n - 1))]) dX0_sparedRows_11 mv_X0_57 rfl (rfl) (by decide) rfl rfl (c_C_first (b := b) (m := 2 ^ n - 1) ht hT hW hb7 hm hb) rfl (Nat.le_of_ble_eq_true rfl) (by omega) (fun r9 M0 h9 => ?_)
  obtain ⟨rfl, e1⟩ := h9
  have hfr := fub_rng (n := n) (sz := sz) (ce := ce) (t := b) (P := mk (2 ^ n - 1)) b2
  have hfc : okT n k sz ce b (mk (2 ^ n - 1)) ↔ okT n k sz ce b aT := okT_cg (fun r hr => mk_aT hr)
  show WP sc0 5 m_X0_sparedRows 14 [vR 49, vR t, vI ((b : Nat) : Int), vI ((2 ^ n - 1 : Nat) : Int), vU, vU, vU, vU] [vI (fub n k sz ce b (mk (2 ^ n - 1)))] M0 (fun z M' => z = some (vI (cif (okT n k sz ce b aT) (spb n k sz ce b (2 ^ n - 1) : Nat) (-9))) ∧ ∀ a, a ≠ 50 → M' a = M a)
  refine WP.bipush dX0_sparedRows_14 (by decide) ?_
  refine WP.icmp_eq (tgt := 22) dX0_sparedRows_16 (by decide) (by omega) (by omega) (fun h16 => ?_) (fun h16 => ?_)
  · skip
    refine WP.iconst dX0_sparedRows_22 ?_
    refine WP.istore (lt := [vR 49, vR t, vI ((b : Nat) : Int), vI ((2 ^ n - 1 : Nat) : Int), vI (0 : Int), vU, vU, vU]) dX0_sparedRows_23 (by decide) rfl ?_
    refine WP.iconst dX0_sparedRows_25 ?_
    refine WP.istore (lt := [vR 49, vR t, vI ((b : Nat) : Int), vI ((2 ^ n - 1 : Nat) : Int), vI (0 : Int), vI (0 : Int), vU, vU]) dX0_sparedRows_26 (by decide) rfl ?_
    refine WP.iconst dX0_sparedRows_28 ?_
    refine WP.istore (lt := [vR 49, vR t, vI ((b : Nat) : Int), vI ((2 ^ n - 1 : Nat) : Int), vI (0 : Int), vI (0 : Int), vI (1 : Int), vU]) dX0_sparedRows_29 (by decide) rfl ?_
    have L31 : ∀ (n9 : Nat) (s : Nat) (M1 : Mem) (hs : (1 ≤ s ∧ s ≤ 2 ^ n - 1) ∨ (s = 1 ∧ 2 ^ n - 1 = 0)) (hF : ∀ a, a ≠ 50 → M1 a = M a), 2 ^ n - s < n9 → WP sc0 5 m_X0_sparedRows 31 [vR 49, vR t, vI ((b : Nat) : Int), vI ((2 ^ n - 1 : Nat) : Int), vI ((spb n k sz ce b s : Nat) : Int), vI ((popn 12 (spb n k sz ce b s) : Nat) : Int), vI ((s : Nat) : Int), vU] [] M1 (fun z M' => z = some (vI (cif (okT n k sz ce b aT) (spb n k sz ce b (2 ^ n - 1) : Nat) (-9))) ∧ ∀ a, a ≠ 50 → M' a = M a) := by
      intro n9
      induction n9 with
      | zero =>
        intro s M1 hs hF hm9
        exact absurd hm9 (Nat.not_lt_zero _)
      | succ n9 ih31 =>
        intro s M1 hs hF hm9
        have hT1 : TX M1 t n k sz ce := hT.fr (hF t (by omega)) (hF (t + 1) (by omega)) (hF (t + 2) (by omega))
        have hgl := spb_le (n := n) (k := k) (t := b) (sz := sz) (ce := ce) s
        refine WP.iload dX0_sparedRows_31 rfl ?_
        refine WP.iload_n dX0_sparedRows_33 rfl ?_
        refine WP.icmp_ge (tgt := 83) dX0_sparedRows_34 (by decide) (by omega) (by omega) (fun h34 => ?_) (fun h34 => ?_)
        · skip
          refine WP.iload dX0_sparedRows_83 rfl ?_
          refine WP.iret dX0_sparedRows_85 rfl ?_
          refine ⟨congrArg some (congrArg vI ?_), hF⟩
          rw [cif_t (hfc.mp (fub_9.mp (by omega)))]
          rcases hs with q | q
          · rw [show s = 2 ^ n - 1 by omega]
          · rw [q.2, q.1, spb_1]
            rfl
        · skip
          have hsl : 1 ≤ s ∧ s < 2 ^ n - 1 := by omega
          have hpp : popn 12 s ≤ 12 := by rw [popn_cn]; exact cn_le _ _
          have hpq : popn 12 (spb n k sz ce b s) ≤ 12 := by rw [popn_cn]; exact cn_le _ _
          refine WP.iload dX0_sparedRows_37 rfl ?_
          refine WP.callSp (as := [vI ((s : Nat) : Int)]) dX0_sparedRows_39 ms_X0_45 rfl (c_bitCountI (bq_ok s (by omega))) rfl (Nat.le_of_ble_eq_true rfl) (by omega) ?_
          refine WP.istore (lt := [vR 49, vR t, vI ((b : Nat) : Int), vI ((2 ^ n - 1 : Nat) : Int), vI ((spb n k sz ce b s : Nat) : Int), vI ((popn 12 (spb n k sz ce b s) : Nat) : Int), vI ((s : Nat) : Int), vI ((popn 12 s : Nat) : Int)]) dX0_sparedRows_42 (by decide) rfl ?_
          refine WP.iload dX0_sparedRows_44 rfl ?_
          refine WP.iload dX0_sparedRows_46 rfl ?_
          refine WP.icmp_le (tgt := 77) dX0_sparedRows_48 (by decide) (by omega) (by omega) (fun h48 => ?_) (fun h48 => ?_)
          · skip
            refine WP.iinc (lt := [vR 49, vR t, vI ((b : Nat) : Int), vI ((2 ^ n - 1 : Nat) : Int), vI ((spb n k sz ce b s : Nat) : Int), vI ((popn 12 (spb n k sz ce b s) : Nat) : Int), vI (((s : Nat) : Int) + 1), vI ((popn 12 s : Nat) : Int)]) dX0_sparedRows_77 rfl (by decide) rfl ?_
            refine WP.goto (tgt := 31) dX0_sparedRows_80 (by decide) ?_
            refine WP.fgt (lt := [vR 49, vR t, vI ((b : Nat) : Int), vI ((2 ^ n - 1 : Nat) : Int), vI ((spb n k sz ce b (s + 1) : Nat) : Int), vI ((popn 12 (spb n k sz ce b (s + 1)) : Nat) : Int), vI (((s + 1) : Nat) : Int), vU]) ⟨Or.inr rfl, Or.inr rfl, Or.inr rfl, Or.inr rfl, Or.inr (congrArg vI (by rw [spb, cif_f (fun z => by have := z.2.1; omega)])), Or.inr (congrArg vI (by rw [spb, cif_f (fun z => by have := z.2.1; omega)])), Or.inr (congrArg vI (by omega)), Or.inl rfl, trivial⟩ ?_
            exact ih31 (s + 1) (M1) (by omega) (hF) (by omega)
          · skip
            refine WP.aload_n dX0_sparedRows_51 rfl ?_
            refine WP.aload_n dX0_sparedRows_52 rfl ?_
            refine WP.iload_n dX0_sparedRows_53 rfl ?_
            refine WP.iload_n dX0_sparedRows_54 rfl ?_
            refine WP.iload dX0_sparedRows_55 rfl ?_
            refine WP.iconst dX0_sparedRows_57 ?_
            refine WP.ixor (z := ((Int32.ofInt ((s : Nat) : Int) ^^^ Int32.ofInt (-1)).toInt)) dX0_sparedRows_58 ((Int32.ofInt_toInt _).symm) ?_
            refine WP.iand (z := ((2 ^ n - 1 - s : Nat) : Int)) dX0_sparedRows_59 (by rw [Int32.ofInt_toInt]; exact and_not hn12 (by omega)) ?_
            refine WP.i2l (z := (Int64.ofNat (2 ^ n - 1 - s))) dX0_sparedRows_60 (i2l_ok (by omega)) ?_
            refine WP.callV (as := [vR t, vI ((b : Nat) : Int), vL (Int64.ofNat (2 ^ n - 1 - s))]) dX0_sparedRows_61 mv_X0_57 rfl (rfl) (by decide) rfl rfl (c_C_first (b := b) (m := 2 ^ n - 1 - s) ht hT1 hW hb7 (by omega) (by rw [lq_ok _ (by omega), popn_12 hn12 (by omega)])) rfl (Nat.le_of_ble_eq_true rfl) (by omega) (fun r9 M2 h9 => ?_)
            obtain ⟨rfl, e2⟩ := h9
            have hfr2 := fub_rng (n := n) (sz := sz) (ce := ce) (t := b) (P := mk (2 ^ n - 1 - s)) b2
            have hfc2 : okT n k sz ce b (mk (2 ^ n - 1 - s)) ↔ okT n k sz ce b (fun r => ¬ mk s r) := okT_cg (fun r hr => (mk_sub (by omega)).trans ⟨fun z => z.2, fun z => ⟨hr, z⟩⟩)
            show WP sc0 5 m_X0_sparedRows 64 [vR 49, vR t, vI ((b : Nat) : Int), vI ((2 ^ n - 1 : Nat) : Int), vI ((spb n k sz ce b s : Nat) : Int), vI ((popn 12 (spb n k sz ce b s) : Nat) : Int), vI ((s : Nat) : Int), vI ((popn 12 s : Nat) : Int)] [vI (fub n k sz ce b (mk (2 ^ n - 1 - s)))] M2 (fun z M' => z = some (vI (cif (okT n k sz ce b aT) (spb n k sz ce b (2 ^ n - 1) : Nat) (-9))) ∧ ∀ a, a ≠ 50 → M' a = M a)
            refine WP.bipush dX0_sparedRows_64 (by decide) ?_
            refine WP.icmp_ne (tgt := 77) dX0_sparedRows_66 (by decide) (by omega) (by omega) (fun h66 => ?_) (fun h66 => ?_)
            · skip
              refine WP.iinc (lt := [vR 49, vR t, vI ((b : Nat) : Int), vI ((2 ^ n - 1 : Nat) : Int), vI ((spb n k sz ce b s : Nat) : Int), vI ((popn 12 (spb n k sz ce b s) : Nat) : Int), vI (((s : Nat) : Int) + 1), vI ((popn 12 s : Nat) : Int)]) dX0_sparedRows_77 rfl (by decide) rfl ?_
              refine WP.goto (tgt := 31) dX0_sparedRows_80 (by decide) ?_
              refine WP.fgt (lt := [vR 49, vR t, vI ((b : Nat) : Int), vI ((2 ^ n - 1 : Nat) : Int), vI ((spb n k sz ce b (s + 1) : Nat) : Int), vI ((popn 12 (spb n k sz ce b (s + 1)) : Nat) : Int), vI (((s + 1) : Nat) : Int), vU]) ⟨Or.inr rfl, Or.inr rfl, Or.inr rfl, Or.inr rfl, Or.inr (congrArg vI (by rw [spb, cif_f (fun z => h66 (fub_9.mpr (hfc2.mpr z.2.2)))])), Or.inr (congrArg vI (by rw [spb, cif_f (fun z => h66 (fub_9.mpr (hfc2.mpr z.2.2)))])), Or.inr (congrArg vI (by omega)), Or.inl rfl, trivial⟩ ?_
              exact ih31 (s + 1) (M2) (by omega) (fun a h1 => (e2 a h1).trans (hF a h1)) (by omega)
            · skip
              refine WP.iload dX0_sparedRows_69 rfl ?_
              refine WP.istore (lt := [vR 49, vR t, vI ((b : Nat) : Int), vI ((2 ^ n - 1 : Nat) : Int), vI ((s : Nat) : Int), vI ((popn 12 (spb n k sz ce b s) : Nat) : Int), vI ((s : Nat) : Int), vI ((popn 12 s : Nat) : Int)]) dX0_sparedRows_71 (by decide) rfl ?_
              refine WP.iload dX0_sparedRows_73 rfl ?_
              refine WP.istore (lt := [vR 49, vR t, vI ((b : Nat) : Int), vI ((2 ^ n - 1 : Nat) : Int), vI ((s : Nat) : Int), vI ((popn 12 s : Nat) : Int), vI ((s : Nat) : Int), vI ((popn 12 s : Nat) : Int)]) dX0_sparedRows_75 (by decide) rfl ?_
              refine WP.iinc (lt := [vR 49, vR t, vI ((b : Nat) : Int), vI ((2 ^ n - 1 : Nat) : Int), vI ((s : Nat) : Int), vI ((popn 12 s : Nat) : Int), vI (((s : Nat) : Int) + 1), vI ((popn 12 s : Nat) : Int)]) dX0_sparedRows_77 rfl (by decide) rfl ?_
              refine WP.goto (tgt := 31) dX0_sparedRows_80 (by decide) ?_
              refine WP.fgt (lt := [vR 49, vR t, vI ((b : Nat) : Int), vI ((2 ^ n - 1 : Nat) : Int), vI ((spb n k sz ce b (s + 1) : Nat) : Int), vI ((popn 12 (spb n k sz ce b (s + 1)) : Nat) : Int), vI (((s + 1) : Nat) : Int), vU]) ⟨Or.inr rfl, Or.inr rfl, Or.inr rfl, Or.inr rfl, Or.inr (congrArg vI (by rw [spb, cif_t ⟨by omega, by omega, hfc2.mp (fub_9.mp (by omega))⟩])), Or.inr (congrArg vI (by rw [spb, cif_t ⟨by omega, by omega, hfc2.mp (fub_9.mp (by omega))⟩])), Or.inr (congrArg vI (by omega)), Or.inl rfl, trivial⟩ ?_
              exact ih31 (s + 1) (M2) (by omega) (fun a h1 => (e2 a h1).trans (hF a h1)) (by omega)
    refine WP.fgt (lt := [vR 49, vR t, vI ((b : Nat) : Int), vI ((2 ^ n - 1 : Nat) : Int), vI ((spb n k sz ce b 1 : Nat) : Int), vI ((popn 12 (spb n k sz ce b 1) : Nat) : Int), vI ((1 : Nat) : Int), vU]) ⟨Or.inr rfl, Or.inr rfl, Or.inr rfl, Or.inr rfl, Or.inr (congrArg vI (by rw [spb_1]; rfl)), Or.inr (congrArg vI (by rw [spb_1]; rfl)), Or.inr (congrArg vI (by omega)), Or.inl rfl, trivial⟩ ?_
    exact L31 _ (1) (M0) (by omega) (e1) (Nat.lt_succ_self _)
  · skip
    refine WP.bipush dX0_sparedRows_19 (by decide) ?_
    refine WP.iret dX0_sparedRows_21 rfl ?_
    exact ⟨congrArg some (congrArg vI (cif_f (fun z => h16 (fub_9.mpr (hfc.mpr z)))).symm), e1⟩
