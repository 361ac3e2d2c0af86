noncomputable def dcr (ce : Nat → Nat → Nat) (k n i : Nat) : Nat → Nat → Nat := fun p c => if p < i then ce p c else ce (kr ce k n (nk ce k i + (p - i))) c
theorem nk_cn (ce : Nat → Nat → Nat) (k i : Nat) : nk ce k i + cn (isC ce k) i = i := by
  have := cn_not (isC ce k) i
  unfold nk
  omega
theorem nk_dif (ce : Nat → Nat → Nat) (k : Nat) {i n : Nat} (h : i ≤ n) : nk ce k i ≤ nk ce k n ∧ i + (nk ce k n - nk ce k i) ≤ n := by
  have h1 := nk_m ce k h
  have h2 := nk_cn ce k i
  have h3 := nk_cn ce k n
  have h4 := cn_mono (isC ce k) h
  omega
theorem Wf_dcr {n k i : Nat} {sz : Nat → Nat} {ce : Nat → Nat → Nat} (h : Wf n k sz ce) (hi : i ≤ n) : Wf (i + (nk ce k n - nk ce k i)) k sz (dcr ce k n i) := by
  have hd := nk_dif ce k hi
  refine ⟨by have := h.1; omega, h.2.1, h.2.2.1, fun r hr c hc => ?_⟩
  unfold dcr
  split
  · exact h.2.2.2 r (by omega) c hc
  · exact h.2.2.2 _ (kr_lt ce k n _ (by omega)) c hc
theorem isC_dcr {ce : Nat → Nat → Nat} {k n i : Nat} : isC (dcr ce k n (i + 1)) k i ↔ isC ce k i := by
  unfold isC
  have h : ∀ q, q < i → ord (dcr ce k n (i + 1)) q i k = ord ce q i k := fun q hq => ord_cg (fun c _ => if_pos (by omega)) (fun c _ => if_pos (by omega))
  exact ⟨fun ⟨q, q1, q2⟩ => ⟨q, q1, by rw [← h q q1]; exact q2⟩, fun ⟨q, q1, q2⟩ => ⟨q, q1, by rw [h q q1]; exact q2⟩⟩
theorem dcr_c {ce : Nat → Nat → Nat} {k n i p c : Nat} (h : isC ce k i) : (if p < i then dcr ce k n (i + 1) p c else dcr ce k n (i + 1) (p + 1) c) = dcr ce k n i p c := by
  unfold dcr
  rw [nk_c h]
  by_cases e : p < i
  · rw [if_pos e, if_pos (by omega), if_pos e]
  · rw [if_neg e, if_neg (by omega), if_neg e, show p + 1 - (i + 1) = p - i by omega]
theorem dcr_n {ce : Nat → Nat → Nat} {k n i p c : Nat} (h : ¬ isC ce k i) (hi : i < n) : dcr ce k n (i + 1) p c = dcr ce k n i p c := by
  unfold dcr
  rw [nk_n h]
  by_cases e : p < i
  · rw [if_pos (by omega), if_pos e]
  · by_cases e2 : p = i
    · rw [if_pos (by omega), if_neg e, e2, Nat.sub_self, Nat.add_zero, kr_at ce k i h n hi]
    · rw [if_neg (by omega), if_neg e, show nk ce k i + 1 + (p - (i + 1)) = nk ce k i + (p - i) by omega]
set_option maxHeartbeats 4000000 in
set_option maxRecDepth 20000 in
theorem y_dropCopies {M : Mem} {n k h len : Nat} {sz tx : Nat → Nat} {ce : Nat → Nat → Nat} {hs : Nat → AR} {im : Nat → Option AR} (hV : InvM M (mkS n k sz ce h hs im len tx))  : CT 40 m_X8_dropCopies [vR 167] M (PM M (o_dropCopies (mkS n k sz ce h hs im len tx) )) := by
  have hA : BX (M 168) n k sz ce := hV.1.1
  have hW : Wf n k sz ce := hV.1.2
  have hH : HM M h hs := hV.2.1
  have hIM : IMm M im := hV.2.2.1
  have hS : SM M len tx := hV.2.2.2
  have b1 := hW.1
  have b2 := hW.2.1
  have hh8 := hH.1
  have hl3 := hS.1
  refine CT.ofWP (by decide +kernel) (Nat.le_of_ble_eq_true rfl) ?_
  show WP sc0 40 m_X8_dropCopies 0 [vR 167, vU, vU] [] M (PM M (o_dropCopies (mkS n k sz ce h hs im len tx) ))
  refine WP.aload_n dX8_dropCopies_0 rfl ?_
  refine WP.callV (as := []) dX8_dropCopies_1 mv_X8_51 rfl (rfl) (by decide) rfl rfl (w_remember (A := (n, k, sz, ce)) hH hV.1) rfl (Nat.le_of_ble_eq_true rfl) (by omega) (fun r9 M1 h9 => ?_)
  obtain ⟨rfl, hR1⟩ := h9
  have hA1 : BX (M1 168) n k sz ce := by rw [hR1.1 168 (by decide) (by decide)]; exact hA
  show WP sc0 40 m_X8_dropCopies 4 [vR 167, vU, vU] [] M1 (PM M (o_dropCopies (mkS n k sz ce h hs im len tx) ))
  refine WP.iconst dX8_dropCopies_4 ?_
  refine WP.istore_n (lt := [vR 167, vI (0 : Int), vU]) dX8_dropCopies_5 (by decide) rfl ?_
  refine WP.aload_n dX8_dropCopies_6 rfl ?_
  refine WP.getR (y := 168) dX8_dropCopies_7 fl_X8_7 (rfl) (by decide) (rfl) ?_
  refine WP.iconst dX8_dropCopies_10 ?_
  refine WP.iaload (y := 0) (x := ((n : Nat) : Int)) dX8_dropCopies_11 (rfl) (by omega) (by omega) (hA1.1) ?_
  refine WP.iconst dX8_dropCopies_12 ?_
  refine WP.isub dX8_dropCopies_13 ?_
  refine WP.istore_n (lt := [vR 167, vI (0 : Int), vI (((n : Nat) : Int) - (1 : Int))]) dX8_dropCopies_14 (by decide) rfl ?_
  have L15 : ∀ (n9 : Nat) (i : Nat) (M2 : Mem) (hi : i ≤ n) (hF2 : ∀ a, a ≠ 168 → M2 a = M1 a) (hA2 : BX (M2 168) (i + (nk ce k n - nk ce k i)) k sz (dcr ce k n i)), i < n9 → WP sc0 40 m_X8_dropCopies 15 [vR 167, vI (((cn (isC ce k) n : Nat) : Int) - ((cn (isC ce k) i : Nat) : Int)), vI (((i : Nat) : Int) - 1)] [] M2 (PM M (o_dropCopies (mkS n k sz ce h hs im len tx) )) := by
    intro n9
    induction n9 with
    | zero =>
      intro i M2 hi hF2 hA2 hm9
      exact absurd hm9 (Nat.not_lt_zero _)
    | succ n9 ih15 =>
      intro i M2 hi hF2 hA2 hm9
      have hnd := nk_dif ce k hi
      have hcm := cn_mono (isC ce k) hi
      have hcl := cn_le (isC ce k) n
      refine WP.iload_n dX8_dropCopies_15 rfl ?_
      refine WP.if_lt (tgt := 41) dX8_dropCopies_16 (by decide) (by omega) (fun h16 => ?_) (fun h16 => ?_)
      · skip
        refine WP.iload_n dX8_dropCopies_41 rfl ?_
        refine WP.iret dX8_dropCopies_42 rfl ?_
        have hi0 : i = 0 := by omega
        subst hi0
        have hz : nk ce k 0 = 0 := rfl
        have hz2 : cn (isC ce k) 0 = 0 := rfl
        have hcn := nk_cn ce k n
        have hA9 : BX (M2 168) (nk ce k n) k sz (fun p c => ce (kr ce k n p) c) := by
          have e9 : 0 + (nk ce k n - nk ce k 0) = nk ce k n := by omega
          rw [e9] at hA2
          exact hA2.cg (fun _ _ => rfl) (fun p hp c hc => by unfold dcr; rw [if_neg (by omega), hz, Nat.zero_add, Nat.sub_zero])
        exact PM.ch (A' := (nk ce k n, k, sz, fun p c => ce (kr ce k n p) c)) (congrArg (fun z => (z, _)) (show ((n : Nat) : Int) - ((nk ce k n : Nat) : Int) = _ by omega)) hV hR1 hF2 hA9 (Wf_cps hW)
      · skip
        obtain ⟨i9, hi9⟩ : ∃ i9, i = i9 + 1 := ⟨i - 1, by omega⟩
        subst hi9
        refine WP.aload_n dX8_dropCopies_19 rfl ?_
        refine WP.iload_n dX8_dropCopies_20 rfl ?_
        refine WP.eqs (st' := [vI ((i9 : Nat) : Int), vR 167]) rfl (lc (congrArg vI (by omega)) (rfl)) ?_
        refine WP.callVp (as := [vI ((i9 : Nat) : Int)]) dX8_dropCopies_21 mv_X8_86 rfl (rfl) (by decide) rfl rfl (w_isCopy (r := i9) hA2 (Wf_dcr hW hi) (by omega)) rfl (Nat.le_of_ble_eq_true rfl) (by omega) ?_
        refine WP.if_eq (tgt := 35) dX8_dropCopies_24 (by decide) (bi_rng) (fun h24 => ?_) (fun h24 => ?_)
        · skip
          have q24 : ¬ isC ce k i9 := fun z => bi_0 h24 (isC_dcr.mpr z)
          have q25 := cn_f (p := isC ce k) q24
          have hA9 : BX (M2 168) (i9 + (nk ce k n - nk ce k i9)) k sz (dcr ce k n i9) := by
            have e9 : i9 + 1 + (nk ce k n - nk ce k (i9 + 1)) = i9 + (nk ce k n - nk ce k i9) := by
              have := nk_n q24
              omega
            rw [← e9]
            exact hA2.cg (fun _ _ => rfl) (fun p hp c hc => dcr_n q24 (by omega))
          refine WP.iinc (lt := [vR 167, vI (((cn (isC ce k) n : Nat) : Int) - ((cn (isC ce k) (i9 + 1) : Nat) : Int)), vI (((((i9 + 1) : Nat) : Int) - 1) + (-1))]) dX8_dropCopies_35 rfl (by decide) rfl ?_
          refine WP.goto (tgt := 15) dX8_dropCopies_38 (by decide) ?_
          refine WP.fgt (lt := [vR 167, vI (((cn (isC ce k) n : Nat) : Int) - ((cn (isC ce k) i9 : Nat) : Int)), vI (((i9 : Nat) : Int) - 1)]) ⟨Or.inr rfl, Or.inr (congrArg vI (by omega)), Or.inr (congrArg vI (by omega)), trivial⟩ ?_
          exact ih15 (i9) (M2) (by omega) (hF2) (hA9) (by omega)
        · skip
          have q24 : isC ce k i9 := isC_dcr.mp (bi_1 h24)
          have q25 := cn_t (p := isC ce k) q24
          refine WP.aload_n dX8_dropCopies_27 rfl ?_
          refine WP.iload_n dX8_dropCopies_28 rfl ?_
          refine WP.eqs (st' := [vI ((i9 : Nat) : Int), vR 167]) rfl (lc (congrArg vI (by omega)) (rfl)) ?_
          refine WP.callV (as := [vI ((i9 : Nat) : Int)]) dX8_dropCopies_29 mv_X8_80 rfl (rfl) (by decide) rfl rfl (w_takeRowOut (r := i9) hA2 (Wf_dcr hW hi) (by omega)) rfl (Nat.le_of_ble_eq_true rfl) (by omega) (fun r9 M3 h9 => ?_)
          obtain ⟨rfl, f3, g3⟩ := h9
          have hA9 : BX (M3 168) (i9 + (nk ce k n - nk ce k i9)) k sz (dcr ce k n i9) := by
            have e9 : i9 + 1 + (nk ce k n - nk ce k (i9 + 1)) - 1 = i9 + (nk ce k n - nk ce k i9) := by
              have := nk_c q24
              omega
            rw [← e9]
            exact g3.cg (fun _ _ => rfl) (fun p hp c hc => dcr_c q24)
          show WP sc0 40 m_X8_dropCopies 32 [vR 167, vI (((cn (isC ce k) n : Nat) : Int) - ((cn (isC ce k) (i9 + 1) : Nat) : Int)), vI ((((i9 + 1) : Nat) : Int) - 1)] [] M3 (PM M (o_dropCopies (mkS n k sz ce h hs im len tx) ))
          refine WP.iinc (lt := [vR 167, vI ((((cn (isC ce k) n : Nat) : Int) - ((cn (isC ce k) (i9 + 1) : Nat) : Int)) + 1), vI ((((i9 + 1) : Nat) : Int) - 1)]) dX8_dropCopies_32 rfl (by decide) rfl ?_
          refine WP.iinc (lt := [vR 167, vI ((((cn (isC ce k) n : Nat) : Int) - ((cn (isC ce k) (i9 + 1) : Nat) : Int)) + 1), vI (((((i9 + 1) : Nat) : Int) - 1) + (-1))]) dX8_dropCopies_35 rfl (by decide) rfl ?_
          refine WP.goto (tgt := 15) dX8_dropCopies_38 (by decide) ?_
          refine WP.fgt (lt := [vR 167, vI (((cn (isC ce k) n : Nat) : Int) - ((cn (isC ce k) i9 : Nat) : Int)), vI (((i9 : Nat) : Int) - 1)]) ⟨Or.inr rfl, Or.inr (congrArg vI (by omega)), Or.inr (congrArg vI (by omega)), trivial⟩ ?_
          exact ih15 (i9) (M3) (by omega) (fun a ha => (f3 a ha).trans (hF2 a ha)) (hA9) (by omega)
  refine WP.fgt (lt := [vR 167, vI (((cn (isC ce k) n : Nat) : Int) - ((cn (isC ce k) n : Nat) : Int)), vI (((n : Nat) : Int) - 1)]) ⟨Or.inr rfl, Or.inr (congrArg vI (by omega)), Or.inr (congrArg vI (by omega)), trivial⟩ ?_
  exact L15 _ (n) (M1) (Nat.le_refl _) (fun _ _ => rfl) ((show n = n + (nk ce k n - nk ce k n) by omega) ▸ hA1.cg (fun _ _ => rfl) (fun r hr c hc => (if_pos (by omega)).symm)) (Nat.lt_succ_self _)
set_option maxHeartbeats 4000000 in
set_option maxRecDepth 20000 in
theorem w_exchange {M : Mem} {n k : Nat} {sz : Nat → Nat} {ce : Nat → Nat → Nat} {r q : Nat} (hA : BX (M 168) n k sz ce) (hW : Wf n k sz ce) (hr : r < n) (hq : q < n) (hrq : r ≠ q) : CT 2 m_X8_exchange [vR 167, vI ((r : Nat) : Int), vI ((q : Nat) : Int)] M (fun z M' => z = none ∧ (∀ a, a ≠ 168 → M' a = M a) ∧ BX (M' 168) n k sz (swp ce r q)) := by
  have b1 := hW.1
  have b2 := hW.2.1
  refine CT.ofWP (by decide +kernel) (Nat.le_of_ble_eq_true rfl) ?_
  show WP sc0 2 m_X8_exchange 0 [vR 167, vI ((r : Nat) : Int), vI ((q : Nat) : Int), vU, vU] [] M (fun z M' => z = none ∧ (∀ a, a ≠ 168 → M' a = M a) ∧ BX (M' 168) n k sz (swp ce r q))
  refine WP.iconst dX8_exchange_0 ?_
  refine WP.istore_n (lt := [vR 167, vI ((r : Nat) : Int), vI ((q : Nat) : Int), vI (0 : Int), vU]) dX8_exchange_1 (by decide) rfl ?_
  have L2 : ∀ (n9 : Nat) (c : Nat) (M1 : Mem) (hc : c ≤ k) (hF : ∀ a, a ≠ 168 → M1 a = M a) (hB1 : ∀ j, j < 9 → M1 168 j = M 168 j) (hC1 : ∀ p, p < n → ∀ b, b < k → M1 168 (9 + 7 * p + b) = (((if b < c then swp ce r q p b else ce p b) : Nat) : Int)), k - c < n9 → WP sc0 2 m_X8_exchange 2 [vR 167, vI ((r : Nat) : Int), vI ((q : Nat) : Int), vI ((c : Nat) : Int), vU] [] M1 (fun z M' => z = none ∧ (∀ a, a ≠ 168 → M' a = M a) ∧ BX (M' 168) n k sz (swp ce r q)) := by
    intro n9
    induction n9 with
    | zero =>
      intro c M1 hc hF hB1 hC1 hm9
      exact absurd hm9 (Nat.not_lt_zero _)
    | succ n9 ih2 =>
      intro c M1 hc hF hB1 hC1 hm9
      refine WP.iload_n dX8_exchange_2 rfl ?_
      refine WP.aload_n dX8_exchange_3 rfl ?_
      refine WP.getR (y := 168) dX8_exchange_4 fl_X8_7 (rfl) (by decide) (rfl) ?_
      refine WP.iconst dX8_exchange_7 ?_
      refine WP.iaload (y := 1) (x := ((k : Nat) : Int)) dX8_exchange_8 (rfl) (by omega) (by omega) (by rw [hB1 1 (by omega)]; exact hA.2.1) ?_
      refine WP.icmp_ge (tgt := 46) dX8_exchange_9 (by decide) (by omega) (by omega) (fun h9 => ?_) (fun h9 => ?_)
      · skip
        refine WP.vret dX8_exchange_46 rfl ?_
        exact ⟨rfl, hF, by rw [hB1 0 (by omega)]; exact hA.1, by rw [hB1 1 (by omega)]; exact hA.2.1, fun b hb => by rw [hB1 _ (by omega)]; exact hA.2.2.1 b hb, fun p hp b hb => by rw [hC1 p hp b hb, if_pos (by omega)]⟩
      · skip
        refine WP.aload_n dX8_exchange_12 rfl ?_
        refine WP.iload_n dX8_exchange_13 rfl ?_
        refine WP.iload_n dX8_exchange_14 rfl ?_
        refine WP.callVp (as := [vI ((r : Nat) : Int), vI ((c : Nat) : Int)]) dX8_exchange_15 mv_X8_62 rfl (rfl) (by decide) rfl rfl (w_at (r := r) (c := c) (x := ((ce r c : Nat) : Int)) (by omega) (by omega) (by rw [hC1 r (by omega) c (by omega), if_neg (by omega)])) rfl (Nat.le_of_ble_eq_true rfl) (by omega) ?_
        refine WP.istore (lt := [vR 167, vI ((r : Nat) : Int), vI ((q : Nat) : Int), vI ((c : Nat) : Int), vI ((ce r c : Nat) : Int)]) dX8_exchange_18 (by decide) rfl ?_
        refine WP.aload_n dX8_exchange_20 rfl ?_
        refine WP.iload_n dX8_exchange_21 rfl ?_
        refine WP.iload_n dX8_exchange_22 rfl ?_
        refine WP.aload_n dX8_exchange_23 rfl ?_
        refine WP.iload_n dX8_exchange_24 rfl ?_
        refine WP.iload_n dX8_exchange_25 rfl ?_
        refine WP.callVp (as := [vI ((q : Nat) : Int), vI ((c : Nat) : Int)]) dX8_exchange_26 mv_X8_62 rfl (rfl) (by decide) rfl rfl (w_at (r := q) (c := c) (x := ((ce q c : Nat) : Int)) (by omega) (by omega) (by rw [hC1 q (by omega) c (by omega), if_neg (by omega)])) rfl (Nat.le_of_ble_eq_true rfl) (by omega) ?_
        refine WP.callV (as := [vI ((r : Nat) : Int), vI ((c : Nat) : Int), vI ((ce q c : Nat) : Int)]) dX8_exchange_29 mv_X8_58 rfl (rfl) (by decide) rfl rfl (w_set (r := r) (c := c) (by omega) (by omega)) rfl (Nat.le_of_ble_eq_true rfl) (by omega) (fun r9 M2 h9 => ?_)
        obtain ⟨rfl, f2, g2, e2⟩ := h9
        show WP sc0 2 m_X8_exchange 32 [vR 167, vI ((r : Nat) : Int), vI ((q : Nat) : Int), vI ((c : Nat) : Int), vI ((ce r c : Nat) : Int)] [] M2 (fun z M' => z = none ∧ (∀ a, a ≠ 168 → M' a = M a) ∧ BX (M' 168) n k sz (swp ce r q))
        refine WP.aload_n dX8_exchange_32 rfl ?_
        refine WP.iload_n dX8_exchange_33 rfl ?_
        refine WP.iload_n dX8_exchange_34 rfl ?_
        refine WP.iload dX8_exchange_35 rfl ?_
        refine WP.callV (as := [vI ((q : Nat) : Int), vI ((c : Nat) : Int), vI ((ce r c : Nat) : Int)]) dX8_exchange_37 mv_X8_58 rfl (rfl) (by decide) rfl rfl (w_set (r := q) (c := c) (by omega) (by omega)) rfl (Nat.le_of_ble_eq_true rfl) (by omega) (fun r9 M3 h9 => ?_)
        obtain ⟨rfl, f3, g3, e3⟩ := h9
        show WP sc0 2 m_X8_exchange 40 [vR 167, vI ((r : Nat) : Int), vI ((q : Nat) : Int), vI ((c : Nat) : Int), vI ((ce r c : Nat) : Int)] [] M3 (fun z M' => z = none ∧ (∀ a, a ≠ 168 → M' a = M a) ∧ BX (M' 168) n k sz (swp ce r q))
        refine WP.iinc (lt := [vR 167, vI ((r : Nat) : Int), vI ((q : Nat) : Int), vI (((c : Nat) : Int) + 1), vI ((ce r c : Nat) : Int)]) dX8_exchange_40 rfl (by decide) rfl ?_
        refine WP.goto (tgt := 2) dX8_exchange_43 (by decide) ?_
        refine WP.fgt (lt := [vR 167, vI ((r : Nat) : Int), vI ((q : Nat) : Int), vI (((c + 1) : Nat) : Int), vU]) ⟨Or.inr rfl, Or.inr rfl, Or.inr rfl, Or.inr (congrArg vI (by omega)), Or.inl rfl, trivial⟩ ?_
        exact ih2 (c + 1) (M3) (by omega) (fun a ha => by rw [f3 a ha, f2 a ha]; exact hF a ha) (fun j hj => by rw [e3 _ (by omega), e2 _ (by omega)]; exact hB1 j hj) (fun p hp b hb => by
          by_cases e9 : b = c
          · rw [e9, if_pos (by omega)]
            unfold swp
            by_cases e8 : p = q
            · rw [e8, g3, if_neg (fun z => hrq z.symm), if_pos rfl]
            · rw [e3 _ (by omega)]
              by_cases e7 : p = r
              · rw [e7, g2, if_pos rfl]
              · rw [e2 _ (by omega), hC1 p hp c (by omega), if_neg (by omega), if_neg e7, if_neg e8]
          · rw [e3 _ (by omega), e2 _ (by omega), hC1 p hp b hb]
            by_cases e8 : b < c
            · rw [if_pos e8, if_pos (by omega)]
            · rw [if_neg e8, if_neg (by omega)]) (by omega)
  refine WP.fgt (lt := [vR 167, vI ((r : Nat) : Int), vI ((q : Nat) : Int), vI ((0 : Nat) : Int), vU]) ⟨Or.inr rfl, Or.inr rfl, Or.inr rfl, Or.inr (congrArg vI (by omega)), Or.inl rfl, trivial⟩ ?_
  exact L2 _ (0) (M) (Nat.zero_le _) (fun _ _ => rfl) (fun _ _ => rfl) (fun p hp b hb => by rw [if_neg (Nat.not_lt_zero b)]; exact hA.2.2.2 p hp b hb) (Nat.lt_succ_self _)
set_option maxHeartbeats 4000000 in
set_option maxRecDepth 20000 in
theorem y_sort {M : Mem} {n k h len : Nat} {sz tx : Nat → Nat} {ce : Nat → Nat → Nat} {hs : Nat → AR} {im : Nat → Option AR} (hV : InvM M (mkS n k sz ce h hs im len tx))  : CT 40 m_X8_sort [vR 167] M (PM M (o_sort (mkS n k sz ce h hs im len tx) )) := by
  have hA : BX (M 168) n k sz ce := hV.1.1
  have hW : Wf n k sz ce := hV.1.2
  have hH : HM M h hs := hV.2.1
  have hIM : IMm M im := hV.2.2.1
  have hS : SM M len tx := hV.2.2.2
  have b1 := hW.1
  have b2 := hW.2.1
  have hh8 := hH.1
  have hl3 := hS.1
  refine CT.ofWP (by decide +kernel) (Nat.le_of_ble_eq_true rfl) ?_
  show WP sc0 40 m_X8_sort 0 [vR 167, vU, vU, vU] [] M (PM M (o_sort (mkS n k sz ce h hs im len tx) ))
  refine WP.aload_n dX8_sort_0 rfl ?_
  refine WP.callV (as := []) dX8_sort_1 mv_X8_51 rfl (rfl) (by decide) rfl rfl (w_remember (A := (n, k, sz, ce)) hH hV.1) rfl (Nat.le_of_ble_eq_true rfl) (by omega) (fun r9 M1 h9 => ?_)
  obtain ⟨rfl, hR1⟩ := h9
  have hA1 : BX (M1 168) n k sz ce := by rw [hR1.1 168 (by decide) (by decide)]; exact hA
  show WP sc0 40 m_X8_sort 4 [vR 167, vU, vU, vU] [] M1 (PM M (o_sort (mkS n k sz ce h hs im len tx) ))
  refine WP.iconst dX8_sort_4 ?_
  refine WP.istore_n (lt := [vR 167, vI (0 : Int), vU, vU]) dX8_sort_5 (by decide) rfl ?_
  refine WP.iconst dX8_sort_6 ?_
  refine WP.istore_n (lt := [vR 167, vI (0 : Int), vI (1 : Int), vU]) dX8_sort_7 (by decide) rfl ?_
  have L8 : ∀ (n9 : Nat) (r : Nat) (M2 : Mem) (hr : (1 ≤ r ∧ r ≤ n) ∨ (r = 1 ∧ n = 0)) (hF2 : ∀ a, a ≠ 168 → M2 a = M1 a) (hA2 : BX (M2 168) n k sz (srt k ce r).1), n + 1 - r < n9 → WP sc0 40 m_X8_sort 8 [vR 167, vI (((srt k ce r).2 : Nat) : Int), vI ((r : Nat) : Int), vU] [] M2 (PM M (o_sort (mkS n k sz ce h hs im len tx) )) := by
    intro n9
    induction n9 with
    | zero =>
      intro r M2 hr hF2 hA2 hm9
      exact absurd hm9 (Nat.not_lt_zero _)
    | succ n9 ih8 =>
      intro r M2 hr hF2 hA2 hm9
      refine WP.iload_n dX8_sort_8 rfl ?_
      refine WP.aload_n dX8_sort_9 rfl ?_
      refine WP.getR (y := 168) dX8_sort_10 fl_X8_7 (rfl) (by decide) (rfl) ?_
      refine WP.iconst dX8_sort_13 ?_
      refine WP.iaload (y := 0) (x := ((n : Nat) : Int)) dX8_sort_14 (rfl) (by omega) (by omega) (hA2.1) ?_
      refine WP.icmp_ge (tgt := 58) dX8_sort_15 (by decide) (by omega) (by omega) (fun h15 => ?_) (fun h15 => ?_)
      · skip
        refine WP.iload_n dX8_sort_58 rfl ?_
        refine WP.iret dX8_sort_59 rfl ?_
        have hz : srt k ce r = srt k ce n ∧ BX (M2 168) n k sz (srt k ce n).1 := by
          rcases hr with hr | ⟨e1, e2⟩
          · have e3 : r = n := by omega
            rw [← e3] at hA2 ⊢
            exact ⟨rfl, hA2⟩
          · subst e1
            subst e2
            exact ⟨rfl, hA2⟩
        rw [hz.1]
        exact PM.ch (A' := (n, k, sz, (srt k ce n).1)) rfl hV hR1 hF2 hz.2 (Wf_srt hW n (Nat.le_refl _))
      · skip
        have hrn : r < n := by omega
        refine WP.iload_n dX8_sort_18 rfl ?_
        refine WP.istore_n (lt := [vR 167, vI (((srt k ce r).2 : Nat) : Int), vI ((r : Nat) : Int), vI ((r : Nat) : Int)]) dX8_sort_19 (by decide) rfl ?_
        have L20 : ∀ (n9 : Nat) (q : Nat) (s : (Nat → Nat → Nat) × Nat) (M3 : Mem) (hq : q ≤ r) (hF3 : ∀ a, a ≠ 168 → M3 a = M1 a) (hA3 : BX (M3 168) n k sz s.1) (hW3 : Wf n k sz s.1) (hs9 : inz k q s = inz k r (srt k ce r)), q < n9 → WP sc0 40 m_X8_sort 20 [vR 167, vI ((s.2 : Nat) : Int), vI ((r : Nat) : Int), vI ((q : Nat) : Int)] [] M3 (PM M (o_sort (mkS n k sz ce h hs im len tx) )) := by
          intro n9
          induction n9 with
          | zero =>
            intro q s M3 hq hF3 hA3 hW3 hs9 hm9
            exact absurd hm9 (Nat.not_lt_zero _)
          | succ n9 ih20 =>
            intro q s M3 hq hF3 hA3 hW3 hs9 hm9
            refine WP.iload_n dX8_sort_20 rfl ?_
            refine WP.if_le (tgt := 52) dX8_sort_21 (by decide) (by omega) (fun h21 => ?_) (fun h21 => ?_)
            · skip
              have e3 : q = 0 := by omega
              have hTe : BX (M3 168) n k sz (inz k q s).1 := by rw [e3]; exact hA3
              have hse : (inz k q s).2 = s.2 := by rw [e3]; rfl
              refine WP.iinc (lt := [vR 167, vI ((s.2 : Nat) : Int), vI (((r : Nat) : Int) + 1), vI ((q : Nat) : Int)]) dX8_sort_52 rfl (by decide) rfl ?_
              refine WP.goto (tgt := 8) dX8_sort_55 (by decide) ?_
              refine WP.fgt (lt := [vR 167, vI (((srt k ce (r + 1)).2 : Nat) : Int), vI (((r + 1) : Nat) : Int), vU]) ⟨Or.inr rfl, Or.inr (congrArg vI (by rw [srt, ← hs9, hse])), Or.inr (congrArg vI (by omega)), Or.inl rfl, trivial⟩ ?_
              exact ih8 (r + 1) (M3) (by omega) (hF3) (by rw [srt, ← hs9]; exact hTe) (by omega)
            · skip
              obtain ⟨q, rfl⟩ : ∃ z, q = z + 1 := ⟨q - 1, by omega⟩
              refine WP.aload_n dX8_sort_24 rfl ?_
              refine WP.iload_n dX8_sort_25 rfl ?_
              refine WP.iconst dX8_sort_26 ?_
              refine WP.isub dX8_sort_27 ?_
              refine WP.iload_n dX8_sort_28 rfl ?_
              refine WP.eqs (st' := [vI ((q + 1 : Nat) : Int), vI ((q : Nat) : Int), vR 167]) rfl (lc (rfl) (lc (congrArg vI (by omega)) (rfl))) ?_
              refine WP.callVp (as := [vI ((q : Nat) : Int), vI ((q + 1 : Nat) : Int)]) dX8_sort_29 mv_X8_83 rfl (rfl) (by decide) rfl rfl (w_order (r := q) (q := q + 1) hA3 hW3 (by omega) (by omega)) rfl (Nat.le_of_ble_eq_true rfl) (by omega) ?_
              refine WP.if_le (tgt := 52) dX8_sort_32 (by decide) (by have := ordv_rng hW3 (r := q) (q := q + 1) (by omega) (by omega) k (Nat.le_refl _); unfold ord; omega) (fun h32 => ?_) (fun h32 => ?_)
              · skip
                have e3 : inz k (q + 1) s = s := by rw [inz, if_neg (by omega)]
                have hTe : BX (M3 168) n k sz (inz k (q + 1) s).1 := by rw [e3]; exact hA3
                have hse : (inz k (q + 1) s).2 = s.2 := by rw [e3]
                refine WP.iinc (lt := [vR 167, vI ((s.2 : Nat) : Int), vI (((r : Nat) : Int) + 1), vI ((q + 1 : Nat) : Int)]) dX8_sort_52 rfl (by decide) rfl ?_
                refine WP.goto (tgt := 8) dX8_sort_55 (by decide) ?_
                refine WP.fgt (lt := [vR 167, vI (((srt k ce (r + 1)).2 : Nat) : Int), vI (((r + 1) : Nat) : Int), vU]) ⟨Or.inr rfl, Or.inr (congrArg vI (by rw [srt, ← hs9, hse])), Or.inr (congrArg vI (by omega)), Or.inl rfl, trivial⟩ ?_
                exact ih8 (r + 1) (M3) (by omega) (hF3) (by rw [srt, ← hs9]; exact hTe) (by omega)
              · skip
                refine WP.aload_n dX8_sort_35 rfl ?_
                refine WP.iload_n dX8_sort_36 rfl ?_
                refine WP.iconst dX8_sort_37 ?_
                refine WP.isub dX8_sort_38 ?_
                refine WP.iload_n dX8_sort_39 rfl ?_
                refine WP.eqs (st' := [vI ((q + 1 : Nat) : Int), vI ((q : Nat) : Int), vR 167]) rfl (lc (rfl) (lc (congrArg vI (by omega)) (rfl))) ?_
                refine WP.callV (as := [vI ((q : Nat) : Int), vI ((q + 1 : Nat) : Int)]) dX8_sort_40 mv_X8_89 rfl (rfl) (by decide) rfl rfl (w_exchange (r := q) (q := q + 1) hA3 hW3 (by omega) (by omega) (by omega)) rfl (Nat.le_of_ble_eq_true rfl) (by omega) (fun r9 M4 h9 => ?_)
                obtain ⟨rfl, g1, g2⟩ := h9
                show WP sc0 40 m_X8_sort 43 [vR 167, vI ((s.2 : Nat) : Int), vI ((r : Nat) : Int), vI ((q + 1 : Nat) : Int)] [] M4 (PM M (o_sort (mkS n k sz ce h hs im len tx) ))
                refine WP.iinc (lt := [vR 167, vI (((s.2 : Nat) : Int) + 1), vI ((r : Nat) : Int), vI ((q + 1 : Nat) : Int)]) dX8_sort_43 rfl (by decide) rfl ?_
                refine WP.iinc (lt := [vR 167, vI (((s.2 : Nat) : Int) + 1), vI ((r : Nat) : Int), vI (((q + 1 : Nat) : Int) + (-1))]) dX8_sort_46 rfl (by decide) rfl ?_
                refine WP.goto (tgt := 20) dX8_sort_49 (by decide) ?_
                refine WP.fgt (lt := [vR 167, vI ((((swp s.1 q (q + 1), s.2 + 1)).2 : Nat) : Int), vI ((r : Nat) : Int), vI ((q : Nat) : Int)]) ⟨Or.inr rfl, Or.inr (congrArg vI (by omega)), Or.inr rfl, Or.inr (congrArg vI (by omega)), trivial⟩ ?_
                exact ih20 (q) ((swp s.1 q (q + 1), s.2 + 1)) (M4) (by omega) (fun a ha => (g1 a ha).trans (hF3 a ha)) (g2) (Wf_swp hW3 (by omega) (by omega)) (by rw [← hs9, inz, if_pos (by omega)]) (by omega)
        exact L20 _ (r) (srt k ce r) (M2) (Nat.le_refl _) (hF2) (hA2) (Wf_srt hW r (by omega)) (rfl) (Nat.lt_succ_self _)
  refine WP.fgt (lt := [vR 167, vI (((srt k ce 1).2 : Nat) : Int), vI ((1 : Nat) : Int), vU]) ⟨Or.inr rfl, Or.inr (congrArg vI (rfl)), Or.inr (congrArg vI (by omega)), Or.inl rfl, trivial⟩ ?_
  exact L8 _ (1) (M1) (by omega) (fun _ _ => rfl) (hA1) (Nat.lt_succ_self _)
theorem InvM.kp {M M' : Mem} {A : AR} {H : Nat × (Nat → AR)} {im : Nat → Option AR} {T : Nat × (Nat → Nat)} {i f : Nat} (hI : InvM M (A, H, im, T)) (hi : i < 2) (hf : M 167 4 = (f : Int)) (hf4 : f < 4) (h : ∀ a, a ≠ 167 → a ≠ 170 → M' a = M a) (h7 : ∀ j, j ≠ 4 → M' 167 j = M 167 j) (h4 : M' 167 4 = ((f ||| 2 ^ i : Nat) : Int)) (hk : ∀ j, j < 261 → M' 170 (261 * i + j) = M 168 j) (ho : ∀ j, (j < 261 * i ∨ 261 * i + 261 ≤ j) → M' 170 j = M 170 j) : InvM M' (A, H, (fun j => if j = i then some A else im j), T) := by
  obtain ⟨a1, a2, ⟨f', f1, f2, f3⟩, a4⟩ := hI
  have ef : f' = f := by omega
  subst ef
  refine ⟨by rw [h 168 (by decide) (by decide)]; exact a1, ⟨a2.1, by rw [h7 2 (by decide)]; exact a2.2.1, fun i hi => by rw [h 169 (by decide) (by decide)]; exact a2.2.2 i hi⟩, ⟨f' ||| 2 ^ i, or_lt (k := 2) hf4 hi, h4, fun b hb => ?_⟩, ⟨a4.1, by rw [h7 6 (by decide)]; exact a4.2.1, fun j hj => by rw [h 171 (by decide) (by decide)]; exact a4.2.2 j hj⟩⟩
  have hmk := mk_or f' i b
  have hm2 : (f' ||| 2 ^ i) / 2 ^ b % 2 < 2 := Nat.mod_lt _ (by decide)
  dsimp only
  by_cases e : b = i
  · rw [if_pos e]
    have h9 : (f' ||| 2 ^ i) / 2 ^ b % 2 = 1 := hmk.mpr (Or.inr e)
    refine ⟨fun z => (by cases z), fun B z => ⟨h9, ?_⟩⟩
    have e2 : A = B := Option.some.inj z
    rw [← e2, e]
    exact a1.mv (fun j hj => hk j hj)
  · rw [if_neg e]
    refine ⟨fun z => ?_, fun B z => ⟨?_, ?_⟩⟩
    · have h8 : ¬ mk f' b := fun y => by
        have := (f3 b hb).1 z
        unfold mk at y
        omega
      have h9 : ¬ (f' ||| 2 ^ i) / 2 ^ b % 2 = 1 := fun y => (hmk.mp y).elim h8 e
      omega
    · exact hmk.mpr (Or.inl ((f3 b hb).2 B z).1)
    · exact ((f3 b hb).2 B z).2.mv (fun j hj => by
        show M' 170 _ = M 170 _
        exact ho _ (by omega))
set_option maxHeartbeats 4000000 in
set_option maxRecDepth 20000 in
theorem y_addSum {M : Mem} {n k h len : Nat} {sz tx : Nat → Nat} {ce : Nat → Nat → Nat} {hs : Nat → AR} {im : Nat → Option AR} (hV : InvM M (mkS n k sz ce h hs im len tx)) {x : Int} (hx : -2147483648 ≤ x ∧ x < 2147483648) {y : Int} (hy : -2147483648 ≤ y ∧ y < 2147483648) {z : Int} (hz : -2147483648 ≤ z ∧ z < 2147483648) {u : Int} (hu : -2147483648 ≤ u ∧ u < 2147483648) : CT 40 m_X8_addSum [vR 167, vI x, vI y, vI z, vI u] M (PM M (o_addSum (mkS n k sz ce h hs im len tx) x y z u)) := by
  have hA : BX (M 168) n k sz ce := hV.1.1
  have hW : Wf n k sz ce := hV.1.2
  have hH : HM M h hs := hV.2.1
  have hIM : IMm M im := hV.2.2.1
  have hS : SM M len tx := hV.2.2.2
  have b1 := hW.1
  have b2 := hW.2.1
  have hh8 := hH.1
  have hl3 := hS.1
  refine CT.ofWP (by decide +kernel) (Nat.le_of_ble_eq_true rfl) ?_
  show WP sc0 40 m_X8_addSum 0 [vR 167, vI x, vI y, vI z, vI u, vU, vU] [] M (PM M (o_addSum (mkS n k sz ce h hs im len tx) x y z u))
  refine WP.aload_n dX8_addSum_0 rfl ?_
  refine WP.iload_n dX8_addSum_1 rfl ?_
  refine WP.callVp (as := [vI x]) dX8_addSum_2 mv_X8_66 rfl (rfl) (by decide) rfl rfl (w_isColumn hA hW (by omega)) rfl (Nat.le_of_ble_eq_true rfl) (by omega) ?_
  refine WP.if_eq (tgt := 54) dX8_addSum_5 (by decide) (bi_rng) (fun h5 => ?_) (fun h5 => ?_)
  · skip
    have q5 := bi_0 h5
    refine WP.iconst dX8_addSum_54 ?_
    refine WP.iret dX8_addSum_55 rfl ?_
    exact PM.same (cif_f (fun z9 => q5 z9.1)) hV
  · skip
    have q5 := bi_1 h5
    obtain ⟨c, hc0⟩ : ∃ c : Nat, x.toNat = c := ⟨_, rfl⟩
    have hc1 : x = ((c : Nat) : Int) := by omega
    refine WP.fgt (lt := [vR 167, vI ((c : Nat) : Int), vI y, vI z, vI u, vU, vU]) ⟨Or.inr rfl, Or.inr (congrArg vI (hc1.symm)), Or.inr rfl, Or.inr rfl, Or.inr rfl, Or.inl rfl, Or.inl rfl, trivial⟩ ?_
    refine WP.aload_n dX8_addSum_8 rfl ?_
    refine WP.iload_n dX8_addSum_9 rfl ?_
    refine WP.callVp (as := [vI z]) dX8_addSum_10 mv_X8_66 rfl (rfl) (by decide) rfl rfl (w_isColumn hA hW (by omega)) rfl (Nat.le_of_ble_eq_true rfl) (by omega) ?_
    refine WP.if_eq (tgt := 54) dX8_addSum_13 (by decide) (bi_rng) (fun h13 => ?_) (fun h13 => ?_)
    · skip
      have q13 := bi_0 h13
      refine WP.iconst dX8_addSum_54 ?_
      refine WP.iret dX8_addSum_55 rfl ?_
      exact PM.same (cif_f (fun z9 => q13 z9.2.1)) hV
    · skip
      have q13 := bi_1 h13
      obtain ⟨d, hd0⟩ : ∃ d : Nat, z.toNat = d := ⟨_, rfl⟩
      have hd1 : z = ((d : Nat) : Int) := by omega
      refine WP.fgt (lt := [vR 167, vI ((c : Nat) : Int), vI y, vI ((d : Nat) : Int), vI u, vU, vU]) ⟨Or.inr rfl, Or.inr rfl, Or.inr rfl, Or.inr (congrArg vI (hd1.symm)), Or.inr rfl, Or.inl rfl, Or.inl rfl, trivial⟩ ?_
      refine WP.iload_n dX8_addSum_16 rfl ?_
      refine WP.iconst dX8_addSum_17 ?_
      refine WP.iconst dX8_addSum_18 ?_
      refine WP.callSp (as := [vI y, vI (0 : Int), vI (5 : Int)]) dX8_addSum_19 ms_X8_43 rfl (w_isIn (by omega) (by omega) (by omega)) rfl (Nat.le_of_ble_eq_true rfl) (by omega) ?_
      refine WP.if_eq (tgt := 54) dX8_addSum_22 (by decide) (bi_rng) (fun h22 => ?_) (fun h22 => ?_)
      · skip
        have q22 := bi_0 h22
        refine WP.iconst dX8_addSum_54 ?_
        refine WP.iret dX8_addSum_55 rfl ?_
        exact PM.same (cif_f (fun z9 => q22 z9.2.2.2.1)) hV
      · skip
        have q22 := bi_1 h22
        obtain ⟨a, ha0⟩ : ∃ a : Nat, y.toNat = a := ⟨_, rfl⟩
        have ha1 : y = ((a : Nat) : Int) := by omega
        refine WP.fgt (lt := [vR 167, vI ((c : Nat) : Int), vI ((a : Nat) : Int), vI ((d : Nat) : Int), vI u, vU, vU]) ⟨Or.inr rfl, Or.inr rfl, Or.inr (congrArg vI (ha1.symm)), Or.inr rfl, Or.inr rfl, Or.inl rfl, Or.inl rfl, trivial⟩ ?_
        refine WP.iload dX8_addSum_25 rfl ?_
        refine WP.iconst dX8_addSum_27 ?_
        refine WP.iconst dX8_addSum_28 ?_
        refine WP.callSp (as := [vI u, vI (0 : Int), vI (5 : Int)]) dX8_addSum_29 ms_X8_43 rfl (w_isIn (by omega) (by omega) (by omega)) rfl (Nat.le_of_ble_eq_true rfl) (by omega) ?_
        refine WP.if_eq (tgt := 54) dX8_addSum_32 (by decide) (bi_rng) (fun h32 => ?_) (fun h32 => ?_)
        · skip
          have q32 := bi_0 h32
          refine WP.iconst dX8_addSum_54 ?_
          refine WP.iret dX8_addSum_55 rfl ?_
          exact PM.same (cif_f (fun z9 => q32 z9.2.2.2.2)) hV
        · skip
          have q32 := bi_1 h32
          have w1 := hW.2.2.1 c (by omega)
          have w2 := hW.2.2.1 d (by omega)
          obtain ⟨b, hb0⟩ : ∃ b : Nat, u.toNat = b := ⟨_, rfl⟩
          have hb1 : u = ((b : Nat) : Int) := by omega
          refine WP.fgt (lt := [vR 167, vI ((c : Nat) : Int), vI ((a : Nat) : Int), vI ((d : Nat) : Int), vI ((b : Nat) : Int), vU, vU]) ⟨Or.inr rfl, Or.inr rfl, Or.inr rfl, Or.inr rfl, Or.inr (congrArg vI (hb1.symm)), Or.inl rfl, Or.inl rfl, trivial⟩ ?_
          refine WP.aload_n dX8_addSum_35 rfl ?_
          refine WP.getR (y := 168) dX8_addSum_36 fl_X8_7 (rfl) (by decide) (rfl) ?_
          refine WP.iconst dX8_addSum_39 ?_
          refine WP.iload_n dX8_addSum_40 rfl ?_
          refine WP.iadd dX8_addSum_41 ?_
          refine WP.iaload (y := (2 + c)) (x := ((sz c : Nat) : Int)) dX8_addSum_42 (rfl) (by omega) (by omega) (hA.2.2.1 _ (by omega)) ?_
          refine WP.aload_n dX8_addSum_43 rfl ?_
          refine WP.getR (y := 168) dX8_addSum_44 fl_X8_7 (rfl) (by decide) (rfl) ?_
          refine WP.iconst dX8_addSum_47 ?_
          refine WP.iload_n dX8_addSum_48 rfl ?_
          refine WP.iadd dX8_addSum_49 ?_
          refine WP.iaload (y := (2 + d)) (x := ((sz d : Nat) : Int)) dX8_addSum_50 (rfl) (by omega) (by omega) (hA.2.2.1 _ (by omega)) ?_
          refine WP.icmp_eq (tgt := 56) dX8_addSum_51 (by decide) (by omega) (by omega) (fun h51 => ?_) (fun h51 => ?_)
          · skip
            refine WP.aload_n dX8_addSum_56 rfl ?_
            refine WP.getR (y := 168) dX8_addSum_57 fl_X8_7 (rfl) (by decide) (rfl) ?_
            refine WP.iconst dX8_addSum_60 ?_
            refine WP.iaload (y := 1) (x := ((k : Nat) : Int)) dX8_addSum_61 (rfl) (by omega) (by omega) (hA.2.1) ?_
            refine WP.bipush dX8_addSum_62 (by decide) ?_
            refine WP.icmp_ne (tgt := 70) dX8_addSum_64 (by decide) (by omega) (by omega) (fun h64 => ?_) (fun h64 => ?_)
            · skip
              refine WP.aload_n dX8_addSum_70 rfl ?_
              refine WP.callV (as := []) dX8_addSum_71 mv_X8_51 rfl (rfl) (by decide) rfl rfl (w_remember (A := (n, k, sz, ce)) hH hV.1) rfl (Nat.le_of_ble_eq_true rfl) (by omega) (fun r9 M1 h9 => ?_)
              obtain ⟨rfl, hR1⟩ := h9
              have hA1 : BX (M1 168) n k sz ce := by rw [hR1.1 168 (by decide) (by decide)]; exact hA
              show WP sc0 40 m_X8_addSum 74 [vR 167, vI ((c : Nat) : Int), vI ((a : Nat) : Int), vI ((d : Nat) : Int), vI ((b : Nat) : Int), vU, vU] [] M1 (PM M (o_addSum (mkS n k sz ce h hs im len tx) x y z u))
              refine WP.aload_n dX8_addSum_74 rfl ?_
              refine WP.getR (y := 168) dX8_addSum_75 fl_X8_7 (rfl) (by decide) (rfl) ?_
              refine WP.iconst dX8_addSum_78 ?_
              refine WP.iaload (y := 1) (x := ((k : Nat) : Int)) dX8_addSum_79 (rfl) (by omega) (by omega) (hA1.2.1) ?_
              refine WP.istore (lt := [vR 167, vI ((c : Nat) : Int), vI ((a : Nat) : Int), vI ((d : Nat) : Int), vI ((b : Nat) : Int), vI ((k : Nat) : Int), vU]) dX8_addSum_80 (by decide) rfl ?_
              refine WP.aload_n dX8_addSum_82 rfl ?_
              refine WP.getR (y := 168) dX8_addSum_83 fl_X8_7 (rfl) (by decide) (rfl) ?_
              refine WP.iconst dX8_addSum_86 ?_
              refine WP.iload dX8_addSum_87 rfl ?_
              refine WP.iadd dX8_addSum_89 ?_
              refine WP.aload_n dX8_addSum_90 rfl ?_
              refine WP.getR (y := 168) dX8_addSum_91 fl_X8_7 (rfl) (by decide) (rfl) ?_
              refine WP.iconst dX8_addSum_94 ?_
              refine WP.iload_n dX8_addSum_95 rfl ?_
              refine WP.iadd dX8_addSum_96 ?_
              refine WP.iaload (y := (2 + c)) (x := ((sz c : Nat) : Int)) dX8_addSum_97 (rfl) (by omega) (by omega) (hA1.2.2.1 c (by omega)) ?_
              refine WP.iastore (y := (2 + k)) dX8_addSum_98 (rfl) (by omega) (by omega) rfl ?_
              obtain ⟨M2, hM2⟩ : ∃ z, z = (mset M1 168 ((2 + k)) ((sz c : Nat) : Int)) := ⟨_, rfl⟩
              refine WP.eqM hM2.symm ?_
              have hO2 : ∀ a, a ≠ 168 → M2 a = M1 a := fun a ha => by rw [hM2]; exact mset_o a ha
              refine WP.aload_n dX8_addSum_99 rfl ?_
              refine WP.getR (y := 168) dX8_addSum_100 fl_X8_7 (rfl) (by decide) (rfl) ?_
              refine WP.iconst dX8_addSum_103 ?_
              refine WP.dup2 dX8_addSum_104 rfl rfl ?_
              refine WP.iaload (y := 1) (x := ((k : Nat) : Int)) dX8_addSum_105 (rfl) (by omega) (by omega) (by rw [hM2, mset_n (Or.inr (by omega))]; exact hA1.2.1) ?_
              refine WP.iconst dX8_addSum_106 ?_
              refine WP.iadd dX8_addSum_107 ?_
              refine WP.iastore (y := 1) dX8_addSum_108 (rfl) (by omega) (by omega) rfl ?_
              obtain ⟨M3, hM3⟩ : ∃ z, z = (mset M2 168 1 (((k : Nat) : Int) + (1 : Int))) := ⟨_, rfl⟩
              refine WP.eqM hM3.symm ?_
              have hO3 : ∀ a, a ≠ 168 → M3 a = M2 a := fun a ha => by rw [hM3]; exact mset_o a ha
              refine WP.iconst dX8_addSum_109 ?_
              refine WP.istore (lt := [vR 167, vI ((c : Nat) : Int), vI ((a : Nat) : Int), vI ((d : Nat) : Int), vI ((b : Nat) : Int), vI ((k : Nat) : Int), vI (0 : Int)]) dX8_addSum_110 (by decide) rfl ?_
              have L112 : ∀ (n9 : Nat) (r : Nat) (M4 : Mem) (hr : r ≤ n) (hF4 : ∀ a, a ≠ 168 → M4 a = M3 a) (hA4 : ∀ q, q < r → M4 168 (9 + 7 * q + k) = ((((a * ce q c + b * ce q d) % sz c) : Nat) : Int)) (hB4 : ∀ j, (j < 9 ∨ (j - 9) % 7 ≠ k) → M4 168 j = M3 168 j), n - r < n9 → WP sc0 40 m_X8_addSum 112 [vR 167, vI ((c : Nat) : Int), vI ((a : Nat) : Int), vI ((d : Nat) : Int), vI ((b : Nat) : Int), vI ((k : Nat) : Int), vI ((r : Nat) : Int)] [] M4 (PM M (o_addSum (mkS n k sz ce h hs im len tx) x y z u)) := by
                intro n9
                induction n9 with
                | zero =>
                  intro r M4 hr hF4 hA4 hB4 hm9
                  exact absurd hm9 (Nat.not_lt_zero _)
                | succ n9 ih112 =>
                  intro r M4 hr hF4 hA4 hB4 hm9
                  have hC4 : ∀ j, (j < 9 ∨ (j - 9) % 7 ≠ k) → j ≠ 1 → j ≠ 2 + k → M4 168 j = M1 168 j := fun j i1 i2 i3 => by rw [hB4 j i1, hM3, mset_n (Or.inr i2), hM2, mset_n (Or.inr i3)]
                  refine WP.iload dX8_addSum_112 rfl ?_
                  refine WP.aload_n dX8_addSum_114 rfl ?_
                  refine WP.getR (y := 168) dX8_addSum_115 fl_X8_7 (rfl) (by decide) (rfl) ?_
                  refine WP.iconst dX8_addSum_118 ?_
                  refine WP.iaload (y := 0) (x := ((n : Nat) : Int)) dX8_addSum_119 (rfl) (by omega) (by omega) (by rw [hC4 0 (by omega) (by omega) (by omega)]; exact hA1.1) ?_
                  refine WP.icmp_ge (tgt := 166) dX8_addSum_120 (by decide) (by omega) (by omega) (fun h120 => ?_) (fun h120 => ?_)
                  · skip
                    refine WP.iload dX8_addSum_166 rfl ?_
                    refine WP.iret dX8_addSum_168 rfl ?_
                    have hE : o_addSum (mkS n k sz ce h hs im len tx) x y z u = (((k : Nat) : Int), chg (mkS n k sz ce h hs im len tx) (n, k + 1, apS sz k (sz c), apC ce k (fun r => (a * ce r c + b * ce r d) % sz c))) := by
                      subst hc0; subst hd0; subst ha0; subst hb0
                      exact (cif_t (show hC (mkS n k sz ce h hs im len tx) x ∧ hC (mkS n k sz ce h hs im len tx) z ∧ sz x.toNat = sz z.toNat ∧ (0 ≤ y ∧ y ≤ 5) ∧ 0 ≤ u ∧ u ≤ 5 from ⟨q5, q13, by omega, q22, q32⟩)).trans (if_neg (show ¬ k = 7 by omega))
                    exact PM.ch (A' := (n, k + 1, apS sz k (sz c), apC ce k (fun r => (a * ce r c + b * ce r d) % sz c))) hE hV hR1 (fun a9 ha => by rw [hF4 a9 ha, hO3 a9 ha, hO2 a9 ha]) (BX_ap (x := fun r => (a * ce r c + b * ce r d) % sz c) hA1 (by omega) (hC4 0 (by omega) (by omega) (by omega)) (by rw [hB4 1 (by omega), hM3, mset_s]; omega) (fun b9 hb9 => hC4 _ (by omega) (by omega) (by omega)) (by rw [hB4 _ (by omega), hM3, mset_n (Or.inr (by omega)), hM2, mset_s]) (fun r9 hr9 => hA4 r9 (by omega)) (fun r9 hr9 b9 hb9 => hC4 _ (by omega) (by omega) (by omega))) (Wf_ap hW (by omega) (by omega) (fun r9 _ => Nat.mod_lt _ (by omega)))
                  · skip
                    refine WP.aload_n dX8_addSum_123 rfl ?_
                    refine WP.iload dX8_addSum_124 rfl ?_
                    refine WP.iload dX8_addSum_126 rfl ?_
                    refine WP.iload_n dX8_addSum_128 rfl ?_
                    refine WP.aload_n dX8_addSum_129 rfl ?_
                    refine WP.iload dX8_addSum_130 rfl ?_
                    refine WP.iload_n dX8_addSum_132 rfl ?_
                    refine WP.callVp (as := [vI ((r : Nat) : Int), vI ((c : Nat) : Int)]) dX8_addSum_133 mv_X8_62 rfl (rfl) (by decide) rfl rfl (w_at (r := r) (c := c) (x := ((ce r c : Nat) : Int)) (by omega) (by omega) (by rw [hC4 _ (by omega) (by omega) (by omega)]; exact hA1.2.2.2 r (by omega) c (by omega))) rfl (Nat.le_of_ble_eq_true rfl) (by omega) ?_
                    have v1 := hW.2.2.2 r (by omega) c (by omega)
                    have v2 := hW.2.2.2 r (by omega) d (by omega)
                    have v3 : a * ce r c ≤ 5 * 5 := Nat.mul_le_mul (by omega) (by omega)
                    have v4 : b * ce r d ≤ 5 * 5 := Nat.mul_le_mul (by omega) (by omega)
                    refine WP.imul dX8_addSum_136 ?_
                    refine WP.eqs (st' := [vI ((a * ce r c : Nat) : Int), vI ((k : Nat) : Int), vI ((r : Nat) : Int), vR 167]) rfl (lc (congrArg vI (by rw [Int.natCast_mul])) rfl) ?_
                    refine WP.iload dX8_addSum_137 rfl ?_
                    refine WP.aload_n dX8_addSum_139 rfl ?_
                    refine WP.iload dX8_addSum_140 rfl ?_
                    refine WP.iload_n dX8_addSum_142 rfl ?_
                    refine WP.callVp (as := [vI ((r : Nat) : Int), vI ((d : Nat) : Int)]) dX8_addSum_143 mv_X8_62 rfl (rfl) (by decide) rfl rfl (w_at (r := r) (c := d) (x := ((ce r d : Nat) : Int)) (by omega) (by omega) (by rw [hC4 _ (by omega) (by omega) (by omega)]; exact hA1.2.2.2 r (by omega) d (by omega))) rfl (Nat.le_of_ble_eq_true rfl) (by omega) ?_
                    refine WP.imul dX8_addSum_146 ?_
                    refine WP.eqs (st' := [vI ((b * ce r d : Nat) : Int), vI ((a * ce r c : Nat) : Int), vI ((k : Nat) : Int), vI ((r : Nat) : Int), vR 167]) rfl (lc (congrArg vI (by rw [Int.natCast_mul])) rfl) ?_
                    refine WP.iadd dX8_addSum_147 ?_
                    refine WP.aload_n dX8_addSum_148 rfl ?_
                    refine WP.getR (y := 168) dX8_addSum_149 fl_X8_7 (rfl) (by decide) (rfl) ?_
                    refine WP.iconst dX8_addSum_152 ?_
                    refine WP.iload_n dX8_addSum_153 rfl ?_
                    refine WP.iadd dX8_addSum_154 ?_
                    refine WP.iaload (y := (2 + c)) (x := ((sz c : Nat) : Int)) dX8_addSum_155 (rfl) (by omega) (by omega) (by rw [hC4 _ (by omega) (by omega) (by omega)]; exact hA1.2.2.1 c (by omega)) ?_
                    refine WP.irem dX8_addSum_156 (by omega) (by omega) ?_
                    refine WP.eqs (st' := [vI (((a * ce r c + b * ce r d) % sz c : Nat) : Int), vI ((k : Nat) : Int), vI ((r : Nat) : Int), vR 167]) rfl (lc (congrArg vI (by rw [Int.natCast_emod, Int.natCast_add])) rfl) ?_
                    refine WP.callV (as := [vI ((r : Nat) : Int), vI ((k : Nat) : Int), vI (((a * ce r c + b * ce r d) % sz c : Nat) : Int)]) dX8_addSum_157 mv_X8_58 rfl (rfl) (by decide) rfl rfl (w_set (r := r) (c := k) (by omega) (by omega)) rfl (Nat.le_of_ble_eq_true rfl) (by omega) (fun r9 M5 h9 => ?_)
                    obtain ⟨rfl, f5, g5, e5⟩ := h9
                    show WP sc0 40 m_X8_addSum 160 [vR 167, vI ((c : Nat) : Int), vI ((a : Nat) : Int), vI ((d : Nat) : Int), vI ((b : Nat) : Int), vI ((k : Nat) : Int), vI ((r : Nat) : Int)] [] M5 (PM M (o_addSum (mkS n k sz ce h hs im len tx) x y z u))
                    refine WP.iinc (lt := [vR 167, vI ((c : Nat) : Int), vI ((a : Nat) : Int), vI ((d : Nat) : Int), vI ((b : Nat) : Int), vI ((k : Nat) : Int), vI (((r : Nat) : Int) + 1)]) dX8_addSum_160 rfl (by decide) rfl ?_
                    refine WP.goto (tgt := 112) dX8_addSum_163 (by decide) ?_
                    refine WP.fgt (lt := [vR 167, vI ((c : Nat) : Int), vI ((a : Nat) : Int), vI ((d : Nat) : Int), vI ((b : Nat) : Int), vI ((k : Nat) : Int), vI (((r + 1) : Nat) : Int)]) ⟨Or.inr rfl, Or.inr rfl, Or.inr rfl, Or.inr rfl, Or.inr rfl, Or.inr rfl, Or.inr (congrArg vI (by omega)), trivial⟩ ?_
                    exact ih112 (r + 1) (M5) (by omega) (fun a ha => (f5 a ha).trans (hF4 a ha)) (fun q hq => by
                      by_cases e9 : q = r
                      · rw [e9]; exact g5
                      · rw [e5 _ (by omega)]; exact hA4 q (by omega)) (fun j hj => by rw [e5 _ (by omega)]; exact hB4 j hj) (by omega)
              refine WP.fgt (lt := [vR 167, vI ((c : Nat) : Int), vI ((a : Nat) : Int), vI ((d : Nat) : Int), vI ((b : Nat) : Int), vI ((k : Nat) : Int), vI ((0 : Nat) : Int)]) ⟨Or.inr rfl, Or.inr rfl, Or.inr rfl, Or.inr rfl, Or.inr rfl, Or.inr rfl, Or.inr (congrArg vI (by omega)), trivial⟩ ?_
              exact L112 _ (0) (M3) (by omega) (fun _ _ => rfl) (fun q hq => absurd hq (Nat.not_lt_zero q)) (fun _ _ => rfl) (Nat.lt_succ_self _)
            · skip
              refine WP.bipush dX8_addSum_67 (by decide) ?_
              refine WP.iret dX8_addSum_69 rfl ?_
              exact PM.same (by subst hc0; subst hd0; exact (cif_t (show hC (mkS n k sz ce h hs im len tx) x ∧ hC (mkS n k sz ce h hs im len tx) z ∧ sz x.toNat = sz z.toNat ∧ (0 ≤ y ∧ y ≤ 5) ∧ 0 ≤ u ∧ u ≤ 5 from ⟨q5, q13, by omega, q22, q32⟩)).trans (if_pos (show k = 7 by omega))) hV
          · skip
            refine WP.iconst dX8_addSum_54 ?_
            refine WP.iret dX8_addSum_55 rfl ?_
            exact PM.same (cif_f (fun z9 => by have := z9.2.2.1; dsimp only at this; subst hc0; subst hd0; omega)) hV
set_option maxHeartbeats 4000000 in
set_option maxRecDepth 20000 in
theorem w_isKept {M : Mem} {f i : Nat} (hf : M 167 4 = (f : Int)) (hf4 : f < 4) (hi : i < 2) : CT 1 m_X8_isKept [vR 167, vI ((i : Nat) : Int)] M (Rt (some (vI (bi (f / 2 ^ i % 2 = 1)))) M) := by
  refine CT.ofWP (by decide +kernel) (Nat.le_of_ble_eq_true rfl) ?_
  show WP sc0 1 m_X8_isKept 0 [vR 167, vI ((i : Nat) : Int)] [] M (Rt (some (vI (bi (f / 2 ^ i % 2 = 1)))) M)
  refine WP.aload_n dX8_isKept_0 rfl ?_
  refine WP.getI (x := ((f : Nat) : Int)) dX8_isKept_1 fl_X8_92 (rfl) (by decide) (hf) ?_
  refine WP.iload_n dX8_isKept_4 rfl ?_
  refine WP.ishr (z := ((f / 2 ^ i : Nat) : Int)) dX8_isKept_5 (oi_shr (by omega) (by omega)) ?_
  refine WP.iconst dX8_isKept_6 ?_
  refine WP.iand (z := ((f / 2 ^ i % 2 : Nat) : Int)) dX8_isKept_7 (oi_and1 (bit_lt (by omega))) ?_
  have hb2 : f / 2 ^ i % 2 < 2 := Nat.mod_lt _ (by decide)
  refine WP.iconst dX8_isKept_8 ?_
  refine WP.icmp_ne (tgt := 16) dX8_isKept_9 (by decide) (by omega) (by omega) (fun h9 => ?_) (fun h9 => ?_)
  · skip
    refine WP.iconst dX8_isKept_16 ?_
    refine WP.zret dX8_isKept_17 rfl (by decide) ?_
    exact ⟨congrArg some (congrArg vI (bi_f (by omega)).symm), rfl⟩
  · skip
    refine WP.iconst dX8_isKept_12 ?_
    refine WP.goto (tgt := 17) dX8_isKept_13 (by decide) ?_
    refine WP.zret dX8_isKept_17 rfl (by decide) ?_
    exact ⟨congrArg some (congrArg vI (bi_t (by omega)).symm), rfl⟩
set_option maxHeartbeats 4000000 in
set_option maxRecDepth 20000 in
theorem w_ofImage {M : Mem} {i j : Nat} {x : Int} (hi : i < 2) (hj : j < 261) (hM : M 170 (261 * i + j) = x) : CT 1 m_X8_ofImage [vR 167, vI ((i : Nat) : Int), vI ((j : Nat) : Int)] M (Rt (some (vI x)) M) := by
  refine CT.ofWP (by decide +kernel) (Nat.le_of_ble_eq_true rfl) ?_
  show WP sc0 1 m_X8_ofImage 0 [vR 167, vI ((i : Nat) : Int), vI ((j : Nat) : Int)] [] M (Rt (some (vI x)) M)
  refine WP.aload_n dX8_ofImage_0 rfl ?_
  refine WP.getR (y := 170) dX8_ofImage_1 fl_X8_16 (rfl) (by decide) (rfl) ?_
  refine WP.sipush dX8_ofImage_4 (by decide) ?_
  refine WP.iload_n dX8_ofImage_7 rfl ?_
  refine WP.imul dX8_ofImage_8 ?_
  refine WP.iload_n dX8_ofImage_9 rfl ?_
  refine WP.iadd dX8_ofImage_10 ?_
  refine WP.iaload (y := (261 * i + j)) (x := x) dX8_ofImage_11 (rfl) (by omega) (by omega) (hM) ?_
  refine WP.iret dX8_ofImage_12 rfl ?_
  exact ⟨rfl, rfl⟩
set_option maxHeartbeats 4000000 in
set_option maxRecDepth 20000 in
theorem y_keep {M : Mem} {n k h len : Nat} {sz tx : Nat → Nat} {ce : Nat → Nat → Nat} {hs : Nat → AR} {im : Nat → Option AR} (hV : InvM M (mkS n k sz ce h hs im len tx)) {x : Int} (hx : -2147483648 ≤ x ∧ x < 2147483648) : CT 40 m_X8_keep [vR 167, vI x] M (PM M (o_keep (mkS n k sz ce h hs im len tx) x)) := by
  have hA : BX (M 168) n k sz ce := hV.1.1
  have hW : Wf n k sz ce := hV.1.2
  have hH : HM M h hs := hV.2.1
  have hIM : IMm M im := hV.2.2.1
  have hS : SM M len tx := hV.2.2.2
  have b1 := hW.1
  have b2 := hW.2.1
  have hh8 := hH.1
  have hl3 := hS.1
  obtain ⟨f, hf4, hf, hfi⟩ := id hIM
  refine CT.ofWP (by decide +kernel) (Nat.le_of_ble_eq_true rfl) ?_
  show WP sc0 40 m_X8_keep 0 [vR 167, vI x, vU] [] M (PM M (o_keep (mkS n k sz ce h hs im len tx) x))
  refine WP.iload_n dX8_keep_0 rfl ?_
  refine WP.callSp (as := [vI x]) dX8_keep_1 ms_X8_95 rfl (w_isImage (by omega)) rfl (Nat.le_of_ble_eq_true rfl) (by omega) ?_
  refine WP.if_ne (tgt := 9) dX8_keep_4 (by decide) (bi_rng) (fun h4 => ?_) (fun h4 => ?_)
  · skip
    have q4 := bi_1 h4
    obtain ⟨i, hi0⟩ : ∃ i : Nat, x.toNat = i := ⟨_, rfl⟩
    have hi1 : x = ((i : Nat) : Int) := by omega
    refine WP.fgt (lt := [vR 167, vI ((i : Nat) : Int), vU]) ⟨Or.inr rfl, Or.inr (congrArg vI (hi1.symm)), Or.inl rfl, trivial⟩ ?_
    refine WP.iconst dX8_keep_9 ?_
    refine WP.istore_n (lt := [vR 167, vI ((i : Nat) : Int), vI (0 : Int)]) dX8_keep_10 (by decide) rfl ?_
    have L11 : ∀ (n9 : Nat) (j : Nat) (M1 : Mem) (hj : j ≤ 261) (hF1 : ∀ a, a ≠ 170 → M1 a = M a) (hA1 : ∀ q, q < j → M1 170 (261 * i + q) = M 168 q) (hB1 : ∀ q, (q < 261 * i ∨ 261 * i + 261 ≤ q) → M1 170 q = M 170 q), 261 - j < n9 → WP sc0 40 m_X8_keep 11 [vR 167, vI ((i : Nat) : Int), vI ((j : Nat) : Int)] [] M1 (PM M (o_keep (mkS n k sz ce h hs im len tx) x)) := by
      intro n9
      induction n9 with
      | zero =>
        intro j M1 hj hF1 hA1 hB1 hm9
        exact absurd hm9 (Nat.not_lt_zero _)
      | succ n9 ih11 =>
        intro j M1 hj hF1 hA1 hB1 hm9
        refine WP.iload_n dX8_keep_11 rfl ?_
        refine WP.sipush dX8_keep_12 (by decide) ?_
        refine WP.icmp_ge (tgt := 42) dX8_keep_15 (by decide) (by omega) (by omega) (fun h15 => ?_) (fun h15 => ?_)
        · skip
          refine WP.aload_n dX8_keep_42 rfl ?_
          refine WP.dup dX8_keep_43 rfl ?_
          refine WP.getI (x := ((f : Nat) : Int)) dX8_keep_44 fl_X8_92 (rfl) (by decide) (by rw [hF1 167 (by decide)]; exact hf) ?_
          refine WP.iconst dX8_keep_47 ?_
          refine WP.iload_n dX8_keep_48 rfl ?_
          refine WP.ishl (z := ((2 ^ i : Nat) : Int)) dX8_keep_49 (oi_shl1 i (by omega)) ?_
          refine WP.ior (z := ((f ||| 2 ^ i : Nat) : Int)) dX8_keep_50 (oi_or f (2 ^ i)) ?_
          refine WP.putI dX8_keep_51 fl_X8_92 (rfl) (by decide) rfl ?_
          obtain ⟨M3, hM3⟩ : ∃ z, z = (mset M1 167 4 ((f ||| 2 ^ i : Nat) : Int)) := ⟨_, rfl⟩
          refine WP.eqM hM3.symm ?_
          have hO3 : ∀ a, a ≠ 167 → M3 a = M1 a := fun a ha => by rw [hM3]; exact mset_o a ha
          refine WP.aload_n dX8_keep_54 rfl ?_
          refine WP.getR (y := 168) dX8_keep_55 fl_X8_7 (rfl) (by decide) (rfl) ?_
          refine WP.iconst dX8_keep_58 ?_
          refine WP.iaload (y := 0) (x := ((n : Nat) : Int)) dX8_keep_59 (rfl) (by omega) (by omega) (by rw [hO3 168 (by decide), hF1 168 (by decide)]; exact hA.1) ?_
          refine WP.iret dX8_keep_60 rfl ?_
          subst hi0
          have hq : o_keep (mkS n k sz ce h hs im len tx) x = (_, _) := cif_t q4
          rw [hq]
          exact ⟨rfl, InvM.kp (i := x.toNat) hV (by omega) hf hf4 (fun a i1 i2 => by rw [hO3 a i1, hF1 a i2]) (fun j9 hj9 => by rw [hM3, mset_n (Or.inr hj9), hF1 167 (by decide)]) (by rw [hM3, mset_s]) (fun q hq => by rw [hO3 170 (by decide)]; exact hA1 q (by omega)) (fun q hq => by rw [hO3 170 (by decide)]; exact hB1 q hq), fun a ha => by rw [hO3 a (by omega), hF1 a (by omega)]⟩
        · skip
          refine WP.aload_n dX8_keep_18 rfl ?_
          refine WP.getR (y := 170) dX8_keep_19 fl_X8_16 (rfl) (by decide) (rfl) ?_
          refine WP.sipush dX8_keep_22 (by decide) ?_
          refine WP.iload_n dX8_keep_25 rfl ?_
          refine WP.imul dX8_keep_26 ?_
          refine WP.iload_n dX8_keep_27 rfl ?_
          refine WP.iadd dX8_keep_28 ?_
          refine WP.aload_n dX8_keep_29 rfl ?_
          refine WP.getR (y := 168) dX8_keep_30 fl_X8_7 (rfl) (by decide) (rfl) ?_
          refine WP.iload_n dX8_keep_33 rfl ?_
          refine WP.iaload (y := j) (x := (M 168 j)) dX8_keep_34 (rfl) (by omega) (by omega) (by rw [hF1 168 (by decide)]) ?_
          refine WP.iastore (y := (261 * i + j)) dX8_keep_35 (rfl) (by omega) (by omega) rfl ?_
          obtain ⟨M2, hM2⟩ : ∃ z, z = (mset M1 170 ((261 * i + j)) (M 168 j)) := ⟨_, rfl⟩
          refine WP.eqM hM2.symm ?_
          have hO2 : ∀ a, a ≠ 170 → M2 a = M1 a := fun a ha => by rw [hM2]; exact mset_o a ha
          refine WP.iinc (lt := [vR 167, vI ((i : Nat) : Int), vI (((j : Nat) : Int) + 1)]) dX8_keep_36 rfl (by decide) rfl ?_
          refine WP.goto (tgt := 11) dX8_keep_39 (by decide) ?_
          refine WP.fgt (lt := [vR 167, vI ((i : Nat) : Int), vI (((j + 1) : Nat) : Int)]) ⟨Or.inr rfl, Or.inr rfl, Or.inr (congrArg vI (by omega)), trivial⟩ ?_
          exact ih11 (j + 1) (M2) (by omega) (fun a ha => by rw [hM2, mset_o a ha]; exact hF1 a ha) (fun q hq => by
            rw [hM2]
            by_cases e9 : q = j
            · rw [e9, mset_s]
            · rw [mset_n (Or.inr (by omega))]; exact hA1 q (by omega)) (fun q hq => by rw [hM2, mset_n (Or.inr (by omega))]; exact hB1 q hq) (by omega)
    refine WP.fgt (lt := [vR 167, vI ((i : Nat) : Int), vI ((0 : Nat) : Int)]) ⟨Or.inr rfl, Or.inr rfl, Or.inr (congrArg vI (by omega)), trivial⟩ ?_
    exact L11 _ (0) (M) (by omega) (fun _ _ => rfl) (fun q hq => absurd hq (Nat.not_lt_zero q)) (fun _ _ => rfl) (Nat.lt_succ_self _)
  · skip
    have q4 := bi_0 h4
    refine WP.iconst dX8_keep_7 ?_
    refine WP.iret dX8_keep_8 rfl ?_
    exact PM.same (cif_f q4) hV
theorem im_bit {M : Mem} {im : Nat → Option AR} {f i : Nat} (h : (im i = none → f / 2 ^ i % 2 = 0) ∧ ∀ B, im i = some B → f / 2 ^ i % 2 = 1 ∧ BA (fun j => M 170 (261 * i + j)) B) : (f / 2 ^ i % 2 = 1 → ∃ B, im i = some B ∧ BA (fun j => M 170 (261 * i + j)) B) ∧ (¬ f / 2 ^ i % 2 = 1 → im i = none) := by
  cases e : im i with
  | none => exact ⟨fun z => by have := h.1 e; omega, fun _ => rfl⟩
  | some B => exact ⟨fun _ => ⟨B, rfl, (h.2 B e).2⟩, fun z => absurd (h.2 B e).1 z⟩
set_option maxHeartbeats 4000000 in
set_option maxRecDepth 20000 in
theorem y_back {M : Mem} {n k h len : Nat} {sz tx : Nat → Nat} {ce : Nat → Nat → Nat} {hs : Nat → AR} {im : Nat → Option AR} (hV : InvM M (mkS n k sz ce h hs im len tx)) {x : Int} (hx : -2147483648 ≤ x ∧ x < 2147483648) : CT 40 m_X8_back [vR 167, vI x] M (PM M (o_back (mkS n k sz ce h hs im len tx) x)) := by
  have hA : BX (M 168) n k sz ce := hV.1.1
  have hW : Wf n k sz ce := hV.1.2
  have hH : HM M h hs := hV.2.1
  have hIM : IMm M im := hV.2.2.1
  have hS : SM M len tx := hV.2.2.2
  have b1 := hW.1
  have b2 := hW.2.1
  have hh8 := hH.1
  have hl3 := hS.1
  obtain ⟨f, hf4, hf, hfi⟩ := id hIM
  refine CT.ofWP (by decide +kernel) (Nat.le_of_ble_eq_true rfl) ?_
  show WP sc0 40 m_X8_back 0 [vR 167, vI x, vU] [] M (PM M (o_back (mkS n k sz ce h hs im len tx) x))
  refine WP.iload_n dX8_back_0 rfl ?_
  refine WP.callSp (as := [vI x]) dX8_back_1 ms_X8_95 rfl (w_isImage (by omega)) rfl (Nat.le_of_ble_eq_true rfl) (by omega) ?_
  refine WP.if_ne (tgt := 9) dX8_back_4 (by decide) (bi_rng) (fun h4 => ?_) (fun h4 => ?_)
  · skip
    have q4 := bi_1 h4
    obtain ⟨i, hi0⟩ : ∃ i : Nat, x.toNat = i := ⟨_, rfl⟩
    have hi1 : x = ((i : Nat) : Int) := by omega
    refine WP.fgt (lt := [vR 167, vI ((i : Nat) : Int), vU]) ⟨Or.inr rfl, Or.inr (congrArg vI (hi1.symm)), Or.inl rfl, trivial⟩ ?_
    refine WP.aload_n dX8_back_9 rfl ?_
    refine WP.iload_n dX8_back_10 rfl ?_
    refine WP.callVp (as := [vI ((i : Nat) : Int)]) dX8_back_11 mv_X8_98 rfl (rfl) (by decide) rfl rfl (w_isKept (i := i) hf hf4 (by omega)) rfl (Nat.le_of_ble_eq_true rfl) (by omega) ?_
    refine WP.if_ne (tgt := 20) dX8_back_14 (by decide) (bi_rng) (fun h14 => ?_) (fun h14 => ?_)
    · skip
      obtain ⟨B, hB, hBA⟩ := (im_bit (hfi i (by omega))).1 (bi_1 h14)
      refine WP.aload_n dX8_back_20 rfl ?_
      refine WP.callV (as := []) dX8_back_21 mv_X8_51 rfl (rfl) (by decide) rfl rfl (w_remember (A := (n, k, sz, ce)) hH hV.1) rfl (Nat.le_of_ble_eq_true rfl) (by omega) (fun r9 M1 h9 => ?_)
      obtain ⟨rfl, hR1⟩ := h9
      have hA1 : BX (M1 168) n k sz ce := by rw [hR1.1 168 (by decide) (by decide)]; exact hA
      show WP sc0 40 m_X8_back 24 [vR 167, vI ((i : Nat) : Int), vU] [] M1 (PM M (o_back (mkS n k sz ce h hs im len tx) x))
      refine WP.iconst dX8_back_24 ?_
      refine WP.istore_n (lt := [vR 167, vI ((i : Nat) : Int), vI (0 : Int)]) dX8_back_25 (by decide) rfl ?_
      have L26 : ∀ (n9 : Nat) (j : Nat) (M2 : Mem) (hj : j ≤ 261) (hF2 : ∀ a, a ≠ 168 → M2 a = M1 a) (hA2 : ∀ q, q < j → M2 168 q = M 170 (261 * i + q)), 261 - j < n9 → WP sc0 40 m_X8_back 26 [vR 167, vI ((i : Nat) : Int), vI ((j : Nat) : Int)] [] M2 (PM M (o_back (mkS n k sz ce h hs im len tx) x)) := by
        intro n9
        induction n9 with
        | zero =>
          intro j M2 hj hF2 hA2 hm9
          exact absurd hm9 (Nat.not_lt_zero _)
        | succ n9 ih26 =>
          intro j M2 hj hF2 hA2 hm9
          refine WP.iload_n dX8_back_26 rfl ?_
          refine WP.sipush dX8_back_27 (by decide) ?_
          refine WP.icmp_ge (tgt := 51) dX8_back_30 (by decide) (by omega) (by omega) (fun h30 => ?_) (fun h30 => ?_)
          · skip
            have hB2 : BA (M2 168) B := hBA.mv (fun q hq => hA2 q (by omega))
            refine WP.aload_n dX8_back_51 rfl ?_
            refine WP.getR (y := 168) dX8_back_52 fl_X8_7 (rfl) (by decide) (rfl) ?_
            refine WP.iconst dX8_back_55 ?_
            refine WP.iaload (y := 0) (x := ((B.1 : Nat) : Int)) dX8_back_56 (rfl) (by omega) (by omega) (hB2.1.1) ?_
            refine WP.iret dX8_back_57 rfl ?_
            exact PM.ch (A' := B) (by subst hi0; exact o_back_s q4 hB) hV hR1 (hF2) (hB2.1) (hB2.2)
          · skip
            refine WP.aload_n dX8_back_33 rfl ?_
            refine WP.getR (y := 168) dX8_back_34 fl_X8_7 (rfl) (by decide) (rfl) ?_
            refine WP.iload_n dX8_back_37 rfl ?_
            refine WP.aload_n dX8_back_38 rfl ?_
            refine WP.iload_n dX8_back_39 rfl ?_
            refine WP.iload_n dX8_back_40 rfl ?_
            refine WP.callVp (as := [vI ((i : Nat) : Int), vI ((j : Nat) : Int)]) dX8_back_41 mv_X8_101 rfl (rfl) (by decide) rfl rfl (w_ofImage (i := i) (j := j) (x := M 170 (261 * i + j)) (by omega) (by omega) (by rw [hF2 170 (by decide), hR1.1 170 (by decide) (by decide)])) rfl (Nat.le_of_ble_eq_true rfl) (by omega) ?_
            refine WP.iastore (y := j) dX8_back_44 (rfl) (by omega) (by omega) rfl ?_
            obtain ⟨M3, hM3⟩ : ∃ z, z = (mset M2 168 j (M 170 (261 * i + j))) := ⟨_, rfl⟩
            refine WP.eqM hM3.symm ?_
            have hO3 : ∀ a, a ≠ 168 → M3 a = M2 a := fun a ha => by rw [hM3]; exact mset_o a ha
            refine WP.iinc (lt := [vR 167, vI ((i : Nat) : Int), vI (((j : Nat) : Int) + 1)]) dX8_back_45 rfl (by decide) rfl ?_
            refine WP.goto (tgt := 26) dX8_back_48 (by decide) ?_
            refine WP.fgt (lt := [vR 167, vI ((i : Nat) : Int), vI (((j + 1) : Nat) : Int)]) ⟨Or.inr rfl, Or.inr rfl, Or.inr (congrArg vI (by omega)), trivial⟩ ?_
            exact ih26 (j + 1) (M3) (by omega) (fun a ha => by rw [hM3, mset_o a ha]; exact hF2 a ha) (fun q hq => by
              rw [hM3]
              by_cases e9 : q = j
              · rw [e9, mset_s]
              · rw [mset_n (Or.inr e9)]; exact hA2 q (by omega)) (by omega)
      refine WP.fgt (lt := [vR 167, vI ((i : Nat) : Int), vI ((0 : Nat) : Int)]) ⟨Or.inr rfl, Or.inr rfl, Or.inr (congrArg vI (by omega)), trivial⟩ ?_
      exact L26 _ (0) (M1) (by omega) (fun _ _ => rfl) (fun q hq => absurd hq (Nat.not_lt_zero q)) (Nat.lt_succ_self _)
    · skip
      have hno := (im_bit (hfi i (by omega))).2 (bi_0 h14)
      refine WP.bipush dX8_back_17 (by decide) ?_
      refine WP.iret dX8_back_19 rfl ?_
      exact PM.same (by subst hi0; exact o_back_n q4 hno) hV
  · skip
    have q4 := bi_0 h4
    refine WP.iconst dX8_back_7 ?_
    refine WP.iret dX8_back_8 rfl ?_
    exact PM.same (cif_f q4) hV
