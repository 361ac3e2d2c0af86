set_option maxHeartbeats 4000000 in
set_option maxRecDepth 20000 in
theorem c_Z_labelColumn {M : Mem} {s t n k c : Nat} {sz : Nat → Nat} {ce : Nat → Nat → Nat} (hs : isS s) (ht : isT t) (hT : TX M t n k sz ce) (hW : Wf n k sz ce) (hn : n ≤ 18) (h4 : ∀ c, c < k → sz c ≤ 4) (hm0 : M s 0 = (t : Int)) (hc : c < k) (hL : LB M s k sz (lF c) (llF c)) : CT 1 m_X5_labelColumn [vR s, vI ((c : Nat) : Int)] M (fun z M' => z = none ∧ (∀ x, x ≠ s + 1 → x ≠ s + 2 → M' x = M x) ∧ LB M' s k sz (lF (c + 1)) (llF (c + 1))) := by
  have b1 := hW.1
  have b2 := hW.2.1
  have ht2 := ht.2
  have hs9 := hs
  unfold isS at hs9
  have w1 := hW.2.2.1 c hc
  have w4 := h4 c hc
  refine CT.ofWP (by decide +kernel) (Nat.le_of_ble_eq_true rfl) ?_
  show WP sc0 1 m_X5_labelColumn 0 [vR s, vI ((c : Nat) : Int), vU] [] M (fun z M' => z = none ∧ (∀ x, x ≠ s + 1 → x ≠ s + 2 → M' x = M x) ∧ LB M' s k sz (lF (c + 1)) (llF (c + 1)))
  refine WP.aload_n dX5_labelColumn_0 rfl ?_
  refine WP.getR (y := (s + 1)) dX5_labelColumn_1 fl_X5_18 ((shS hs).1) (by decide) ((srS hs).1) ?_
  refine WP.iload_n dX5_labelColumn_4 rfl ?_
  refine WP.iload_n dX5_labelColumn_5 rfl ?_
  refine WP.iconst dX5_labelColumn_6 ?_
  refine WP.iadd dX5_labelColumn_7 ?_
  refine WP.iastore (y := c) dX5_labelColumn_8 ((shS hs).2.1) (by omega) (by omega) rfl ?_
  obtain ⟨M1, hM1⟩ : ∃ z, z = (mset M ((s + 1)) c (((c : Nat) : Int) + (1 : Int))) := ⟨_, rfl⟩
  refine WP.eqM hM1.symm ?_
  have hO1 : ∀ x, x ≠ s + 1 → M1 x = M x := fun x hx => by rw [hM1]; exact mset_o x hx
  refine WP.iconst dX5_labelColumn_9 ?_
  refine WP.istore_n (lt := [vR s, vI ((c : Nat) : Int), vI (0 : Int)]) dX5_labelColumn_10 (by decide) rfl ?_
  have L11 : ∀ (n9 : Nat) (v : Nat) (M2 : Mem) (hv : v ≤ sz c) (hF2 : ∀ x, x ≠ s + 2 → M2 x = M1 x) (hA : ∀ u, u < v → M2 (s + 2) (c * 4 + u) = ((u + 1 : Nat) : Int)) (hB : ∀ b, b ≠ c → ∀ u, u < 4 → M2 (s + 2) (b * 4 + u) = M (s + 2) (b * 4 + u)), sz c - v < n9 → WP sc0 1 m_X5_labelColumn 11 [vR s, vI ((c : Nat) : Int), vI ((v : Nat) : Int)] [] M2 (fun z M' => z = none ∧ (∀ x, x ≠ s + 1 → x ≠ s + 2 → M' x = M x) ∧ LB M' s k sz (lF (c + 1)) (llF (c + 1))) := by
    intro n9
    induction n9 with
    | zero =>
      intro v M2 hv hF2 hA hB hm9
      exact absurd hm9 (Nat.not_lt_zero _)
    | succ n9 ih11 =>
      intro v M2 hv hF2 hA hB hm9
      refine WP.iload_n dX5_labelColumn_11 rfl ?_
      refine WP.aload_n dX5_labelColumn_12 rfl ?_
      refine WP.getM (y := t) dX5_labelColumn_13 fl_X5_12 ((shS hs).1) (by decide) (by rw [hF2 s (by omega), hO1 s (by omega)]; exact hm0) ?_
      refine WP.getR (y := (t + 1)) dX5_labelColumn_16 fl_X5_67 (shT0 ht) (by decide) (srT1 ht) ?_
      refine WP.iload_n dX5_labelColumn_19 rfl ?_
      refine WP.iaload (y := c) (x := ((sz c : Nat) : Int)) dX5_labelColumn_20 (shT1 ht) (by omega) (by omega) (by rw [hF2 (t + 1) (by omega), hO1 (t + 1) (by omega)]; exact hT.2.2.1 c hc) ?_
      refine WP.icmp_ge (tgt := 43) dX5_labelColumn_21 (by decide) (by omega) (by omega) (fun h21 => ?_) (fun h21 => ?_)
      · skip
        refine WP.vret dX5_labelColumn_43 rfl ?_
        refine ⟨rfl, fun x i1 i2 => by rw [hF2 x i2, hO1 x i1], fun b hb => ?_⟩
        have hLb := hL b hb
        have w8 := h4 b hb
        unfold lF llF at hLb ⊢
        by_cases e : b = c
        · rw [e] at w8 ⊢
          refine ⟨⟨by rw [hF2 _ (by omega), hM1, mset_s, if_pos (by omega)]; omega, by rw [if_pos (by omega)]; omega⟩, fun u hu => ⟨by rw [hA u (by omega), if_pos (by omega)], by rw [if_pos (by omega)]; omega⟩⟩
        · refine ⟨⟨?_, by split <;> omega⟩, fun u hu => ⟨?_, by split <;> omega⟩⟩
          · rw [hF2 _ (by omega), hM1, mset_n (Or.inr e), hLb.1.1]
            by_cases e2 : b < c
            · rw [if_pos e2, if_pos (by omega)]
            · rw [if_neg e2, if_neg (by omega)]
          · rw [hB b e u (by omega), (hLb.2 u hu).1]
            by_cases e2 : b < c
            · rw [if_pos e2, if_pos (by omega)]
            · rw [if_neg e2, if_neg (by omega)]
      · skip
        refine WP.aload_n dX5_labelColumn_24 rfl ?_
        refine WP.getR (y := (s + 2)) dX5_labelColumn_25 fl_X5_22 ((shS hs).1) (by decide) ((srS hs).2.1) ?_
        refine WP.iload_n dX5_labelColumn_28 rfl ?_
        refine WP.iconst dX5_labelColumn_29 ?_
        refine WP.imul dX5_labelColumn_30 ?_
        refine WP.iload_n dX5_labelColumn_31 rfl ?_
        refine WP.iadd dX5_labelColumn_32 ?_
        refine WP.iload_n dX5_labelColumn_33 rfl ?_
        refine WP.iconst dX5_labelColumn_34 ?_
        refine WP.iadd dX5_labelColumn_35 ?_
        refine WP.iastore (y := (c * 4 + v)) dX5_labelColumn_36 ((shS hs).2.2.1) (by omega) (by omega) rfl ?_
        obtain ⟨M3, hM3⟩ : ∃ z, z = (mset M2 ((s + 2)) ((c * 4 + v)) (((v : Nat) : Int) + (1 : Int))) := ⟨_, rfl⟩
        refine WP.eqM hM3.symm ?_
        have hO3 : ∀ x, x ≠ s + 2 → M3 x = M2 x := fun x hx => by rw [hM3]; exact mset_o x hx
        refine WP.iinc (lt := [vR s, vI ((c : Nat) : Int), vI (((v : Nat) : Int) + 1)]) dX5_labelColumn_37 rfl (by decide) rfl ?_
        refine WP.goto (tgt := 11) dX5_labelColumn_40 (by decide) ?_
        refine WP.fgt (lt := [vR s, vI ((c : Nat) : Int), vI (((v + 1) : Nat) : Int)]) ⟨Or.inr rfl, Or.inr rfl, Or.inr (congrArg vI (by omega)), trivial⟩ ?_
        exact ih11 (v + 1) (M3) (by omega) (fun x hx => (hO3 x hx).trans (hF2 x hx)) (fun u hu => by
          rw [hM3]
          by_cases e9 : u = v
          · rw [e9, mset_s]; omega
          · rw [mset_n (Or.inr (by omega))]; exact hA u (by omega)) (fun b hb u hu => by rw [hM3, mset_n (Or.inr (by omega))]; exact hB b hb u hu) (by omega)
  refine WP.fgt (lt := [vR s, vI ((c : Nat) : Int), vI ((0 : Nat) : Int)]) ⟨Or.inr rfl, Or.inr rfl, Or.inr (congrArg vI (by omega)), trivial⟩ ?_
  exact L11 _ (0) (M1) (Nat.zero_le _) (fun _ _ => rfl) (fun u hu => absurd hu (Nat.not_lt_zero u)) (fun b hb u hu => by rw [hO1 _ (by omega)]) (Nat.lt_succ_self _)
set_option maxHeartbeats 4000000 in
set_option maxRecDepth 20000 in
theorem c_Z_hasTwin {M : Mem} {s t n k d m : Nat} {sz : Nat → Nat} {ce : Nat → Nat → Nat} (hs : isS s) (ht : isT t) (hT : TX M t n k sz ce) (hW : Wf n k sz ce) (hn : n ≤ 18) (h4 : ∀ c, c < k → sz c ≤ 4) (hm0 : M s 0 = (t : Int)) (hd : d < k) (hm : m < 2 ^ 7) : CT 3 m_X5_hasTwin [vR s, vI ((d : Nat) : Int), vI ((m : Nat) : Int)] M (fun z M' => z = some (vI (bi (∃ e, e < d ∧ mk m e ∧ twn n sz ce d e))) ∧ ∀ x, x ≠ s + 31 → M' x = M x) := by
  have b1 := hW.1
  have b2 := hW.2.1
  have ht2 := ht.2
  have hs9 := hs
  unfold isS at hs9
  have h128 : 2 ^ 7 = 128 := rfl
  refine CT.ofWP (by decide +kernel) (Nat.le_of_ble_eq_true rfl) ?_
  show WP sc0 3 m_X5_hasTwin 0 [vR s, vI ((d : Nat) : Int), vI ((m : Nat) : Int), vU] [] M (fun z M' => z = some (vI (bi (∃ e, e < d ∧ mk m e ∧ twn n sz ce d e))) ∧ ∀ x, x ≠ s + 31 → M' x = M x)
  refine WP.iconst dX5_hasTwin_0 ?_
  refine WP.istore_n (lt := [vR s, vI ((d : Nat) : Int), vI ((m : Nat) : Int), vI (0 : Int)]) dX5_hasTwin_1 (by decide) rfl ?_
  have L2 : ∀ (n9 : Nat) (e : Nat) (M1 : Mem) (he : e ≤ d) (hF : ∀ x, x ≠ s + 31 → M1 x = M x) (hno : ∀ b, b < e → mk m b → ¬ twn n sz ce d b), d - e < n9 → WP sc0 3 m_X5_hasTwin 2 [vR s, vI ((d : Nat) : Int), vI ((m : Nat) : Int), vI ((e : Nat) : Int)] [] M1 (fun z M' => z = some (vI (bi (∃ e, e < d ∧ mk m e ∧ twn n sz ce d e))) ∧ ∀ x, x ≠ s + 31 → M' x = M x) := by
    intro n9
    induction n9 with
    | zero =>
      intro e M1 he hF hno hm9
      exact absurd hm9 (Nat.not_lt_zero _)
    | succ n9 ih2 =>
      intro e M1 he hF hno hm9
      have hm1 : M1 s 0 = (t : Int) := by rw [hF s (by omega)]; exact hm0
      have hT1 : TX M1 t n k sz ce := hT.fr (hF t (by omega)) (hF (t + 1) (by omega)) (hF (t + 2) (by omega))
      refine WP.iload_n dX5_hasTwin_2 rfl ?_
      refine WP.iload_n dX5_hasTwin_3 rfl ?_
      refine WP.icmp_ge (tgt := 33) dX5_hasTwin_4 (by decide) (by omega) (by omega) (fun hq4 => ?_) (fun hq4 => ?_)
      · skip
        refine WP.iconst dX5_hasTwin_33 ?_
        refine WP.zret dX5_hasTwin_34 rfl (by decide) ?_
        exact ⟨congrArg some (congrArg vI (bi_f (fun ⟨b, b1, b2, b3⟩ => hno b (by omega) b2 b3)).symm), hF⟩
      · skip
        refine WP.iload_n dX5_hasTwin_7 rfl ?_
        refine WP.iload_n dX5_hasTwin_8 rfl ?_
        refine WP.ishr (z := ((m / 2 ^ e : Nat) : Int)) dX5_hasTwin_9 (oi_shr (by omega) (by omega)) ?_
        refine WP.iconst dX5_hasTwin_10 ?_
        refine WP.iand (z := ((m / 2 ^ e % 2 : Nat) : Int)) dX5_hasTwin_11 (oi_and1 (bit_lt (by omega))) ?_
        have hb2 : m / 2 ^ e % 2 < 2 := Nat.mod_lt _ (by decide)
        refine WP.iconst dX5_hasTwin_12 ?_
        refine WP.icmp_ne (tgt := 27) dX5_hasTwin_13 (by decide) (by omega) (by omega) (fun h13 => ?_) (fun h13 => ?_)
        · skip
          have hnm : ¬ mk m e := fun z => by unfold mk at z; omega
          refine WP.iinc (lt := [vR s, vI ((d : Nat) : Int), vI ((m : Nat) : Int), vI (((e : Nat) : Int) + 1)]) dX5_hasTwin_27 rfl (by decide) rfl ?_
          refine WP.goto (tgt := 2) dX5_hasTwin_30 (by decide) ?_
          refine WP.fgt (lt := [vR s, vI ((d : Nat) : Int), vI ((m : Nat) : Int), vI (((e + 1) : Nat) : Int)]) ⟨Or.inr rfl, Or.inr rfl, Or.inr rfl, Or.inr (congrArg vI (by omega)), trivial⟩ ?_
          exact ih2 (e + 1) (M1) (by omega) (hF) (fun b hb hmb => by
            by_cases e9 : b = e
            · rw [e9] at hmb ⊢
              exact absurd hmb hnm
            · exact hno b (by omega) hmb) (by omega)
        · skip
          have hmm : mk m e := by unfold mk; omega
          refine WP.aload_n dX5_hasTwin_16 rfl ?_
          refine WP.iload_n dX5_hasTwin_17 rfl ?_
          refine WP.iload_n dX5_hasTwin_18 rfl ?_
          refine WP.callV (as := [vI ((d : Nat) : Int), vI ((e : Nat) : Int)]) dX5_hasTwin_19 mv_X5_88 rfl ((shS hs).1) (by decide) rfl rfl (c_Z_areTwins (d := d) (e := e) hs ht hT1 hW hn h4 hm1 hd (by omega)) rfl (Nat.le_of_ble_eq_true rfl) (by omega) (fun r9 M2 h9 => ?_)
          obtain ⟨rfl, f2⟩ := h9
          show WP sc0 3 m_X5_hasTwin 22 [vR s, vI ((d : Nat) : Int), vI ((m : Nat) : Int), vI ((e : Nat) : Int)] [vI (bi (twn n sz ce d e))] M2 (fun z M' => z = some (vI (bi (∃ e, e < d ∧ mk m e ∧ twn n sz ce d e))) ∧ ∀ x, x ≠ s + 31 → M' x = M x)
          refine WP.if_eq (tgt := 27) dX5_hasTwin_22 (by decide) (bi_rng) (fun h22 => ?_) (fun h22 => ?_)
          · skip
            have q22 := bi_0 h22
            refine WP.iinc (lt := [vR s, vI ((d : Nat) : Int), vI ((m : Nat) : Int), vI (((e : Nat) : Int) + 1)]) dX5_hasTwin_27 rfl (by decide) rfl ?_
            refine WP.goto (tgt := 2) dX5_hasTwin_30 (by decide) ?_
            refine WP.fgt (lt := [vR s, vI ((d : Nat) : Int), vI ((m : Nat) : Int), vI (((e + 1) : Nat) : Int)]) ⟨Or.inr rfl, Or.inr rfl, Or.inr rfl, Or.inr (congrArg vI (by omega)), trivial⟩ ?_
            exact ih2 (e + 1) (M2) (by omega) (fun x hx => (f2 x hx).trans (hF x hx)) (fun b hb hmb => by
              by_cases e9 : b = e
              · rw [e9] at hmb ⊢
                exact q22
              · exact hno b (by omega) hmb) (by omega)
          · skip
            have q22 := bi_1 h22
            refine WP.iconst dX5_hasTwin_25 ?_
            refine WP.zret dX5_hasTwin_26 rfl (by decide) ?_
            exact ⟨congrArg some (congrArg vI (bi_t ⟨e, by omega, hmm, q22⟩).symm), fun x hx => (f2 x hx).trans (hF x hx)⟩
  refine WP.fgt (lt := [vR s, vI ((d : Nat) : Int), vI ((m : Nat) : Int), vI ((0 : Nat) : Int)]) ⟨Or.inr rfl, Or.inr rfl, Or.inr rfl, Or.inr (congrArg vI (by omega)), trivial⟩ ?_
  exact L2 _ (0) (M) (Nat.zero_le _) (fun _ _ => rfl) (fun b hb => absurd hb (Nat.not_lt_zero b)) (Nat.lt_succ_self _)
