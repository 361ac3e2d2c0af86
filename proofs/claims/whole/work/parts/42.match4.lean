set_option maxHeartbeats 4000000 in
set_option maxRecDepth 20000 in
theorem c_M_canMap {M : Mem} {t n k : Nat} {sz sz' : Nat → Nat} {ce ce' : Nat → Nat → Nat} (hS : MST t n k sz ce sz' ce') (hC : MC M t n k sz ce sz' ce') {w : Nat → Nat} {c : Nat} (hc : c < k) (hZ : MZ M n k sz sz' ce' w c) {d : Nat} (hd : d < k) : CT 2 m_X3_canMap [vR 99, vI ((c : Nat) : Int), vI ((d : Nat) : Int)] M (Rt (some (vI (bi (clT w c d = 0 ∧ sz c = sz' d ∧ kCK n k sz ce lF llF c c = kCK n k sz' ce' (clT w) (llT w) c d)))) M) := by
  obtain ⟨⟨ht, ht3, ht9⟩, hn, hW, hW2, h4, h42⟩ := id hS
  obtain ⟨hT, hT2, hm0, hm1, hLF, hTL, hKF⟩ := id hC
  have b1 := hW.1
  have b2 := hW.2.1
  have t0 : isT 0 := ⟨rfl, by decide⟩
  have ht2 := ht.2
  have hs1 : isS 103 := Or.inl rfl
  have hs2 : isS 135 := Or.inr rfl
  have h128 : 2 ^ 7 = 128 := rfl
  obtain ⟨hLT, hKT, hAr⟩ := id hZ
  have w1 := hW.2.2.1 c hc
  have w2 := hW2.2.2.1 d hd
  refine CT.ofWP (by decide +kernel) (Nat.le_of_ble_eq_true rfl) ?_
  show WP sc0 2 m_X3_canMap 0 [vR 99, vI ((c : Nat) : Int), vI ((d : Nat) : Int)] [] M (Rt (some (vI (bi (clT w c d = 0 ∧ sz c = sz' d ∧ kCK n k sz ce lF llF c c = kCK n k sz' ce' (clT w) (llT w) c d)))) M)
  refine WP.aload_n dX3_canMap_0 rfl ?_
  refine WP.getR (y := 135) dX3_canMap_1 fl_X3_25 (rfl) (by decide) (rfl) ?_
  refine WP.iload_n dX3_canMap_4 rfl ?_
  refine WP.callVp (as := [vI ((d : Nat) : Int)]) dX3_canMap_5 mv_X3_84 rfl (rfl) (by decide) rfl rfl (c_Z_isLabelled (s := 135) (c := d) (w := clT w c d) hs2 (by omega) (hLT d hd).1.1 (hLT d hd).1.2) rfl (Nat.le_of_ble_eq_true rfl) (by omega) ?_
  refine WP.if_ne (tgt := 68) dX3_canMap_8 (by decide) (bi_rng) (fun h8 => ?_) (fun h8 => ?_)
  · skip
    have q8 := bi_1 h8
    have hbad : ¬ (clT w c d = 0 ∧ sz c = sz' d ∧ kCK n k sz ce lF llF c c = kCK n k sz' ce' (clT w) (llT w) c d) := fun z => q8 z.1
    refine WP.iconst dX3_canMap_68 ?_
    refine WP.zret dX3_canMap_69 rfl (by decide) ?_
    exact ⟨congrArg some (congrArg vI (bi_f hbad).symm), rfl⟩
  · skip
    have q8 := bi_0 h8
    refine WP.aload_n dX3_canMap_11 rfl ?_
    refine WP.getR (y := 103) dX3_canMap_12 fl_X3_21 (rfl) (by decide) (rfl) ?_
    refine WP.getM (y := 0) dX3_canMap_15 fl_X3_66 (rfl) (by decide) (hm0) ?_
    refine WP.getR (y := 1) dX3_canMap_18 fl_X3_63 (rfl) (by decide) (rfl) ?_
    refine WP.iload_n dX3_canMap_21 rfl ?_
    refine WP.iaload (y := c) (x := ((sz c : Nat) : Int)) dX3_canMap_22 (rfl) (by omega) (by omega) (hT.2.2.1 c hc) ?_
    refine WP.aload_n dX3_canMap_23 rfl ?_
    refine WP.getR (y := 135) dX3_canMap_24 fl_X3_25 (rfl) (by decide) (rfl) ?_
    refine WP.getM (y := t) dX3_canMap_27 fl_X3_66 (rfl) (by decide) (hm1) ?_
    refine WP.getR (y := (t + 1)) dX3_canMap_30 fl_X3_63 (shT0 ht) (by decide) (srT1 ht) ?_
    refine WP.iload_n dX3_canMap_33 rfl ?_
    refine WP.iaload (y := d) (x := ((sz' d : Nat) : Int)) dX3_canMap_34 (shT1 ht) (by omega) (by omega) (hT2.2.2.1 d hd) ?_
    refine WP.icmp_ne (tgt := 68) dX3_canMap_35 (by decide) (by omega) (by omega) (fun h35 => ?_) (fun h35 => ?_)
    · skip
      have hbad : ¬ (clT w c d = 0 ∧ sz c = sz' d ∧ kCK n k sz ce lF llF c c = kCK n k sz' ce' (clT w) (llT w) c d) := fun z => by have := z.2.1; omega
      refine WP.iconst dX3_canMap_68 ?_
      refine WP.zret dX3_canMap_69 rfl (by decide) ?_
      exact ⟨congrArg some (congrArg vI (bi_f hbad).symm), rfl⟩
    · skip
      refine WP.aload_n dX3_canMap_38 rfl ?_
      refine WP.getR (y := 103) dX3_canMap_39 fl_X3_21 (rfl) (by decide) (rfl) ?_
      refine WP.getR (y := 125) dX3_canMap_42 fl_X3_87 (rfl) (by decide) (rfl) ?_
      refine WP.iload_n dX3_canMap_45 rfl ?_
      refine WP.aaloadL (y := c) (z := (103 + 23 + c)) dX3_canMap_46 (rfl) (by omega) (by omega) ((srSd hs1).2.2) ?_
      refine WP.iload_n dX3_canMap_47 rfl ?_
      refine WP.laload (y := c) (x := (kCK n k sz ce lF llF c c)) dX3_canMap_48 ((shSk hs1 (d := c) (by omega)).2.2) (by omega) (by omega) ((hKF c (by omega)).2.2 c hc) ?_
      refine WP.aload_n dX3_canMap_49 rfl ?_
      refine WP.getR (y := 135) dX3_canMap_50 fl_X3_25 (rfl) (by decide) (rfl) ?_
      refine WP.getR (y := 157) dX3_canMap_53 fl_X3_87 (rfl) (by decide) (rfl) ?_
      refine WP.iload_n dX3_canMap_56 rfl ?_
      refine WP.aaloadL (y := c) (z := (135 + 23 + c)) dX3_canMap_57 (rfl) (by omega) (by omega) ((srSd hs2).2.2) ?_
      refine WP.iload_n dX3_canMap_58 rfl ?_
      refine WP.laload (y := d) (x := (kCK n k sz' ce' (clT w) (llT w) c d)) dX3_canMap_59 ((shSk hs2 (d := c) (by omega)).2.2) (by omega) (by omega) ((hKT c (Nat.le_refl _)).2.2 d hd) ?_
      refine WP.lcmp dX3_canMap_60 ?_
      refine WP.if_ne (tgt := 68) dX3_canMap_61 (by decide) (lcI_r) (fun h61 => ?_) (fun h61 => ?_)
      · skip
        have hbad : ¬ (clT w c d = 0 ∧ sz c = sz' d ∧ kCK n k sz ce lF llF c c = kCK n k sz' ce' (clT w) (llT w) c d) := fun z => h61 (lcI_0.mpr z.2.2)
        refine WP.iconst dX3_canMap_68 ?_
        refine WP.zret dX3_canMap_69 rfl (by decide) ?_
        exact ⟨congrArg some (congrArg vI (bi_f hbad).symm), rfl⟩
      · skip
        have q61 := lcI_0.mp h61
        refine WP.iconst dX3_canMap_64 ?_
        refine WP.goto (tgt := 69) dX3_canMap_65 (by decide) ?_
        refine WP.zret dX3_canMap_69 rfl (by decide) ?_
        exact ⟨congrArg some (congrArg vI (bi_t ⟨Classical.not_not.mp q8, by omega, q61⟩).symm), rfl⟩
set_option maxHeartbeats 4000000 in
set_option maxRecDepth 20000 in
theorem c_M_suits {M : Mem} {t n k : Nat} {sz sz' : Nat → Nat} {ce ce' : Nat → Nat → Nat} (hS : MST t n k sz ce sz' ce') (hC : MC M t n k sz ce sz' ce') {w : Nat → Nat} {c : Nat} (hc : c < k) (hZ : MZ M n k sz sz' ce' w c) {d x : Nat} (hd : d < k) (hz : sz' d = sz c) (hp : pmo (sz c) x) (hI : ∀ v, v < sz c → M 101 (c * 4 + v) = ((imo x v : Nat) : Int)) : CT 1 m_X3_suits [vR 99, vI ((c : Nat) : Int), vI ((d : Nat) : Int)] M (Rt (some (vI (bi ((∀ v, v < sz c → kLK n k sz ce lF llF c c v = kLK n k sz' ce' (clT w) (llT w) c d (imo x v)) ∧ foa (n, k, sz, ce) c x)))) M) := by
  obtain ⟨⟨ht, ht3, ht9⟩, hn, hW, hW2, h4, h42⟩ := id hS
  obtain ⟨hT, hT2, hm0, hm1, hLF, hTL, hKF⟩ := id hC
  have b1 := hW.1
  have b2 := hW.2.1
  have t0 : isT 0 := ⟨rfl, by decide⟩
  have ht2 := ht.2
  have hs1 : isS 103 := Or.inl rfl
  have hs2 : isS 135 := Or.inr rfl
  have h128 : 2 ^ 7 = 128 := rfl
  obtain ⟨hLT, hKT, hAr⟩ := id hZ
  have w1 := hW.2.2.1 c hc
  have w4 := h4 c hc
  refine CT.ofWP (by decide +kernel) (Nat.le_of_ble_eq_true rfl) ?_
  show WP sc0 1 m_X3_suits 0 [vR 99, vI ((c : Nat) : Int), vI ((d : Nat) : Int), vU, vU, vU] [] M (Rt (some (vI (bi ((∀ v, v < sz c → kLK n k sz ce lF llF c c v = kLK n k sz' ce' (clT w) (llT w) c d (imo x v)) ∧ foa (n, k, sz, ce) c x)))) M)
  refine WP.iconst dX3_suits_0 ?_
  refine WP.istore_n (lt := [vR 99, vI ((c : Nat) : Int), vI ((d : Nat) : Int), vI ((-1) : Int), vU, vU]) dX3_suits_1 (by decide) rfl ?_
  refine WP.iconst dX3_suits_2 ?_
  refine WP.istore (lt := [vR 99, vI ((c : Nat) : Int), vI ((d : Nat) : Int), vI ((-1) : Int), vI (0 : Int), vU]) dX3_suits_3 (by decide) rfl ?_
  have L5 : ∀ (n9 : Nat) (v : Nat) (u : Int) (hv : v ≤ sz c) (hu : u = -1 ∨ ∃ a, a < v ∧ (∀ r, r < n → ce r c ≠ a) ∧ u = ((imo x a : Nat) : Int)) (hK : ∀ a, a < v → kLK n k sz ce lF llF c c a = kLK n k sz' ce' (clT w) (llT w) c d (imo x a)) (hF : ∀ a, a < v → (∀ r, r < n → ce r c ≠ a) → ((imo x a : Nat) : Int) ≤ u) (hG : ∀ a b, a < b → b < v → (∀ r, r < n → ce r c ≠ a) → (∀ r, r < n → ce r c ≠ b) → imo x a < imo x b), sz c - v < n9 → WP sc0 1 m_X3_suits 5 [vR 99, vI ((c : Nat) : Int), vI ((d : Nat) : Int), vI u, vI ((v : Nat) : Int), vU] [] M (Rt (some (vI (bi ((∀ v, v < sz c → kLK n k sz ce lF llF c c v = kLK n k sz' ce' (clT w) (llT w) c d (imo x v)) ∧ foa (n, k, sz, ce) c x)))) M) := by
    intro n9
    induction n9 with
    | zero =>
      intro v u hv hu hK hF hG hm9
      exact absurd hm9 (Nat.not_lt_zero _)
    | succ n9 ih5 =>
      intro v u hv hu hK hF hG hm9
      have hur : -1 ≤ u ∧ u ≤ 3 := by
        rcases hu with z | ⟨a, _, _, z⟩
        · omega
        · have := imo_4 x a; omega
      refine WP.iload dX3_suits_5 rfl ?_
      refine WP.aload_n dX3_suits_7 rfl ?_
      refine WP.getR (y := 103) dX3_suits_8 fl_X3_21 (rfl) (by decide) (rfl) ?_
      refine WP.getM (y := 0) dX3_suits_11 fl_X3_66 (rfl) (by decide) (hm0) ?_
      refine WP.getR (y := 1) dX3_suits_14 fl_X3_63 (rfl) (by decide) (rfl) ?_
      refine WP.iload_n dX3_suits_17 rfl ?_
      refine WP.iaload (y := c) (x := ((sz c : Nat) : Int)) dX3_suits_18 (rfl) (by omega) (by omega) (hT.2.2.1 c hc) ?_
      refine WP.icmp_ge (tgt := 107) dX3_suits_19 (by decide) (by omega) (by omega) (fun h19 => ?_) (fun h19 => ?_)
      · skip
        refine WP.iconst dX3_suits_107 ?_
        refine WP.zret dX3_suits_108 rfl (by decide) ?_
        exact ⟨congrArg some (congrArg vI (bi_t ⟨fun a ha => hK a (by omega), fun a b hab hb => hG a b hab (by have : b < sz c := hb; omega)⟩).symm), rfl⟩
      · skip
        have wi := imo_4 x v
        have wi2 := hp.1 v (by omega)
        refine WP.aload_n dX3_suits_22 rfl ?_
        refine WP.getR (y := 101) dX3_suits_23 fl_X3_15 (rfl) (by decide) (rfl) ?_
        refine WP.iload_n dX3_suits_26 rfl ?_
        refine WP.iconst dX3_suits_27 ?_
        refine WP.imul dX3_suits_28 ?_
        refine WP.iload dX3_suits_29 rfl ?_
        refine WP.iadd dX3_suits_31 ?_
        refine WP.iaload (y := (c * 4 + v)) (x := ((imo x v : Nat) : Int)) dX3_suits_32 (rfl) (by omega) (by omega) (hI v (by omega)) ?_
        refine WP.istore (lt := [vR 99, vI ((c : Nat) : Int), vI ((d : Nat) : Int), vI u, vI ((v : Nat) : Int), vI ((imo x v : Nat) : Int)]) dX3_suits_33 (by decide) rfl ?_
        refine WP.aload_n dX3_suits_35 rfl ?_
        refine WP.getR (y := 103) dX3_suits_36 fl_X3_21 (rfl) (by decide) (rfl) ?_
        refine WP.getR (y := 116) dX3_suits_39 fl_X3_101 (rfl) (by decide) (rfl) ?_
        refine WP.iload_n dX3_suits_42 rfl ?_
        refine WP.aaloadL (y := c) (z := (103 + 14 + c)) dX3_suits_43 (rfl) (by omega) (by omega) ((srSd hs1).2.1) ?_
        refine WP.iload_n dX3_suits_44 rfl ?_
        refine WP.iconst dX3_suits_45 ?_
        refine WP.imul dX3_suits_46 ?_
        refine WP.iload dX3_suits_47 rfl ?_
        refine WP.iadd dX3_suits_49 ?_
        refine WP.laload (y := (c * 4 + v)) (x := (kLK n k sz ce lF llF c c v)) dX3_suits_50 ((shSk hs1 (d := c) (by omega)).2.1) (by omega) (by omega) ((hKF c (by omega)).2.1 c hc v (by omega)) ?_
        refine WP.aload_n dX3_suits_51 rfl ?_
        refine WP.getR (y := 135) dX3_suits_52 fl_X3_25 (rfl) (by decide) (rfl) ?_
        refine WP.getR (y := 148) dX3_suits_55 fl_X3_101 (rfl) (by decide) (rfl) ?_
        refine WP.iload_n dX3_suits_58 rfl ?_
        refine WP.aaloadL (y := c) (z := (135 + 14 + c)) dX3_suits_59 (rfl) (by omega) (by omega) ((srSd hs2).2.1) ?_
        refine WP.iload_n dX3_suits_60 rfl ?_
        refine WP.iconst dX3_suits_61 ?_
        refine WP.imul dX3_suits_62 ?_
        refine WP.iload dX3_suits_63 rfl ?_
        refine WP.iadd dX3_suits_65 ?_
        refine WP.laload (y := (d * 4 + imo x v)) (x := (kLK n k sz' ce' (clT w) (llT w) c d (imo x v))) dX3_suits_66 ((shSk hs2 (d := c) (by omega)).2.1) (by omega) (by omega) ((hKT c (Nat.le_refl _)).2.1 d hd (imo x v) (by omega)) ?_
        refine WP.lcmp dX3_suits_67 ?_
        refine WP.if_eq (tgt := 73) dX3_suits_68 (by decide) (lcI_r) (fun h68 => ?_) (fun h68 => ?_)
        · skip
          have hq68 := lcI_0.mp h68
          refine WP.aload_n dX3_suits_73 rfl ?_
          refine WP.getR (y := 103) dX3_suits_74 fl_X3_21 (rfl) (by decide) (rfl) ?_
          refine WP.getR (y := 106) dX3_suits_77 fl_X3_104 (rfl) (by decide) (rfl) ?_
          refine WP.iload_n dX3_suits_80 rfl ?_
          refine WP.iconst dX3_suits_81 ?_
          refine WP.imul dX3_suits_82 ?_
          refine WP.iload dX3_suits_83 rfl ?_
          refine WP.iadd dX3_suits_85 ?_
          refine WP.iaload (y := (c * 4 + v)) (x := ((cn (fun y9 => ce y9 c = v) n : Nat) : Int)) dX3_suits_86 (rfl) (by omega) (by omega) (hTL c hc v (by omega)) ?_
          refine WP.if_ne (tgt := 101) dX3_suits_87 (by decide) (by have := cn_le (fun y9 => ce y9 c = v) n; omega) (fun h87 => ?_) (fun h87 => ?_)
          · skip
            have hus : ¬ (∀ r, r < n → ce r c ≠ v) := fun z => h87 (by rw [cn_0.mpr z]; rfl)
            refine WP.iinc (lt := [vR 99, vI ((c : Nat) : Int), vI ((d : Nat) : Int), vI u, vI (((v : Nat) : Int) + 1), vI ((imo x v : Nat) : Int)]) dX3_suits_101 rfl (by decide) rfl ?_
            refine WP.goto (tgt := 5) dX3_suits_104 (by decide) ?_
            refine WP.fgt (lt := [vR 99, vI ((c : Nat) : Int), vI ((d : Nat) : Int), vI u, vI (((v + 1) : Nat) : Int), vU]) ⟨Or.inr rfl, Or.inr rfl, Or.inr rfl, Or.inr rfl, Or.inr (congrArg vI (by omega)), Or.inl rfl, trivial⟩ ?_
            exact ih5 (v + 1) (u) (by omega) (hu.elim Or.inl (fun ⟨a, z1, z2⟩ => Or.inr ⟨a, by omega, z2⟩)) (fun a ha => by
              by_cases e9 : a = v
              · rw [e9]; exact hq68
              · exact hK a (by omega)) (fun a ha hna => by
              by_cases e9 : a = v
              · rw [e9] at hna ⊢
                exact absurd hna hus
              · exact hF a (by omega) hna) (fun a b hab hb hna hnb => by
              by_cases e9 : b = v
              · rw [e9] at hnb ⊢
                exact absurd hnb hus
              · exact hG a b hab (by omega) hna hnb) (by omega)
          · skip
            have hun : (∀ r, r < n → ce r c ≠ v) := cn_0.mp (by omega)
            refine WP.iload dX3_suits_90 rfl ?_
            refine WP.iload_n dX3_suits_92 rfl ?_
            refine WP.icmp_ge (tgt := 98) dX3_suits_93 (by decide) (by omega) (by omega) (fun h93 => ?_) (fun h93 => ?_)
            · skip
              refine WP.iload dX3_suits_98 rfl ?_
              refine WP.istore_n (lt := [vR 99, vI ((c : Nat) : Int), vI ((d : Nat) : Int), vI ((imo x v : Nat) : Int), vI ((v : Nat) : Int), vI ((imo x v : Nat) : Int)]) dX3_suits_100 (by decide) rfl ?_
              refine WP.iinc (lt := [vR 99, vI ((c : Nat) : Int), vI ((d : Nat) : Int), vI ((imo x v : Nat) : Int), vI (((v : Nat) : Int) + 1), vI ((imo x v : Nat) : Int)]) dX3_suits_101 rfl (by decide) rfl ?_
              refine WP.goto (tgt := 5) dX3_suits_104 (by decide) ?_
              refine WP.fgt (lt := [vR 99, vI ((c : Nat) : Int), vI ((d : Nat) : Int), vI (((imo x v : Nat) : Int)), vI (((v + 1) : Nat) : Int), vU]) ⟨Or.inr rfl, Or.inr rfl, Or.inr rfl, Or.inr (congrArg vI (by omega)), Or.inr (congrArg vI (by omega)), Or.inl rfl, trivial⟩ ?_
              exact ih5 (v + 1) (((imo x v : Nat) : Int)) (by omega) (Or.inr ⟨v, by omega, hun, rfl⟩) (fun a ha => by
                by_cases e9 : a = v
                · rw [e9]; exact hq68
                · exact hK a (by omega)) (fun a ha hna => by
                by_cases e9 : a = v
                · rw [e9] at hna ⊢
                  exact Int.le_refl _
                · have := hF a (by omega) hna
                  omega) (fun a b hab hb hna hnb => by
                by_cases e9 : b = v
                · rw [e9] at hnb ⊢
                  have h8 := hF a (by omega) hna
                  have h7 : imo x a ≠ imo x v := fun z => by have := hp.2.1 a v (by omega) (by omega) z; omega
                  omega
                · exact hG a b hab (by omega) hna hnb) (by omega)
            · skip
              refine WP.iconst dX3_suits_96 ?_
              refine WP.zret dX3_suits_97 rfl (by decide) ?_
              exact ⟨congrArg some (congrArg vI (bi_f (fun z => by
                rcases hu with q | ⟨a, q1, q2, q3⟩
                · omega
                · have := z.2 a v q1 (show v < sz c by omega) q2 hun
                  omega)).symm), rfl⟩
        · skip
          have hq68 : ¬ (kLK n k sz ce lF llF c c v) = (kLK n k sz' ce' (clT w) (llT w) c d (imo x v)) := fun z => h68 (lcI_0.mpr z)
          refine WP.iconst dX3_suits_71 ?_
          refine WP.zret dX3_suits_72 rfl (by decide) ?_
          exact ⟨congrArg some (congrArg vI (bi_f (fun z => hq68 (z.1 v (by omega)))).symm), rfl⟩
  refine WP.fgt (lt := [vR 99, vI ((c : Nat) : Int), vI ((d : Nat) : Int), vI (-1), vI ((0 : Nat) : Int), vU]) ⟨Or.inr rfl, Or.inr rfl, Or.inr rfl, Or.inr (congrArg vI (by omega)), Or.inr (congrArg vI (by omega)), Or.inl rfl, trivial⟩ ?_
  exact L5 _ (0) (-1) (Nat.zero_le _) (Or.inl rfl) (fun a ha => absurd ha (Nat.not_lt_zero a)) (fun a ha => absurd ha (Nat.not_lt_zero a)) (fun a b _ hb => absurd hb (Nat.not_lt_zero b)) (Nat.lt_succ_self _)
set_option maxHeartbeats 4000000 in
set_option maxRecDepth 20000 in
theorem c_M_label {M : Mem} {t n k : Nat} {sz sz' : Nat → Nat} {ce ce' : Nat → Nat → Nat} (hS : MST t n k sz ce sz' ce') (hC : MC M t n k sz ce sz' ce') {c d x : Nat} {o : Int} (hc : c < k) (hd : d < k) (ho : o = 0 ∨ o = 1) (hp : pmo (sz c) x) (hI : ∀ v, v < sz c → M 101 (c * 4 + v) = ((imo x v : Nat) : Int)) : CT 1 m_X3_labelImages [vR 99, vI ((c : Nat) : Int), vI ((d : Nat) : Int), vI o] M (fun z M' => z = none ∧ (∀ a, a ≠ 136 → a ≠ 137 → M' a = M a) ∧ (∀ e, M' 136 e = if e = d then lv o (c + 1) else M 136 e) ∧ (∀ u, u < sz c → M' 137 (d * 4 + imo x u) = lv o (u + 1)) ∧ ∀ e u, e ≠ d → u < 4 → M' 137 (e * 4 + u) = M 137 (e * 4 + u)) := by
  obtain ⟨⟨ht, ht3, ht9⟩, hn, hW, hW2, h4, h42⟩ := id hS
  obtain ⟨hT, hT2, hm0, hm1, hLF, hTL, hKF⟩ := id hC
  have b1 := hW.1
  have b2 := hW.2.1
  have t0 : isT 0 := ⟨rfl, by decide⟩
  have ht2 := ht.2
  have hs1 : isS 103 := Or.inl rfl
  have hs2 : isS 135 := Or.inr rfl
  have h128 : 2 ^ 7 = 128 := rfl
  have w1 := hW.2.2.1 c hc
  have w4 := h4 c hc
  refine CT.ofWP (by decide +kernel) (Nat.le_of_ble_eq_true rfl) ?_
  show WP sc0 1 m_X3_labelImages 0 [vR 99, vI ((c : Nat) : Int), vI ((d : Nat) : Int), vI o, vU, vU] [] M (fun z M' => z = none ∧ (∀ a, a ≠ 136 → a ≠ 137 → M' a = M a) ∧ (∀ e, M' 136 e = if e = d then lv o (c + 1) else M 136 e) ∧ (∀ u, u < sz c → M' 137 (d * 4 + imo x u) = lv o (u + 1)) ∧ ∀ e u, e ≠ d → u < 4 → M' 137 (e * 4 + u) = M 137 (e * 4 + u))
  refine WP.aload_n dX3_labelImages_0 rfl ?_
  refine WP.getR (y := 135) dX3_labelImages_1 fl_X3_25 (rfl) (by decide) (rfl) ?_
  refine WP.getR (y := 136) dX3_labelImages_4 fl_X3_107 (rfl) (by decide) (rfl) ?_
  refine WP.iload_n dX3_labelImages_7 rfl ?_
  refine WP.iload_n dX3_labelImages_8 rfl ?_
  refine WP.if_eq (tgt := 24) dX3_labelImages_9 (by decide) (by omega) (fun h9 => ?_) (fun h9 => ?_)
  · skip
    have ho1 : o = 0 := h9
    refine WP.iconst dX3_labelImages_24 ?_
    refine WP.iastore (y := d) dX3_labelImages_25 (rfl) (by omega) (by omega) rfl ?_
    obtain ⟨M1, hM1⟩ : ∃ z, z = (mset M 136 d (0 : Int)) := ⟨_, rfl⟩
    refine WP.eqM hM1.symm ?_
    have hO1 : ∀ x, x ≠ 136 → M1 x = M x := fun x hx => by rw [hM1]; exact mset_o x hx
    have hE1 : ∀ e, M1 136 e = if e = d then lv o (c + 1) else M 136 e := fun e => by
      rw [hM1]
      by_cases e9 : e = d
      · rw [e9, mset_s, if_pos rfl, ho1]; rfl
      · rw [mset_n (Or.inr e9), if_neg e9]
    refine WP.iconst dX3_labelImages_26 ?_
    refine WP.istore (lt := [vR 99, vI ((c : Nat) : Int), vI ((d : Nat) : Int), vI o, vI (0 : Int), vU]) dX3_labelImages_27 (by decide) rfl ?_
    have L29 : ∀ (n9 : Nat) (v : Nat) (M2 : Mem) (hv : v ≤ sz c) (hF2 : ∀ x, x ≠ 137 → M2 x = M1 x) (hA2 : ∀ u, u < v → M2 137 (d * 4 + imo x u) = lv o (u + 1)) (hB2 : ∀ e u, e ≠ d → u < 4 → M2 137 (e * 4 + u) = M 137 (e * 4 + u)), sz c - v < n9 → WP sc0 1 m_X3_labelImages 29 [vR 99, vI ((c : Nat) : Int), vI ((d : Nat) : Int), vI o, vI ((v : Nat) : Int), vU] [] M2 (fun z M' => z = none ∧ (∀ a, a ≠ 136 → a ≠ 137 → M' a = M a) ∧ (∀ e, M' 136 e = if e = d then lv o (c + 1) else M 136 e) ∧ (∀ u, u < sz c → M' 137 (d * 4 + imo x u) = lv o (u + 1)) ∧ ∀ e u, e ≠ d → u < 4 → M' 137 (e * 4 + u) = M 137 (e * 4 + u)) := by
      intro n9
      induction n9 with
      | zero =>
        intro v M2 hv hF2 hA2 hB2 hm9
        exact absurd hm9 (Nat.not_lt_zero _)
      | succ n9 ih29 =>
        intro v M2 hv hF2 hA2 hB2 hm9
        have hC2 : MC M2 t n k sz ce sz' ce' := MC.fr hS hC (fun x hx => by rw [hF2 x (by omega), hO1 x (by omega)])
        obtain ⟨hT2, hT22, hm02, hm12, hLF2, hTL2, hKF2⟩ := id hC2
        refine WP.iload dX3_labelImages_29 rfl ?_
        refine WP.aload_n dX3_labelImages_31 rfl ?_
        refine WP.getR (y := 103) dX3_labelImages_32 fl_X3_21 (rfl) (by decide) (rfl) ?_
        refine WP.getM (y := 0) dX3_labelImages_35 fl_X3_66 (rfl) (by decide) (hm02) ?_
        refine WP.getR (y := 1) dX3_labelImages_38 fl_X3_63 (rfl) (by decide) (rfl) ?_
        refine WP.iload_n dX3_labelImages_41 rfl ?_
        refine WP.iaload (y := c) (x := ((sz c : Nat) : Int)) dX3_labelImages_42 (rfl) (by omega) (by omega) (hT2.2.2.1 c hc) ?_
        refine WP.icmp_ge (tgt := 97) dX3_labelImages_43 (by decide) (by omega) (by omega) (fun h43 => ?_) (fun h43 => ?_)
        · skip
          refine WP.vret dX3_labelImages_97 rfl ?_
          exact ⟨rfl, fun x i1 i2 => by rw [hF2 x i2, hO1 x i1], fun e => by rw [hF2 _ (by decide)]; exact hE1 e, fun u hu => hA2 u (by omega), hB2⟩
        · skip
          have wi := imo_4 x v
          refine WP.iload_n dX3_labelImages_46 rfl ?_
          refine WP.iconst dX3_labelImages_47 ?_
          refine WP.imul dX3_labelImages_48 ?_
          refine WP.iload dX3_labelImages_49 rfl ?_
          refine WP.iadd dX3_labelImages_51 ?_
          refine WP.istore (lt := [vR 99, vI ((c : Nat) : Int), vI ((d : Nat) : Int), vI o, vI ((v : Nat) : Int), vI ((((c : Nat) : Int) * (4 : Int)) + ((v : Nat) : Int))]) dX3_labelImages_52 (by decide) rfl ?_
          refine WP.aload_n dX3_labelImages_54 rfl ?_
          refine WP.getR (y := 135) dX3_labelImages_55 fl_X3_25 (rfl) (by decide) (rfl) ?_
          refine WP.getR (y := 137) dX3_labelImages_58 fl_X3_110 (rfl) (by decide) (rfl) ?_
          refine WP.iload_n dX3_labelImages_61 rfl ?_
          refine WP.iconst dX3_labelImages_62 ?_
          refine WP.imul dX3_labelImages_63 ?_
          refine WP.aload_n dX3_labelImages_64 rfl ?_
          refine WP.getR (y := 101) dX3_labelImages_65 fl_X3_15 (rfl) (by decide) (rfl) ?_
          refine WP.iload dX3_labelImages_68 rfl ?_
          refine WP.iaload (y := (c * 4 + v)) (x := ((imo x v : Nat) : Int)) dX3_labelImages_70 (rfl) (by omega) (by omega) (by rw [hF2 _ (by decide), hO1 _ (by decide)]; exact hI v (by omega)) ?_
          refine WP.iadd dX3_labelImages_71 ?_
          refine WP.iload_n dX3_labelImages_72 rfl ?_
          refine WP.if_eq (tgt := 89) dX3_labelImages_73 (by decide) (by omega) (fun h73 => ?_) (fun h73 => ?_)
          · skip
            have ho2 : o = 0 := h73
            refine WP.iconst dX3_labelImages_89 ?_
            refine WP.iastore (y := (d * 4 + imo x v)) dX3_labelImages_90 (rfl) (by omega) (by omega) rfl ?_
            obtain ⟨M3, hM3⟩ : ∃ z, z = (mset M2 137 ((d * 4 + imo x v)) (0 : Int)) := ⟨_, rfl⟩
            refine WP.eqM hM3.symm ?_
            refine WP.iinc (lt := [vR 99, vI ((c : Nat) : Int), vI ((d : Nat) : Int), vI o, vI (((v : Nat) : Int) + 1), vI ((((c : Nat) : Int) * (4 : Int)) + ((v : Nat) : Int))]) dX3_labelImages_91 rfl (by decide) rfl ?_
            refine WP.goto (tgt := 29) dX3_labelImages_94 (by decide) ?_
            refine WP.fgt (lt := [vR 99, vI ((c : Nat) : Int), vI ((d : Nat) : Int), vI o, vI (((v + 1) : Nat) : Int), vU]) ⟨Or.inr rfl, Or.inr rfl, Or.inr rfl, Or.inr rfl, Or.inr (congrArg vI (by omega)), Or.inl rfl, trivial⟩ ?_
            exact ih29 (v + 1) (M3) (by omega) (fun x hx => by rw [hM3, mset_o x hx]; exact hF2 x hx) (fun u hu => by
              rw [hM3]
              by_cases e9 : u = v
              · rw [e9, mset_s, ho2]; rfl
              · have h7 : imo x u ≠ imo x v := fun z => e9 (hp.2.1 u v (by omega) (by omega) z)
                rw [mset_n (Or.inr (by omega))]; exact hA2 u (by omega)) (fun e u i1 i2 => by rw [hM3, mset_n (Or.inr (by omega))]; exact hB2 e u i1 i2) (by omega)
          · skip
            have ho2 : o = 1 := by omega
            refine WP.aload_n dX3_labelImages_76 rfl ?_
            refine WP.getR (y := 103) dX3_labelImages_77 fl_X3_21 (rfl) (by decide) (rfl) ?_
            refine WP.getR (y := 105) dX3_labelImages_80 fl_X3_110 (rfl) (by decide) (rfl) ?_
            refine WP.iload dX3_labelImages_83 rfl ?_
            refine WP.iaload (y := (c * 4 + v)) (x := ((v + 1 : Nat) : Int)) dX3_labelImages_85 (rfl) (by omega) (by omega) (by rw [((hLF2 c hc).2 v (by omega)).1]; unfold llF; rw [if_pos hc]) ?_
            refine WP.goto (tgt := 90) dX3_labelImages_86 (by decide) ?_
            refine WP.iastore (y := (d * 4 + imo x v)) dX3_labelImages_90 (rfl) (by omega) (by omega) rfl ?_
            obtain ⟨M3, hM3⟩ : ∃ z, z = (mset M2 137 ((d * 4 + imo x v)) ((v + 1 : Nat) : Int)) := ⟨_, rfl⟩
            refine WP.eqM hM3.symm ?_
            refine WP.iinc (lt := [vR 99, vI ((c : Nat) : Int), vI ((d : Nat) : Int), vI o, vI (((v : Nat) : Int) + 1), vI ((((c : Nat) : Int) * (4 : Int)) + ((v : Nat) : Int))]) dX3_labelImages_91 rfl (by decide) rfl ?_
            refine WP.goto (tgt := 29) dX3_labelImages_94 (by decide) ?_
            refine WP.fgt (lt := [vR 99, vI ((c : Nat) : Int), vI ((d : Nat) : Int), vI o, vI (((v + 1) : Nat) : Int), vU]) ⟨Or.inr rfl, Or.inr rfl, Or.inr rfl, Or.inr rfl, Or.inr (congrArg vI (by omega)), Or.inl rfl, trivial⟩ ?_
            exact ih29 (v + 1) (M3) (by omega) (fun x hx => by rw [hM3, mset_o x hx]; exact hF2 x hx) (fun u hu => by
              rw [hM3]
              by_cases e9 : u = v
              · rw [e9, mset_s, ho2]; rfl
              · have h7 : imo x u ≠ imo x v := fun z => e9 (hp.2.1 u v (by omega) (by omega) z)
                rw [mset_n (Or.inr (by omega))]; exact hA2 u (by omega)) (fun e u i1 i2 => by rw [hM3, mset_n (Or.inr (by omega))]; exact hB2 e u i1 i2) (by omega)
    refine WP.fgt (lt := [vR 99, vI ((c : Nat) : Int), vI ((d : Nat) : Int), vI o, vI ((0 : Nat) : Int), vU]) ⟨Or.inr rfl, Or.inr rfl, Or.inr rfl, Or.inr rfl, Or.inr (congrArg vI (by omega)), Or.inl rfl, trivial⟩ ?_
    exact L29 _ (0) (M1) (Nat.zero_le _) (fun _ _ => rfl) (fun u hu => absurd hu (Nat.not_lt_zero u)) (fun e u _ _ => by rw [hO1 _ (by decide)]) (Nat.lt_succ_self _)
  · skip
    have ho1 : o = 1 := by omega
    refine WP.aload_n dX3_labelImages_12 rfl ?_
    refine WP.getR (y := 103) dX3_labelImages_13 fl_X3_21 (rfl) (by decide) (rfl) ?_
    refine WP.getR (y := 104) dX3_labelImages_16 fl_X3_107 (rfl) (by decide) (rfl) ?_
    refine WP.iload_n dX3_labelImages_19 rfl ?_
    refine WP.iaload (y := c) (x := ((c + 1 : Nat) : Int)) dX3_labelImages_20 (rfl) (by omega) (by omega) (by rw [(hLF c hc).1.1]; unfold lF; rw [if_pos hc]) ?_
    refine WP.goto (tgt := 25) dX3_labelImages_21 (by decide) ?_
    refine WP.iastore (y := d) dX3_labelImages_25 (rfl) (by omega) (by omega) rfl ?_
    obtain ⟨M1, hM1⟩ : ∃ z, z = (mset M 136 d ((c + 1 : Nat) : Int)) := ⟨_, rfl⟩
    refine WP.eqM hM1.symm ?_
    have hO1 : ∀ x, x ≠ 136 → M1 x = M x := fun x hx => by rw [hM1]; exact mset_o x hx
    have hE1 : ∀ e, M1 136 e = if e = d then lv o (c + 1) else M 136 e := fun e => by
      rw [hM1]
      by_cases e9 : e = d
      · rw [e9, mset_s, if_pos rfl, ho1]; rfl
      · rw [mset_n (Or.inr e9), if_neg e9]
    refine WP.iconst dX3_labelImages_26 ?_
    refine WP.istore (lt := [vR 99, vI ((c : Nat) : Int), vI ((d : Nat) : Int), vI o, vI (0 : Int), vU]) dX3_labelImages_27 (by decide) rfl ?_
    have L29 : ∀ (n9 : Nat) (v : Nat) (M2 : Mem) (hv : v ≤ sz c) (hF2 : ∀ x, x ≠ 137 → M2 x = M1 x) (hA2 : ∀ u, u < v → M2 137 (d * 4 + imo x u) = lv o (u + 1)) (hB2 : ∀ e u, e ≠ d → u < 4 → M2 137 (e * 4 + u) = M 137 (e * 4 + u)), sz c - v < n9 → WP sc0 1 m_X3_labelImages 29 [vR 99, vI ((c : Nat) : Int), vI ((d : Nat) : Int), vI o, vI ((v : Nat) : Int), vU] [] M2 (fun z M' => z = none ∧ (∀ a, a ≠ 136 → a ≠ 137 → M' a = M a) ∧ (∀ e, M' 136 e = if e = d then lv o (c + 1) else M 136 e) ∧ (∀ u, u < sz c → M' 137 (d * 4 + imo x u) = lv o (u + 1)) ∧ ∀ e u, e ≠ d → u < 4 → M' 137 (e * 4 + u) = M 137 (e * 4 + u)) := by
      intro n9
      induction n9 with
      | zero =>
        intro v M2 hv hF2 hA2 hB2 hm9
        exact absurd hm9 (Nat.not_lt_zero _)
      | succ n9 ih29 =>
        intro v M2 hv hF2 hA2 hB2 hm9
        have hC2 : MC M2 t n k sz ce sz' ce' := MC.fr hS hC (fun x hx => by rw [hF2 x (by omega), hO1 x (by omega)])
        obtain ⟨hT2, hT22, hm02, hm12, hLF2, hTL2, hKF2⟩ := id hC2
        refine WP.iload dX3_labelImages_29 rfl ?_
        refine WP.aload_n dX3_labelImages_31 rfl ?_
        refine WP.getR (y := 103) dX3_labelImages_32 fl_X3_21 (rfl) (by decide) (rfl) ?_
        refine WP.getM (y := 0) dX3_labelImages_35 fl_X3_66 (rfl) (by decide) (hm02) ?_
        refine WP.getR (y := 1) dX3_labelImages_38 fl_X3_63 (rfl) (by decide) (rfl) ?_
        refine WP.iload_n dX3_labelImages_41 rfl ?_
        refine WP.iaload (y := c) (x := ((sz c : Nat) : Int)) dX3_labelImages_42 (rfl) (by omega) (by omega) (hT2.2.2.1 c hc) ?_
        refine WP.icmp_ge (tgt := 97) dX3_labelImages_43 (by decide) (by omega) (by omega) (fun h43 => ?_) (fun h43 => ?_)
        · skip
          refine WP.vret dX3_labelImages_97 rfl ?_
          exact ⟨rfl, fun x i1 i2 => by rw [hF2 x i2, hO1 x i1], fun e => by rw [hF2 _ (by decide)]; exact hE1 e, fun u hu => hA2 u (by omega), hB2⟩
        · skip
          have wi := imo_4 x v
          refine WP.iload_n dX3_labelImages_46 rfl ?_
          refine WP.iconst dX3_labelImages_47 ?_
          refine WP.imul dX3_labelImages_48 ?_
          refine WP.iload dX3_labelImages_49 rfl ?_
          refine WP.iadd dX3_labelImages_51 ?_
          refine WP.istore (lt := [vR 99, vI ((c : Nat) : Int), vI ((d : Nat) : Int), vI o, vI ((v : Nat) : Int), vI ((((c : Nat) : Int) * (4 : Int)) + ((v : Nat) : Int))]) dX3_labelImages_52 (by decide) rfl ?_
          refine WP.aload_n dX3_labelImages_54 rfl ?_
          refine WP.getR (y := 135) dX3_labelImages_55 fl_X3_25 (rfl) (by decide) (rfl) ?_
          refine WP.getR (y := 137) dX3_labelImages_58 fl_X3_110 (rfl) (by decide) (rfl) ?_
          refine WP.iload_n dX3_labelImages_61 rfl ?_
          refine WP.iconst dX3_labelImages_62 ?_
          refine WP.imul dX3_labelImages_63 ?_
          refine WP.aload_n dX3_labelImages_64 rfl ?_
          refine WP.getR (y := 101) dX3_labelImages_65 fl_X3_15 (rfl) (by decide) (rfl) ?_
          refine WP.iload dX3_labelImages_68 rfl ?_
          refine WP.iaload (y := (c * 4 + v)) (x := ((imo x v : Nat) : Int)) dX3_labelImages_70 (rfl) (by omega) (by omega) (by rw [hF2 _ (by decide), hO1 _ (by decide)]; exact hI v (by omega)) ?_
          refine WP.iadd dX3_labelImages_71 ?_
          refine WP.iload_n dX3_labelImages_72 rfl ?_
          refine WP.if_eq (tgt := 89) dX3_labelImages_73 (by decide) (by omega) (fun h73 => ?_) (fun h73 => ?_)
          · skip
            have ho2 : o = 0 := h73
            refine WP.iconst dX3_labelImages_89 ?_
            refine WP.iastore (y := (d * 4 + imo x v)) dX3_labelImages_90 (rfl) (by omega) (by omega) rfl ?_
            obtain ⟨M3, hM3⟩ : ∃ z, z = (mset M2 137 ((d * 4 + imo x v)) (0 : Int)) := ⟨_, rfl⟩
            refine WP.eqM hM3.symm ?_
            refine WP.iinc (lt := [vR 99, vI ((c : Nat) : Int), vI ((d : Nat) : Int), vI o, vI (((v : Nat) : Int) + 1), vI ((((c : Nat) : Int) * (4 : Int)) + ((v : Nat) : Int))]) dX3_labelImages_91 rfl (by decide) rfl ?_
            refine WP.goto (tgt := 29) dX3_labelImages_94 (by decide) ?_
            refine WP.fgt (lt := [vR 99, vI ((c : Nat) : Int), vI ((d : Nat) : Int), vI o, vI (((v + 1) : Nat) : Int), vU]) ⟨Or.inr rfl, Or.inr rfl, Or.inr rfl, Or.inr rfl, Or.inr (congrArg vI (by omega)), Or.inl rfl, trivial⟩ ?_
            exact ih29 (v + 1) (M3) (by omega) (fun x hx => by rw [hM3, mset_o x hx]; exact hF2 x hx) (fun u hu => by
              rw [hM3]
              by_cases e9 : u = v
              · rw [e9, mset_s, ho2]; rfl
              · have h7 : imo x u ≠ imo x v := fun z => e9 (hp.2.1 u v (by omega) (by omega) z)
                rw [mset_n (Or.inr (by omega))]; exact hA2 u (by omega)) (fun e u i1 i2 => by rw [hM3, mset_n (Or.inr (by omega))]; exact hB2 e u i1 i2) (by omega)
          · skip
            have ho2 : o = 1 := by omega
            refine WP.aload_n dX3_labelImages_76 rfl ?_
            refine WP.getR (y := 103) dX3_labelImages_77 fl_X3_21 (rfl) (by decide) (rfl) ?_
            refine WP.getR (y := 105) dX3_labelImages_80 fl_X3_110 (rfl) (by decide) (rfl) ?_
            refine WP.iload dX3_labelImages_83 rfl ?_
            refine WP.iaload (y := (c * 4 + v)) (x := ((v + 1 : Nat) : Int)) dX3_labelImages_85 (rfl) (by omega) (by omega) (by rw [((hLF2 c hc).2 v (by omega)).1]; unfold llF; rw [if_pos hc]) ?_
            refine WP.goto (tgt := 90) dX3_labelImages_86 (by decide) ?_
            refine WP.iastore (y := (d * 4 + imo x v)) dX3_labelImages_90 (rfl) (by omega) (by omega) rfl ?_
            obtain ⟨M3, hM3⟩ : ∃ z, z = (mset M2 137 ((d * 4 + imo x v)) ((v + 1 : Nat) : Int)) := ⟨_, rfl⟩
            refine WP.eqM hM3.symm ?_
            refine WP.iinc (lt := [vR 99, vI ((c : Nat) : Int), vI ((d : Nat) : Int), vI o, vI (((v : Nat) : Int) + 1), vI ((((c : Nat) : Int) * (4 : Int)) + ((v : Nat) : Int))]) dX3_labelImages_91 rfl (by decide) rfl ?_
            refine WP.goto (tgt := 29) dX3_labelImages_94 (by decide) ?_
            refine WP.fgt (lt := [vR 99, vI ((c : Nat) : Int), vI ((d : Nat) : Int), vI o, vI (((v + 1) : Nat) : Int), vU]) ⟨Or.inr rfl, Or.inr rfl, Or.inr rfl, Or.inr rfl, Or.inr (congrArg vI (by omega)), Or.inl rfl, trivial⟩ ?_
            exact ih29 (v + 1) (M3) (by omega) (fun x hx => by rw [hM3, mset_o x hx]; exact hF2 x hx) (fun u hu => by
              rw [hM3]
              by_cases e9 : u = v
              · rw [e9, mset_s, ho2]; rfl
              · have h7 : imo x u ≠ imo x v := fun z => e9 (hp.2.1 u v (by omega) (by omega) z)
                rw [mset_n (Or.inr (by omega))]; exact hA2 u (by omega)) (fun e u i1 i2 => by rw [hM3, mset_n (Or.inr (by omega))]; exact hB2 e u i1 i2) (by omega)
    refine WP.fgt (lt := [vR 99, vI ((c : Nat) : Int), vI ((d : Nat) : Int), vI o, vI ((0 : Nat) : Int), vU]) ⟨Or.inr rfl, Or.inr rfl, Or.inr rfl, Or.inr rfl, Or.inr (congrArg vI (by omega)), Or.inl rfl, trivial⟩ ?_
    exact L29 _ (0) (M1) (Nat.zero_le _) (fun _ _ => rfl) (fun u hu => absurd hu (Nat.not_lt_zero u)) (fun e u _ _ => by rw [hO1 _ (by decide)]) (Nat.lt_succ_self _)
