set_option maxHeartbeats 4000000 in
set_option maxRecDepth 20000 in
theorem c_M_assignLevels {M : Mem} {t n k : Nat} {sz sz' : Nat → Nat} {ce ce' : Nat → Nat → Nat} (hS : MST t n k sz ce sz' ce') (hC : MC M t n k sz ce sz' ce') {w : Nat → Nat} {c d D : Nat} (hc : c < k) (hZ : MZ M n k sz sz' ce' w c) (hd : d < k) (hz : sz' d = sz c) (hP : isoP (n, k, sz, ce) (n, k, sz', ce') w c) (hwd : ∀ b, b < c → w b / 256 ≠ d) (hA : AC t n k sz ce sz' ce' (c + 1) (D + 4)) : CT (D + 5) m_X3_assignLevels [vR 99, vI ((c : Nat) : Int), vI ((d : Nat) : Int)] M (AQ M n k sz ce sz' ce' w c (fun y => (∀ b, b < c → y b = w b) ∧ y c / 256 = d)) := by
  obtain ⟨⟨ht, ht3, ht9⟩, hn, hW, hW2, h4, h42⟩ := id hS
  obtain ⟨hT, hT2, hm0, hm1, hLF, hTL, hKF⟩ := id hC
  have b1 := hW.1
  have b2 := hW.2.1
  have t0 : isT 0 := ⟨rfl, by decide⟩
  have ht2 := ht.2
  have hs1 : isS 103 := Or.inl rfl
  have hs2 : isS 135 := Or.inr rfl
  have h128 : 2 ^ 7 = 128 := rfl
  obtain ⟨hLT, hKT, hAr⟩ := id hZ
  have w1 := hW.2.2.1 c hc
  have w4 := h4 c hc
  refine CT.ofWP (by decide +kernel) (Nat.le_of_ble_eq_true rfl) ?_
  show WP sc0 (D + 5) m_X3_assignLevels 0 [vR 99, vI ((c : Nat) : Int), vI ((d : Nat) : Int), vU, vU, vU, vU] [] M (AQ M n k sz ce sz' ce' w c (fun y => (∀ b, b < c → y b = w b) ∧ y c / 256 = d))
  refine WP.iload_n dX3_assignLevels_0 rfl ?_
  refine WP.iconst dX3_assignLevels_1 ?_
  refine WP.imul dX3_assignLevels_2 ?_
  refine WP.istore_n (lt := [vR 99, vI ((c : Nat) : Int), vI ((d : Nat) : Int), vI (((c : Nat) : Int) * (4 : Int)), vU, vU, vU]) dX3_assignLevels_3 (by decide) rfl ?_
  refine WP.aload_n dX3_assignLevels_4 rfl ?_
  refine WP.getR (y := 103) dX3_assignLevels_5 fl_X3_21 (rfl) (by decide) (rfl) ?_
  refine WP.getM (y := 0) dX3_assignLevels_8 fl_X3_66 (rfl) (by decide) (hm0) ?_
  refine WP.getR (y := 1) dX3_assignLevels_11 fl_X3_63 (rfl) (by decide) (rfl) ?_
  refine WP.iload_n dX3_assignLevels_14 rfl ?_
  refine WP.iaload (y := c) (x := ((sz c : Nat) : Int)) dX3_assignLevels_15 (rfl) (by omega) (by omega) (hT.2.2.1 c hc) ?_
  refine WP.istore (lt := [vR 99, vI ((c : Nat) : Int), vI ((d : Nat) : Int), vI (((c : Nat) : Int) * (4 : Int)), vI ((sz c : Nat) : Int), vU, vU]) dX3_assignLevels_16 (by decide) rfl ?_
  refine WP.iconst dX3_assignLevels_18 ?_
  refine WP.istore (lt := [vR 99, vI ((c : Nat) : Int), vI ((d : Nat) : Int), vI (((c : Nat) : Int) * (4 : Int)), vI ((sz c : Nat) : Int), vI (0 : Int), vU]) dX3_assignLevels_19 (by decide) rfl ?_
  have L21 : ∀ (n9 : Nat) (v : Nat) (M1 : Mem) (hv : v ≤ sz c) (hF1 : ∀ a, a ≠ 101 → M1 a = M a) (hA1 : ∀ u, u < v → M1 101 (c * 4 + u) = ((u : Nat) : Int)) (hB1 : ∀ i, i < c * 4 → M1 101 i = M 101 i), sz c - v < n9 → WP sc0 (D + 5) m_X3_assignLevels 21 [vR 99, vI ((c : Nat) : Int), vI ((d : Nat) : Int), vI ((c * 4 : Nat) : Int), vI ((sz c : Nat) : Int), vI ((v : Nat) : Int), vU] [] M1 (AQ M n k sz ce sz' ce' w c (fun y => (∀ b, b < c → y b = w b) ∧ y c / 256 = d)) := by
    intro n9
    induction n9 with
    | zero =>
      intro v M1 hv hF1 hA1 hB1 hm9
      exact absurd hm9 (Nat.not_lt_zero _)
    | succ n9 ih21 =>
      intro v M1 hv hF1 hA1 hB1 hm9
      refine WP.iload dX3_assignLevels_21 rfl ?_
      refine WP.iload dX3_assignLevels_23 rfl ?_
      refine WP.icmp_ge (tgt := 45) dX3_assignLevels_25 (by decide) (by omega) (by omega) (fun h25 => ?_) (fun h25 => ?_)
      · skip
        refine WP.aload_n dX3_assignLevels_45 rfl ?_
        refine WP.getR (y := 100) dX3_assignLevels_46 fl_X3_9 (rfl) (by decide) (rfl) ?_
        refine WP.iload_n dX3_assignLevels_49 rfl ?_
        refine WP.iload_n dX3_assignLevels_50 rfl ?_
        refine WP.iastore (y := c) dX3_assignLevels_51 (rfl) (by omega) (by omega) rfl ?_
        obtain ⟨M2, hM2⟩ : ∃ z, z = (mset M1 100 c ((d : Nat) : Int)) := ⟨_, rfl⟩
        refine WP.eqM hM2.symm ?_
        have hO2 : ∀ a, a ≠ 100 → M2 a = M1 a := fun a ha => by rw [hM2]; exact mset_o a ha
        have hF2 : ∀ a, a ≠ 100 → a ≠ 101 → M2 a = M a := fun a i1 i2 => (hO2 a i1).trans (hF1 a i2)
        have hZ2 : MZ M2 n k sz sz' ce' w c := MZ_chg (fun b hb => h4 b (by omega)) (by omega) hZ (fun a i1 i2 _ _ => hF2 a i1 i2) (fun b hb => by rw [hM2, mset_n (Or.inr (by omega)), hF1 100 (by decide)]) (fun i hi => by rw [hO2 _ (by decide)]; exact hB1 i hi)
        obtain ⟨p1, p2, p3, p4, p5⟩ := id0_ok (s := sz c) (by omega)
        have hQ2 : LQ M2 n k sz ce sz' ce' w c d 0 (id0 (sz c)) 1 := Or.inl ⟨rfl, by rw [hM2, mset_s], p1, p2, p3.symm, fun v hv => by rw [hO2 _ (by decide), hA1 v (by omega), p4 v hv], fun y hy _ _ => by
          rcases Nat.lt_or_ge (y c % 256) (id0 (sz c)) with z | z
          · exact absurd (pmo_md.mpr (hy.2.2.1 c hc).2.2.1) (p5 _ z)
          · exact z⟩
        refine WP.iconst dX3_assignLevels_52 ?_
        refine WP.istore (lt := [vR 99, vI ((c : Nat) : Int), vI ((d : Nat) : Int), vI ((c * 4 : Nat) : Int), vI ((sz c : Nat) : Int), vI (1 : Int), vU]) dX3_assignLevels_53 (by decide) rfl ?_
        refine WP.iconst dX3_assignLevels_55 ?_
        refine WP.istore (lt := [vR 99, vI ((c : Nat) : Int), vI ((d : Nat) : Int), vI ((c * 4 : Nat) : Int), vI ((sz c : Nat) : Int), vI (1 : Int), vI (0 : Int)]) dX3_assignLevels_56 (by decide) rfl ?_
        have L58 : ∀ (n9 : Nat) (turn x : Nat) (m : Int) (M3 : Mem) (htn : turn ≤ 24) (hF3 : ∀ a, ¬ ZF c a → M3 a = M a) (hZ3 : MZ M3 n k sz sz' ce' w c) (hQ3 : LQ M3 n k sz ce sz' ce' w c d turn x m), 25 - turn < n9 → WP sc0 (D + 5) m_X3_assignLevels 58 [vR 99, vI ((c : Nat) : Int), vI ((d : Nat) : Int), vI ((c * 4 : Nat) : Int), vI ((sz c : Nat) : Int), vI m, vI ((turn : Nat) : Int)] [] M3 (AQ M n k sz ce sz' ce' w c (fun y => (∀ b, b < c → y b = w b) ∧ y c / 256 = d)) := by
          intro n9
          induction n9 with
          | zero =>
            intro turn x m M3 htn hF3 hZ3 hQ3 hm9
            exact absurd hm9 (Nat.not_lt_zero _)
          | succ n9 ih58 =>
            intro turn x m M3 htn hF3 hZ3 hQ3 hm9
            have hC3 : MC M3 t n k sz ce sz' ce' := MC.fr hS hC (fun a ha => hF3 a (by unfold ZF; omega))
            obtain ⟨hT3, hT23, hm03, hm13, hLF3, hTL3, hKF3⟩ := id hC3
            have hm01 : m = 0 ∨ m = 1 := hQ3.elim (fun z => Or.inr z.1) (fun z => Or.inl z.1)
            obtain ⟨hLT3, hKT3, hAr3⟩ := id hZ3
            refine WP.iload dX3_assignLevels_58 rfl ?_
            refine WP.bipush dX3_assignLevels_60 (by decide) ?_
            refine WP.icmp_ge (tgt := 154) dX3_assignLevels_62 (by decide) (by omega) (by omega) (fun h62 => ?_) (fun h62 => ?_)
            · skip
              have hm0 : m = 0 := by
                rcases hQ3 with z | z
                · have := rkB_lt (s := sz c) (by omega) z.2.2.2.1 z.2.2.1
                  omega
                · exact z.1
              refine WP.iconst dX3_assignLevels_154 ?_
              refine WP.zret dX3_assignLevels_155 rfl (by decide) ?_
              refine ⟨_, rfl, hF3, Or.inr ⟨rfl, fun y hy hX => ?_, hZ3⟩⟩
              exact (hQ3.resolve_left (fun z => by have := z.1; omega)).2 y hy hX.1 hX.2
            · skip
              refine WP.iload dX3_assignLevels_65 rfl ?_
              refine WP.if_eq (tgt := 154) dX3_assignLevels_67 (by decide) (by omega) (fun h67 => ?_) (fun h67 => ?_)
              · skip
                have hm0 : m = 0 := h67
                refine WP.iconst dX3_assignLevels_154 ?_
                refine WP.zret dX3_assignLevels_155 rfl (by decide) ?_
                refine ⟨_, rfl, hF3, Or.inr ⟨rfl, fun y hy hX => ?_, hZ3⟩⟩
                exact (hQ3.resolve_left (fun z => by have := z.1; omega)).2 y hy hX.1 hX.2
              · skip
                obtain ⟨_, hD3, hpx, hx, hrk, hI3, hlo⟩ := hQ3.resolve_right (fun z => h67 z.1)
                refine WP.aload_n dX3_assignLevels_70 rfl ?_
                refine WP.iload_n dX3_assignLevels_71 rfl ?_
                refine WP.iload_n dX3_assignLevels_72 rfl ?_
                refine WP.callVp (as := [vI ((c : Nat) : Int), vI ((d : Nat) : Int)]) dX3_assignLevels_73 mv_X3_91 rfl (rfl) (by decide) rfl rfl (c_M_suits (x := x) hS hC3 hc hZ3 hd hz hpx hI3) rfl (Nat.le_of_ble_eq_true rfl) (by omega) ?_
                refine WP.if_eq (tgt := 139) dX3_assignLevels_76 (by decide) (bi_rng) (fun h76 => ?_) (fun h76 => ?_)
                · skip
                  have q76 := bi_0 h76
                  have hbad : ∀ y, iso (n, k, sz, ce) (n, k, sz', ce') y → (∀ b, b < c → y b = w b) → y c = 256 * d + x → False := fun y hy hyw hyc => by
                    have hk9 := (iso_keys (d := c) hW h4 hy (by omega) (fun b hb => (hyw b hb).symm)).2.1 c hc
                    have hf9 := (hy.2.2.1 c hc).2.2.2.1
                    rw [hyc] at hk9 hf9
                    rw [show (256 * d + x) / 256 = d by omega] at hk9
                    exact q76 ⟨fun v hv => by rw [← hk9 v hv, imo_lo], fun u v huv hv n1 n2 => by have := hf9 u v huv hv n1 n2; rw [imo_lo, imo_lo] at this; exact this⟩
                  obtain ⟨M7, hM7⟩ : ∃ z, z = M3 := ⟨_, rfl⟩
                  refine WP.eqM hM7.symm ?_
                  have hF7 : ∀ a, ¬ ZF c a → M7 a = M a := fun a ha => by rw [hM7]; exact hF3 a ha
                  have hZ7 : MZ M7 n k sz sz' ce' w c := by rw [hM7]; exact hZ3
                  have hI7 : ∀ v, v < sz c → M7 101 (c * 4 + v) = ((imo x v : Nat) : Int) := by rw [hM7]; exact hI3
                  have hD7 : M7 100 c = (d : Int) := by rw [hM7]; exact hD3
                  refine WP.aload_n dX3_assignLevels_139 rfl ?_
                  refine WP.iload_n dX3_assignLevels_140 rfl ?_
                  refine WP.iload dX3_assignLevels_141 rfl ?_
                  refine WP.callV (as := [vI ((c * 4 : Nat) : Int), vI ((sz c : Nat) : Int)]) dX3_assignLevels_143 mv_X3_98 rfl (rfl) (by decide) rfl rfl (c_M_next (c := c) (s := sz c) (x := x) (by omega) (by omega) hx hpx hI7) rfl (Nat.le_of_ble_eq_true rfl) (by omega) (fun r9 M9 h9 => ?_)
                  obtain ⟨v, rfl, h8⟩ := h9
                  have hF9 : ∀ a, ¬ ZF c a → M9 a = M a := fun a ha => by
                    rcases h8 with z | z
                    · rw [z.2.1]; exact hF7 a ha
                    · rw [z.2.1 a (fun z => ha (by unfold ZF; omega))]; exact hF7 a ha
                  have hZ9 : MZ M9 n k sz sz' ce' w c := by
                    rcases h8 with z | z
                    · rw [z.2.1]; exact hZ7
                    · exact MZ_chg (fun b hb => h4 b (by omega)) (by omega) hZ7 (fun a _ i1 _ _ => z.2.1 a i1) (fun b hb => by rw [z.2.1 _ (by decide)]) (fun i hi => z.2.2.1 i (Or.inl hi))
                  obtain ⟨x2, hx2⟩ := LQ_next hc hx hD7 hrk hlo hbad h8
                  show WP sc0 (D + 5) m_X3_assignLevels 146 [vR 99, vI ((c : Nat) : Int), vI ((d : Nat) : Int), vI ((c * 4 : Nat) : Int), vI ((sz c : Nat) : Int), vI m, vI ((turn : Nat) : Int)] [vI v] M9 (AQ M n k sz ce sz' ce' w c (fun y => (∀ b, b < c → y b = w b) ∧ y c / 256 = d))
                  refine WP.istore (lt := [vR 99, vI ((c : Nat) : Int), vI ((d : Nat) : Int), vI ((c * 4 : Nat) : Int), vI ((sz c : Nat) : Int), vI v, vI ((turn : Nat) : Int)]) dX3_assignLevels_146 (by decide) rfl ?_
                  refine WP.iinc (lt := [vR 99, vI ((c : Nat) : Int), vI ((d : Nat) : Int), vI ((c * 4 : Nat) : Int), vI ((sz c : Nat) : Int), vI v, vI (((turn : Nat) : Int) + 1)]) dX3_assignLevels_148 rfl (by decide) rfl ?_
                  refine WP.goto (tgt := 58) dX3_assignLevels_151 (by decide) ?_
                  refine WP.fgt (lt := [vR 99, vI ((c : Nat) : Int), vI ((d : Nat) : Int), vI ((c * 4 : Nat) : Int), vI ((sz c : Nat) : Int), vI v, vI (((turn + 1) : Nat) : Int)]) ⟨Or.inr rfl, Or.inr rfl, Or.inr rfl, Or.inr rfl, Or.inr rfl, Or.inr rfl, Or.inr (congrArg vI (by omega)), trivial⟩ ?_
                  exact ih58 (turn + 1) (x2) (v) (M9) (by omega) (hF9) (hZ9) (hx2) (by omega)
                · skip
                  have q76 := bi_1 h76
                  have hfoa : foa (n, k, sz, ce) c x := q76.2
                  have hwP : isoP (n, k, sz, ce) (n, k, sz', ce') (wup w c (256 * d + x)) (c + 1) := isoP_up hP hd hz hx hpx hfoa hwd
                  refine WP.aload_n dX3_assignLevels_79 rfl ?_
                  refine WP.iload_n dX3_assignLevels_80 rfl ?_
                  refine WP.iload_n dX3_assignLevels_81 rfl ?_
                  refine WP.iconst dX3_assignLevels_82 ?_
                  refine WP.callV (as := [vI ((c : Nat) : Int), vI ((d : Nat) : Int), vI (1 : Int)]) dX3_assignLevels_83 mv_X3_94 rfl (rfl) (by decide) rfl rfl (c_M_label (x := x) (o := 1) hS hC3 hc hd (Or.inr rfl) hpx hI3) rfl (Nat.le_of_ble_eq_true rfl) (by omega) (fun r9 M4 h9 => ?_)
                  obtain ⟨rfl, f4, e4, u4, v4⟩ := h9
                  have hL4 : LB M4 135 k sz' (clT (wup w c (256 * d + x)) (c + 1)) (llT (wup w c (256 * d + x)) (c + 1)) := LB_on (by omega) w4 hz h42 hx hpx hLT3 e4 u4 v4
                  have hC4 : MC M4 t n k sz ce sz' ce' := MC.fr hS hC3 (fun a ha => f4 a (by omega) (by omega))
                  obtain ⟨hT4, hT24, hm04, hm14, hLF4, hTL4, hKF4⟩ := id hC4
                  show WP sc0 (D + 5) m_X3_assignLevels 86 [vR 99, vI ((c : Nat) : Int), vI ((d : Nat) : Int), vI ((c * 4 : Nat) : Int), vI ((sz c : Nat) : Int), vI m, vI ((turn : Nat) : Int)] [] M4 (AQ M n k sz ce sz' ce' w c (fun y => (∀ b, b < c → y b = w b) ∧ y c / 256 = d))
                  have hKu : ∀ e, e ≤ c → KY M4 135 e n k sz' (kRK n k sz' ce' (clT (wup w c (256 * d + x))) (llT (wup w c (256 * d + x))) e) (kLK n k sz' ce' (clT (wup w c (256 * d + x))) (llT (wup w c (256 * d + x))) e) (kCK n k sz' ce' (clT (wup w c (256 * d + x))) (llT (wup w c (256 * d + x))) e) := KT_cg (fun b hb => (wup_b hb).symm) (fun e he => ⟨f4 _ (by omega) (by omega), f4 _ (by omega) (by omega), f4 _ (by omega) (by omega)⟩) hKT3
                  refine WP.aload_n dX3_assignLevels_86 rfl ?_
                  refine WP.getR (y := 135) dX3_assignLevels_87 fl_X3_25 (rfl) (by decide) (rfl) ?_
                  refine WP.iload_n dX3_assignLevels_90 rfl ?_
                  refine WP.iconst dX3_assignLevels_91 ?_
                  refine WP.iadd dX3_assignLevels_92 ?_
                  refine WP.eqs (st' := [vI ((c + 1 : Nat) : Int), vR 135]) rfl (lc (congrArg vI (by omega)) (rfl)) ?_
                  refine WP.callV (as := [vI ((c + 1 : Nat) : Int)]) dX3_assignLevels_93 mv_X3_56 rfl (rfl) (by decide) rfl rfl (c_Z_refine (s := 135) (d := c + 1) (rk := kRK n k sz' ce' (clT (wup w c (256 * d + x))) (llT (wup w c (256 * d + x))) c) hs2 ht hT24 hW2 hn h42 hm14 hL4 (by omega) (fun r hr => by rw [show c + 1 - 1 = c by omega]; exact (hKu c (Nat.le_refl _)).1 r hr)) rfl (Nat.le_of_ble_eq_true rfl) (by omega) (fun r9 M5 h9 => ?_)
                  obtain ⟨rfl, f5, k5⟩ := h9
                  have hF5 : ∀ a, ¬ ZF c a → M5 a = M a := fun a ha => by
                    have ha9 : a ≠ 136 ∧ a ≠ 137 ∧ a ≠ 141 + c ∧ a ≠ 150 + c ∧ a ≠ 159 + c := ⟨fun z => ha (by unfold ZF; omega), fun z => ha (by unfold ZF; omega), fun z => ha (by unfold ZF; omega), fun z => ha (by unfold ZF; omega), fun z => ha (by unfold ZF; omega)⟩
                    rw [f5 a (by omega) (by omega) (by omega), f4 a (by omega) (by omega)]
                    exact hF3 a ha
                  have hI5 : ∀ v, v < sz c → M5 101 (c * 4 + v) = ((imo x v : Nat) : Int) := by rw [f5 _ (by omega) (by omega) (by omega), f4 _ (by decide) (by decide)]; exact hI3
                  have hD5 : M5 100 c = (d : Int) := by rw [f5 _ (by omega) (by omega) (by omega), f4 _ (by decide) (by decide)]; exact hD3
                  have hL5 : LB M5 135 k sz' (clT (wup w c (256 * d + x)) (c + 1)) (llT (wup w c (256 * d + x)) (c + 1)) := hL4.fr (f5 _ (by omega) (by omega) (by omega)) (f5 _ (by omega) (by omega) (by omega))
                  have hAw5 : MAr M5 sz w c := fun b hb => ⟨by rw [f5 _ (by omega) (by omega) (by omega), f4 _ (by decide) (by decide)]; exact (hAr3 b hb).1, fun v hv => by rw [f5 _ (by omega) (by omega) (by omega), f4 _ (by decide) (by decide)]; exact (hAr3 b hb).2 v hv⟩
                  have hKw5 : ∀ e, e ≤ c → KY M5 135 e n k sz' (kRK n k sz' ce' (clT w) (llT w) e) (kLK n k sz' ce' (clT w) (llT w) e) (kCK n k sz' ce' (clT w) (llT w) e) := fun e he => (hKT3 e he).fr (by rw [f5 _ (by omega) (by omega) (by omega), f4 _ (by omega) (by omega)]) (by rw [f5 _ (by omega) (by omega) (by omega), f4 _ (by omega) (by omega)]) (by rw [f5 _ (by omega) (by omega) (by omega), f4 _ (by omega) (by omega)])
                  have hAu5 : MAr M5 sz (wup w c (256 * d + x)) (c + 1) := fun b hb => by
                    by_cases e9 : b = c
                    · rw [e9, wup_c, show (256 * d + x) / 256 = d by omega]
                      exact ⟨hD5, fun v hv => by rw [imo_lo]; exact hI5 v hv⟩
                    · rw [wup_b (show b < c by omega)]
                      exact hAw5 b (by omega)
                  have hZ5 : MZ M5 n k sz sz' ce' (wup w c (256 * d + x)) (c + 1) := ⟨hL5, fun e he => by
                    by_cases e9 : e = c + 1
                    · rw [e9]; exact k5
                    · exact (hKu e (by omega)).fr (f5 _ (by omega) (by omega) (by omega)) (f5 _ (by omega) (by omega) (by omega)) (f5 _ (by omega) (by omega) (by omega)), hAu5⟩
                  have hC5 : MC M5 t n k sz ce sz' ce' := MC.fr hS hC (fun a ha => hF5 a (by unfold ZF; omega))
                  obtain ⟨hT5, hT25, hm05, hm15, hLF5, hTL5, hKF5⟩ := id hC5
                  show WP sc0 (D + 5) m_X3_assignLevels 96 [vR 99, vI ((c : Nat) : Int), vI ((d : Nat) : Int), vI ((c * 4 : Nat) : Int), vI ((sz c : Nat) : Int), vI m, vI ((turn : Nat) : Int)] [] M5 (AQ M n k sz ce sz' ce' w c (fun y => (∀ b, b < c → y b = w b) ∧ y c / 256 = d))
                  refine WP.aload_n dX3_assignLevels_96 rfl ?_
                  refine WP.getR (y := 103) dX3_assignLevels_97 fl_X3_21 (rfl) (by decide) (rfl) ?_
                  refine WP.iload_n dX3_assignLevels_100 rfl ?_
                  refine WP.iconst dX3_assignLevels_101 ?_
                  refine WP.iadd dX3_assignLevels_102 ?_
                  refine WP.eqs (st' := [vI ((c + 1 : Nat) : Int), vR 103]) rfl (lc (congrArg vI (by omega)) (rfl)) ?_
                  refine WP.callVp (as := [vI ((c + 1 : Nat) : Int)]) dX3_assignLevels_103 mv_X3_48 rfl (rfl) (by decide) rfl rfl (c_Z_summary (s := 103) (t := 0) (d := c + 1) hs1 t0 hT5 hW hn h4 hm05 (by omega) (hKF5 (c + 1) (by omega)).1 (hKF5 (c + 1) (by omega)).2.2) rfl (Nat.le_of_ble_eq_true rfl) (by omega) ?_
                  refine WP.aload_n dX3_assignLevels_106 rfl ?_
                  refine WP.getR (y := 135) dX3_assignLevels_107 fl_X3_25 (rfl) (by decide) (rfl) ?_
                  refine WP.iload_n dX3_assignLevels_110 rfl ?_
                  refine WP.iconst dX3_assignLevels_111 ?_
                  refine WP.iadd dX3_assignLevels_112 ?_
                  refine WP.eqs (st' := [vI ((c + 1 : Nat) : Int), vR 135, vL (kSM n k sz ce lF llF (c + 1))]) rfl (lc (congrArg vI (by omega)) (rfl)) ?_
                  refine WP.callVp (as := [vI ((c + 1 : Nat) : Int)]) dX3_assignLevels_113 mv_X3_48 rfl (rfl) (by decide) rfl rfl (c_Z_summary (s := 135) (t := t) (d := c + 1) hs2 ht hT25 hW2 hn h42 hm15 (by omega) (hZ5.2.1 (c + 1) (Nat.le_refl _)).1 (hZ5.2.1 (c + 1) (Nat.le_refl _)).2.2) rfl (Nat.le_of_ble_eq_true rfl) (by omega) ?_
                  refine WP.lcmp dX3_assignLevels_116 ?_
                  refine WP.if_ne (tgt := 132) dX3_assignLevels_117 (by decide) (lcI_r) (fun h117 => ?_) (fun h117 => ?_)
                  · skip
                    have q117 : ¬ (kSM n k sz ce lF llF (c + 1)) = (kSM n k sz' ce' (clT (wup w c (256 * d + x))) (llT (wup w c (256 * d + x))) (c + 1)) := fun z => h117 (lcI_0.mpr z)
                    have hbad : ∀ y, iso (n, k, sz, ce) (n, k, sz', ce') y → (∀ b, b < c → y b = w b) → y c = 256 * d + x → False := fun y hy hyw hyc => q117 (iso_keys (d := c + 1) hW h4 hy (by omega) (fun b hb => by
                      by_cases e9 : b = c
                      · rw [e9, wup_c, hyc]
                      · rw [wup_b (show b < c by omega)]; exact (hyw b (by omega)).symm)).2.2.symm
                    refine WP.aload_n dX3_assignLevels_132 rfl ?_
                    refine WP.iload_n dX3_assignLevels_133 rfl ?_
                    refine WP.iload_n dX3_assignLevels_134 rfl ?_
                    refine WP.iconst dX3_assignLevels_135 ?_
                    refine WP.callV (as := [vI ((c : Nat) : Int), vI ((d : Nat) : Int), vI (0 : Int)]) dX3_assignLevels_136 mv_X3_94 rfl (rfl) (by decide) rfl rfl (c_M_label (x := x) (o := 0) hS hC5 hc hd (Or.inl rfl) hpx hI5) rfl (Nat.le_of_ble_eq_true rfl) (by omega) (fun r9 M7 h9 => ?_)
                    obtain ⟨rfl, f7, e7, u7, v7⟩ := h9
                    have hL7 : LB M7 135 k sz' (clT w c) (llT w c) := LB_off (sz := sz) hz h42 hx hpx hwd hL5 e7 u7 v7
                    have hF7 : ∀ a, ¬ ZF c a → M7 a = M a := fun a ha => by rw [f7 a (fun z => ha (by unfold ZF; omega)) (fun z => ha (by unfold ZF; omega))]; exact hF5 a ha
                    have hI7 : ∀ v, v < sz c → M7 101 (c * 4 + v) = ((imo x v : Nat) : Int) := by rw [f7 _ (by decide) (by decide)]; exact hI5
                    have hD7 : M7 100 c = (d : Int) := by rw [f7 _ (by decide) (by decide)]; exact hD5
                    have hZ7 : MZ M7 n k sz sz' ce' w c := ⟨hL7, fun e he => (hKw5 e he).fr (f7 _ (by omega) (by omega)) (f7 _ (by omega) (by omega)) (f7 _ (by omega) (by omega)), fun b hb => ⟨by rw [f7 _ (by decide) (by decide)]; exact (hAw5 b hb).1, fun v hv => by rw [f7 _ (by decide) (by decide)]; exact (hAw5 b hb).2 v hv⟩⟩
                    show WP sc0 (D + 5) m_X3_assignLevels 139 [vR 99, vI ((c : Nat) : Int), vI ((d : Nat) : Int), vI ((c * 4 : Nat) : Int), vI ((sz c : Nat) : Int), vI m, vI ((turn : Nat) : Int)] [] M7 (AQ M n k sz ce sz' ce' w c (fun y => (∀ b, b < c → y b = w b) ∧ y c / 256 = d))
                    refine WP.aload_n dX3_assignLevels_139 rfl ?_
                    refine WP.iload_n dX3_assignLevels_140 rfl ?_
                    refine WP.iload dX3_assignLevels_141 rfl ?_
                    refine WP.callV (as := [vI ((c * 4 : Nat) : Int), vI ((sz c : Nat) : Int)]) dX3_assignLevels_143 mv_X3_98 rfl (rfl) (by decide) rfl rfl (c_M_next (c := c) (s := sz c) (x := x) (by omega) (by omega) hx hpx hI7) rfl (Nat.le_of_ble_eq_true rfl) (by omega) (fun r9 M9 h9 => ?_)
                    obtain ⟨v, rfl, h8⟩ := h9
                    have hF9 : ∀ a, ¬ ZF c a → M9 a = M a := fun a ha => by
                      rcases h8 with z | z
                      · rw [z.2.1]; exact hF7 a ha
                      · rw [z.2.1 a (fun z => ha (by unfold ZF; omega))]; exact hF7 a ha
                    have hZ9 : MZ M9 n k sz sz' ce' w c := by
                      rcases h8 with z | z
                      · rw [z.2.1]; exact hZ7
                      · exact MZ_chg (fun b hb => h4 b (by omega)) (by omega) hZ7 (fun a _ i1 _ _ => z.2.1 a i1) (fun b hb => by rw [z.2.1 _ (by decide)]) (fun i hi => z.2.2.1 i (Or.inl hi))
                    obtain ⟨x2, hx2⟩ := LQ_next hc hx hD7 hrk hlo hbad h8
                    show WP sc0 (D + 5) m_X3_assignLevels 146 [vR 99, vI ((c : Nat) : Int), vI ((d : Nat) : Int), vI ((c * 4 : Nat) : Int), vI ((sz c : Nat) : Int), vI m, vI ((turn : Nat) : Int)] [vI v] M9 (AQ M n k sz ce sz' ce' w c (fun y => (∀ b, b < c → y b = w b) ∧ y c / 256 = d))
                    refine WP.istore (lt := [vR 99, vI ((c : Nat) : Int), vI ((d : Nat) : Int), vI ((c * 4 : Nat) : Int), vI ((sz c : Nat) : Int), vI v, vI ((turn : Nat) : Int)]) dX3_assignLevels_146 (by decide) rfl ?_
                    refine WP.iinc (lt := [vR 99, vI ((c : Nat) : Int), vI ((d : Nat) : Int), vI ((c * 4 : Nat) : Int), vI ((sz c : Nat) : Int), vI v, vI (((turn : Nat) : Int) + 1)]) dX3_assignLevels_148 rfl (by decide) rfl ?_
                    refine WP.goto (tgt := 58) dX3_assignLevels_151 (by decide) ?_
                    refine WP.fgt (lt := [vR 99, vI ((c : Nat) : Int), vI ((d : Nat) : Int), vI ((c * 4 : Nat) : Int), vI ((sz c : Nat) : Int), vI v, vI (((turn + 1) : Nat) : Int)]) ⟨Or.inr rfl, Or.inr rfl, Or.inr rfl, Or.inr rfl, Or.inr rfl, Or.inr rfl, Or.inr (congrArg vI (by omega)), trivial⟩ ?_
                    exact ih58 (turn + 1) (x2) (v) (M9) (by omega) (hF9) (hZ9) (hx2) (by omega)
                  · skip
                    refine WP.aload_n dX3_assignLevels_120 rfl ?_
                    refine WP.iload_n dX3_assignLevels_121 rfl ?_
                    refine WP.iconst dX3_assignLevels_122 ?_
                    refine WP.iadd dX3_assignLevels_123 ?_
                    refine WP.eqs (st' := [vI ((c + 1 : Nat) : Int), vR 99]) rfl (lc (congrArg vI (by omega)) (rfl)) ?_
                    refine WP.callV (as := [vI ((c + 1 : Nat) : Int)]) dX3_assignLevels_124 mv_X3_59 rfl (rfl) (by decide) rfl rfl (hA M5 (wup w c (256 * d + x)) hC5 hwP hZ5) rfl (Nat.le_of_ble_eq_true rfl) (by omega) (fun r9 M6 h9 => ?_)
                    obtain ⟨v6, rfl, f6, q6⟩ := h9
                    have hF6 : ∀ a, ¬ ZF c a → M6 a = M a := fun a ha => by rw [f6 a (fun z => ha (by unfold ZF at z ⊢; omega))]; exact hF5 a ha
                    have hv6 : v6 = 0 ∨ v6 = 1 := q6.elim (fun z => Or.inr z.1) (fun z => Or.inl z.1)
                    show WP sc0 (D + 5) m_X3_assignLevels 127 [vR 99, vI ((c : Nat) : Int), vI ((d : Nat) : Int), vI ((c * 4 : Nat) : Int), vI ((sz c : Nat) : Int), vI m, vI ((turn : Nat) : Int)] [vI v6] M6 (AQ M n k sz ce sz' ce' w c (fun y => (∀ b, b < c → y b = w b) ∧ y c / 256 = d))
                    refine WP.if_eq (tgt := 132) dX3_assignLevels_127 (by decide) (by omega) (fun h127 => ?_) (fun h127 => ?_)
                    · skip
                      obtain ⟨_, n6, hZ6⟩ := q6.resolve_left (fun z => by omega)
                      have hbad : ∀ y, iso (n, k, sz, ce) (n, k, sz', ce') y → (∀ b, b < c → y b = w b) → y c = 256 * d + x → False := fun y hy hyw hyc => n6 y hy (fun b hb => by
                        by_cases e9 : b = c
                        · rw [e9, wup_c, hyc]
                        · rw [wup_b (show b < c by omega)]; exact hyw b (by omega))
                      have hL6 := hZ6.1
                      have hAw6 : MAr M6 sz w c := fun b hb => by
                        have := hZ6.2.2 b (by omega)
                        rw [wup_b hb] at this
                        exact this
                      have hI6 : ∀ v, v < sz c → M6 101 (c * 4 + v) = ((imo x v : Nat) : Int) := fun v hv => by
                        have := (hZ6.2.2 c (by omega)).2 v hv
                        rw [wup_c, imo_lo] at this
                        exact this
                      have hD6 : M6 100 c = (d : Int) := by
                        have := (hZ6.2.2 c (by omega)).1
                        rw [wup_c, show (256 * d + x) / 256 = d by omega] at this
                        exact this
                      have hKw6 : ∀ e, e ≤ c → KY M6 135 e n k sz' (kRK n k sz' ce' (clT w) (llT w) e) (kLK n k sz' ce' (clT w) (llT w) e) (kCK n k sz' ce' (clT w) (llT w) e) := KT_cg (M := M6) (fun b hb => wup_b hb) (fun e he => ⟨rfl, rfl, rfl⟩) (fun e he => hZ6.2.1 e (by omega))
                      have hC6 : MC M6 t n k sz ce sz' ce' := MC.fr hS hC (fun a ha => hF6 a (by unfold ZF; omega))
                      obtain ⟨hT6, hT26, hm06, hm16, hLF6, hTL6, hKF6⟩ := id hC6
                      refine WP.aload_n dX3_assignLevels_132 rfl ?_
                      refine WP.iload_n dX3_assignLevels_133 rfl ?_
                      refine WP.iload_n dX3_assignLevels_134 rfl ?_
                      refine WP.iconst dX3_assignLevels_135 ?_
                      refine WP.callV (as := [vI ((c : Nat) : Int), vI ((d : Nat) : Int), vI (0 : Int)]) dX3_assignLevels_136 mv_X3_94 rfl (rfl) (by decide) rfl rfl (c_M_label (x := x) (o := 0) hS hC6 hc hd (Or.inl rfl) hpx hI6) rfl (Nat.le_of_ble_eq_true rfl) (by omega) (fun r9 M7 h9 => ?_)
                      obtain ⟨rfl, f7, e7, u7, v7⟩ := h9
                      have hL7 : LB M7 135 k sz' (clT w c) (llT w c) := LB_off (sz := sz) hz h42 hx hpx hwd hL6 e7 u7 v7
                      have hF7 : ∀ a, ¬ ZF c a → M7 a = M a := fun a ha => by rw [f7 a (fun z => ha (by unfold ZF; omega)) (fun z => ha (by unfold ZF; omega))]; exact hF6 a ha
                      have hI7 : ∀ v, v < sz c → M7 101 (c * 4 + v) = ((imo x v : Nat) : Int) := by rw [f7 _ (by decide) (by decide)]; exact hI6
                      have hD7 : M7 100 c = (d : Int) := by rw [f7 _ (by decide) (by decide)]; exact hD6
                      have hZ7 : MZ M7 n k sz sz' ce' w c := ⟨hL7, fun e he => (hKw6 e he).fr (f7 _ (by omega) (by omega)) (f7 _ (by omega) (by omega)) (f7 _ (by omega) (by omega)), fun b hb => ⟨by rw [f7 _ (by decide) (by decide)]; exact (hAw6 b hb).1, fun v hv => by rw [f7 _ (by decide) (by decide)]; exact (hAw6 b hb).2 v hv⟩⟩
                      show WP sc0 (D + 5) m_X3_assignLevels 139 [vR 99, vI ((c : Nat) : Int), vI ((d : Nat) : Int), vI ((c * 4 : Nat) : Int), vI ((sz c : Nat) : Int), vI m, vI ((turn : Nat) : Int)] [] M7 (AQ M n k sz ce sz' ce' w c (fun y => (∀ b, b < c → y b = w b) ∧ y c / 256 = d))
                      refine WP.aload_n dX3_assignLevels_139 rfl ?_
                      refine WP.iload_n dX3_assignLevels_140 rfl ?_
                      refine WP.iload dX3_assignLevels_141 rfl ?_
                      refine WP.callV (as := [vI ((c * 4 : Nat) : Int), vI ((sz c : Nat) : Int)]) dX3_assignLevels_143 mv_X3_98 rfl (rfl) (by decide) rfl rfl (c_M_next (c := c) (s := sz c) (x := x) (by omega) (by omega) hx hpx hI7) rfl (Nat.le_of_ble_eq_true rfl) (by omega) (fun r9 M9 h9 => ?_)
                      obtain ⟨v, rfl, h8⟩ := h9
                      have hF9 : ∀ a, ¬ ZF c a → M9 a = M a := fun a ha => by
                        rcases h8 with z | z
                        · rw [z.2.1]; exact hF7 a ha
                        · rw [z.2.1 a (fun z => ha (by unfold ZF; omega))]; exact hF7 a ha
                      have hZ9 : MZ M9 n k sz sz' ce' w c := by
                        rcases h8 with z | z
                        · rw [z.2.1]; exact hZ7
                        · exact MZ_chg (fun b hb => h4 b (by omega)) (by omega) hZ7 (fun a _ i1 _ _ => z.2.1 a i1) (fun b hb => by rw [z.2.1 _ (by decide)]) (fun i hi => z.2.2.1 i (Or.inl hi))
                      obtain ⟨x2, hx2⟩ := LQ_next hc hx hD7 hrk hlo hbad h8
                      show WP sc0 (D + 5) m_X3_assignLevels 146 [vR 99, vI ((c : Nat) : Int), vI ((d : Nat) : Int), vI ((c * 4 : Nat) : Int), vI ((sz c : Nat) : Int), vI m, vI ((turn : Nat) : Int)] [vI v] M9 (AQ M n k sz ce sz' ce' w c (fun y => (∀ b, b < c → y b = w b) ∧ y c / 256 = d))
                      refine WP.istore (lt := [vR 99, vI ((c : Nat) : Int), vI ((d : Nat) : Int), vI ((c * 4 : Nat) : Int), vI ((sz c : Nat) : Int), vI v, vI ((turn : Nat) : Int)]) dX3_assignLevels_146 (by decide) rfl ?_
                      refine WP.iinc (lt := [vR 99, vI ((c : Nat) : Int), vI ((d : Nat) : Int), vI ((c * 4 : Nat) : Int), vI ((sz c : Nat) : Int), vI v, vI (((turn : Nat) : Int) + 1)]) dX3_assignLevels_148 rfl (by decide) rfl ?_
                      refine WP.goto (tgt := 58) dX3_assignLevels_151 (by decide) ?_
                      refine WP.fgt (lt := [vR 99, vI ((c : Nat) : Int), vI ((d : Nat) : Int), vI ((c * 4 : Nat) : Int), vI ((sz c : Nat) : Int), vI v, vI (((turn + 1) : Nat) : Int)]) ⟨Or.inr rfl, Or.inr rfl, Or.inr rfl, Or.inr rfl, Or.inr rfl, Or.inr rfl, Or.inr (congrArg vI (by omega)), trivial⟩ ?_
                      exact ih58 (turn + 1) (x2) (v) (M9) (by omega) (hF9) (hZ9) (hx2) (by omega)
                    · skip
                      obtain ⟨_, y, y1, y2, y3, y4⟩ := q6.resolve_right (fun z => h127 z.1)
                      refine WP.iconst dX3_assignLevels_130 ?_
                      refine WP.zret dX3_assignLevels_131 rfl (by decide) ?_
                      refine ⟨_, rfl, hF6, Or.inl ⟨rfl, y, y1, ?_⟩⟩
                      have h9 := AQ_lv (I := fun y => iso (n, k, sz, ce) (n, k, sz', ce') y) hc hx (fun y h => hlo y h) y2 y3
                      exact ⟨h9.1, h9.2, y4⟩
        refine WP.fgt (lt := [vR 99, vI ((c : Nat) : Int), vI ((d : Nat) : Int), vI ((c * 4 : Nat) : Int), vI ((sz c : Nat) : Int), vI 1, vI ((0 : Nat) : Int)]) ⟨Or.inr rfl, Or.inr rfl, Or.inr rfl, Or.inr rfl, Or.inr rfl, Or.inr (congrArg vI (by omega)), Or.inr (congrArg vI (by omega)), trivial⟩ ?_
        exact L58 _ (0) (id0 (sz c)) (1) (M2) (Nat.zero_le _) (fun a ha => hF2 a (fun z => ha (by unfold ZF; omega)) (fun z => ha (by unfold ZF; omega))) (hZ2) (hQ2) (Nat.lt_succ_self _)
      · skip
        refine WP.aload_n dX3_assignLevels_28 rfl ?_
        refine WP.getR (y := 101) dX3_assignLevels_29 fl_X3_15 (rfl) (by decide) (rfl) ?_
        refine WP.iload_n dX3_assignLevels_32 rfl ?_
        refine WP.iload dX3_assignLevels_33 rfl ?_
        refine WP.iadd dX3_assignLevels_35 ?_
        refine WP.iload dX3_assignLevels_36 rfl ?_
        refine WP.iastore (y := (c * 4 + v)) dX3_assignLevels_38 (rfl) (by omega) (by omega) rfl ?_
        obtain ⟨M10, hM10⟩ : ∃ z, z = (mset M1 101 ((c * 4 + v)) ((v : Nat) : Int)) := ⟨_, rfl⟩
        refine WP.eqM hM10.symm ?_
        refine WP.iinc (lt := [vR 99, vI ((c : Nat) : Int), vI ((d : Nat) : Int), vI ((c * 4 : Nat) : Int), vI ((sz c : Nat) : Int), vI (((v : Nat) : Int) + 1), vU]) dX3_assignLevels_39 rfl (by decide) rfl ?_
        refine WP.goto (tgt := 21) dX3_assignLevels_42 (by decide) ?_
        refine WP.fgt (lt := [vR 99, vI ((c : Nat) : Int), vI ((d : Nat) : Int), vI ((c * 4 : Nat) : Int), vI ((sz c : Nat) : Int), vI (((v + 1) : Nat) : Int), vU]) ⟨Or.inr rfl, Or.inr rfl, Or.inr rfl, Or.inr rfl, Or.inr rfl, Or.inr (congrArg vI (by omega)), Or.inl rfl, trivial⟩ ?_
        exact ih21 (v + 1) (M10) (by omega) (fun a ha => by rw [hM10, mset_o a ha]; exact hF1 a ha) (fun u hu => by
          rw [hM10]
          by_cases e9 : u = v
          · rw [e9, mset_s]
          · rw [mset_n (Or.inr (by omega))]; exact hA1 u (by omega)) (fun i hi => by rw [hM10, mset_n (Or.inr (by omega))]; exact hB1 i hi) (by omega)
  refine WP.fgt (lt := [vR 99, vI ((c : Nat) : Int), vI ((d : Nat) : Int), vI ((c * 4 : Nat) : Int), vI ((sz c : Nat) : Int), vI ((0 : Nat) : Int), vU]) ⟨Or.inr rfl, Or.inr rfl, Or.inr rfl, Or.inr (congrArg vI (by omega)), Or.inr rfl, Or.inr (congrArg vI (by omega)), Or.inl rfl, trivial⟩ ?_
  exact L21 _ (0) (M) (Nat.zero_le _) (fun _ _ => rfl) (fun u hu => absurd hu (Nat.not_lt_zero u)) (fun _ _ => rfl) (Nat.lt_succ_self _)
set_option maxHeartbeats 4000000 in
set_option maxRecDepth 20000 in
theorem c_M_assign {M : Mem} {t n k : Nat} {sz sz' : Nat → Nat} {ce ce' : Nat → Nat → Nat} (hS : MST t n k sz ce sz' ce') (hC : MC M t n k sz ce sz' ce') {w : Nat → Nat} {c D : Nat} (hc : c < k) (hZ : MZ M n k sz sz' ce' w c) (hP : isoP (n, k, sz, ce) (n, k, sz', ce') w c) (hA : AC t n k sz ce sz' ce' (c + 1) (D + 4)) : CT (D + 6) m_X3_assign [vR 99, vI ((c : Nat) : Int)] M (AQ M n k sz ce sz' ce' w c (fun y => ∀ b, b < c → y b = w b)) := by
  obtain ⟨⟨ht, ht3, ht9⟩, hn, hW, hW2, h4, h42⟩ := id hS
  obtain ⟨hT, hT2, hm0, hm1, hLF, hTL, hKF⟩ := id hC
  have b1 := hW.1
  have b2 := hW.2.1
  have t0 : isT 0 := ⟨rfl, by decide⟩
  have ht2 := ht.2
  have hs1 : isS 103 := Or.inl rfl
  have hs2 : isS 135 := Or.inr rfl
  have h128 : 2 ^ 7 = 128 := rfl
  obtain ⟨hLT, hKT, hAr⟩ := id hZ
  refine CT.ofWP (by decide +kernel) (Nat.le_of_ble_eq_true rfl) ?_
  show WP sc0 (D + 6) m_X3_assign 0 [vR 99, vI ((c : Nat) : Int), vU, vU] [] M (AQ M n k sz ce sz' ce' w c (fun y => ∀ b, b < c → y b = w b))
  refine WP.iload_n dX3_assign_0 rfl ?_
  refine WP.aload_n dX3_assign_1 rfl ?_
  refine WP.getR (y := 103) dX3_assign_2 fl_X3_21 (rfl) (by decide) (rfl) ?_
  refine WP.getM (y := 0) dX3_assign_5 fl_X3_66 (rfl) (by decide) (hm0) ?_
  refine WP.getI (x := ((k : Nat) : Int)) dX3_assign_8 fl_X3_37 (rfl) (by decide) (hT.2.1) ?_
  refine WP.icmp_ge (tgt := 20) dX3_assign_11 (by decide) (by omega) (by omega) (fun h11 => ?_) (fun h11 => ?_)
  · skip
    exfalso
    omega
  · skip
    refine WP.iload_n dX3_assign_14 rfl ?_
    refine WP.bipush dX3_assign_15 (by decide) ?_
    refine WP.icmp_lt (tgt := 25) dX3_assign_17 (by decide) (by omega) (by omega) (fun h17 => ?_) (fun h17 => ?_)
    · skip
      refine WP.iconst dX3_assign_25 ?_
      refine WP.istore_n (lt := [vR 99, vI ((c : Nat) : Int), vI (0 : Int), vU]) dX3_assign_26 (by decide) rfl ?_
      refine WP.iconst dX3_assign_27 ?_
      refine WP.istore_n (lt := [vR 99, vI ((c : Nat) : Int), vI (0 : Int), vI (0 : Int)]) dX3_assign_28 (by decide) rfl ?_
      have L29 : ∀ (n9 : Nat) (d m : Nat) (M1 : Mem) (hd : d ≤ k) (hm7 : m < 2 ^ 7) (hF1 : ∀ a, ¬ ZF c a → M1 a = M a) (hZ1 : MZ M1 n k sz sz' ce' w c) (hmk : ∀ e, mk m e → e < d ∧ ∀ b, b < c → w b / 256 ≠ e) (hno : ∀ e, e < d → ∀ y, iso (n, k, sz, ce) (n, k, sz', ce') y → (∀ b, b < c → y b = w b) → y c / 256 ≠ e), k - d < n9 → WP sc0 (D + 6) m_X3_assign 29 [vR 99, vI ((c : Nat) : Int), vI ((m : Nat) : Int), vI ((d : Nat) : Int)] [] M1 (AQ M n k sz ce sz' ce' w c (fun y => ∀ b, b < c → y b = w b)) := by
        intro n9
        induction n9 with
        | zero =>
          intro d m M1 hd hm7 hF1 hZ1 hmk hno hm9
          exact absurd hm9 (Nat.not_lt_zero _)
        | succ n9 ih29 =>
          intro d m M1 hd hm7 hF1 hZ1 hmk hno hm9
          have hC1 : MC M1 t n k sz ce sz' ce' := MC.fr hS hC (fun a ha => hF1 a (by unfold ZF; omega))
          obtain ⟨hT1, hT21, hm01, hm11, hLF1, hTL1, hKF1⟩ := id hC1
          refine WP.iload_n dX3_assign_29 rfl ?_
          refine WP.aload_n dX3_assign_30 rfl ?_
          refine WP.getR (y := 135) dX3_assign_31 fl_X3_25 (rfl) (by decide) (rfl) ?_
          refine WP.getM (y := t) dX3_assign_34 fl_X3_66 (rfl) (by decide) (hm11) ?_
          refine WP.getI (x := ((k : Nat) : Int)) dX3_assign_37 fl_X3_37 (shT0 ht) (by decide) (hT21.2.1) ?_
          refine WP.icmp_ge (tgt := 87) dX3_assign_40 (by decide) (by omega) (by omega) (fun h40 => ?_) (fun h40 => ?_)
          · skip
            refine WP.iconst dX3_assign_87 ?_
            refine WP.zret dX3_assign_88 rfl (by decide) ?_
            exact ⟨_, rfl, hF1, Or.inr ⟨rfl, fun y hy hX => hno (y c / 256) (by have : y c / 256 < k := (hy.2.2.1 c hc).1; omega) y hy hX rfl, hZ1⟩⟩
          · skip
            refine WP.aload_n dX3_assign_43 rfl ?_
            refine WP.iload_n dX3_assign_44 rfl ?_
            refine WP.iload_n dX3_assign_45 rfl ?_
            refine WP.callVp (as := [vI ((c : Nat) : Int), vI ((d : Nat) : Int)]) dX3_assign_46 mv_X3_74 rfl (rfl) (by decide) rfl rfl (c_M_canMap (d := d) hS hC1 hc hZ1 (by omega)) rfl (Nat.le_of_ble_eq_true rfl) (by omega) ?_
            refine WP.if_eq (tgt := 81) dX3_assign_49 (by decide) (bi_rng) (fun h49 => ?_) (fun h49 => ?_)
            · skip
              have q49 := bi_0 h49
              have hnod : ∀ y, iso (n, k, sz, ce) (n, k, sz', ce') y → (∀ b, b < c → y b = w b) → y c / 256 ≠ d := fun y hy hyw hyd => by
                have h9 := hy.2.2.1 c hc
                have hk9 := (iso_keys (d := c) hW h4 hy (by omega) (fun b hb => (hyw b hb).symm)).1 c hc
                rw [hyd] at hk9
                refine q49 ⟨clT_0.mpr (fun b hb => ?_), ?_, hk9.symm⟩
                · rw [← hyw b hb, ← hyd]
                  exact h9.2.2.2.2 b hb
                · rw [← hyd]; exact h9.2.1.symm
              refine WP.iinc (lt := [vR 99, vI ((c : Nat) : Int), vI ((m : Nat) : Int), vI (((d : Nat) : Int) + 1)]) dX3_assign_81 rfl (by decide) rfl ?_
              refine WP.goto (tgt := 29) dX3_assign_84 (by decide) ?_
              refine WP.fgt (lt := [vR 99, vI ((c : Nat) : Int), vI ((m : Nat) : Int), vI (((d + 1) : Nat) : Int)]) ⟨Or.inr rfl, Or.inr rfl, Or.inr rfl, Or.inr (congrArg vI (by omega)), trivial⟩ ?_
              exact ih29 (d + 1) (m) (M1) (by omega) (hm7) (hF1) (hZ1) (fun e he => ⟨by have := (hmk e he).1; omega, (hmk e he).2⟩) (fun e he => by
                by_cases e9 : e = d
                · rw [e9]; exact hnod
                · exact hno e (by omega)) (by omega)
            · skip
              have q49 := bi_1 h49
              have hwd : ∀ b, b < c → w b / 256 ≠ d := clT_0.mp q49.1
              refine WP.aload_n dX3_assign_52 rfl ?_
              refine WP.getR (y := 135) dX3_assign_53 fl_X3_25 (rfl) (by decide) (rfl) ?_
              refine WP.iload_n dX3_assign_56 rfl ?_
              refine WP.iload_n dX3_assign_57 rfl ?_
              refine WP.callV (as := [vI ((d : Nat) : Int), vI ((m : Nat) : Int)]) dX3_assign_58 mv_X3_78 rfl (rfl) (by decide) rfl rfl (c_Z_hasTwin (s := 135) (d := d) (m := m) hs2 ht hT21 hW2 hn h42 hm11 (by omega) hm7) rfl (Nat.le_of_ble_eq_true rfl) (by omega) (fun r9 M2 h9 => ?_)
              obtain ⟨rfl, f2⟩ := h9
              have hF2 : ∀ a, ¬ ZF c a → M2 a = M a := fun a ha => by rw [f2 a (fun z => ha (by unfold ZF; omega))]; exact hF1 a ha
              have hZ2 : MZ M2 n k sz sz' ce' w c := MZ_chg (fun b hb => h4 b (by omega)) (by omega) hZ1 (fun a _ _ _ i => f2 a i) (fun b hb => by rw [f2 _ (by decide)]) (fun i hi => by rw [f2 _ (by decide)])
              have hC2 : MC M2 t n k sz ce sz' ce' := MC.fr hS hC (fun a ha => hF2 a (by unfold ZF; omega))
              obtain ⟨hT2, hT22, hm02, hm12, hLF2, hTL2, hKF2⟩ := id hC2
              show WP sc0 (D + 6) m_X3_assign 61 [vR 99, vI ((c : Nat) : Int), vI ((m : Nat) : Int), vI ((d : Nat) : Int)] [vI (bi (∃ e, e < d ∧ mk m e ∧ twn n sz' ce' d e))] M2 (AQ M n k sz ce sz' ce' w c (fun y => ∀ b, b < c → y b = w b))
              refine WP.if_ne (tgt := 81) dX3_assign_61 (by decide) (bi_rng) (fun h61 => ?_) (fun h61 => ?_)
              · skip
                obtain ⟨e, e1, e2, e3⟩ := bi_1 h61
                have hnod : ∀ y, iso (n, k, sz, ce) (n, k, sz', ce') y → (∀ b, b < c → y b = w b) → y c / 256 ≠ d := fun y hy hyw hyd => by
                  obtain ⟨x, x1, x2, x3⟩ := iso_tw (A := (n, k, sz, ce)) (B := (n, k, sz', ce')) (d := d) (e := e) hW hW2 h4 hy (show d < k by omega) (show e < k by omega) e3
                  refine hno e e1 x x1 (fun b hb => ?_) ?_
                  · rw [x3 b (show b < k by omega) (by rw [hyw b hb]; exact hwd b hb) (by rw [hyw b hb]; exact (hmk e e2).2 b hb), hyw b hb]
                  · rw [x2 c hc, hyd]; exact tr_p d e
                refine WP.iinc (lt := [vR 99, vI ((c : Nat) : Int), vI ((m : Nat) : Int), vI (((d : Nat) : Int) + 1)]) dX3_assign_81 rfl (by decide) rfl ?_
                refine WP.goto (tgt := 29) dX3_assign_84 (by decide) ?_
                refine WP.fgt (lt := [vR 99, vI ((c : Nat) : Int), vI ((m : Nat) : Int), vI (((d + 1) : Nat) : Int)]) ⟨Or.inr rfl, Or.inr rfl, Or.inr rfl, Or.inr (congrArg vI (by omega)), trivial⟩ ?_
                exact ih29 (d + 1) (m) (M2) (by omega) (hm7) (hF2) (hZ2) (fun e he => ⟨by have := (hmk e he).1; omega, (hmk e he).2⟩) (fun e he => by
                  by_cases e9 : e = d
                  · rw [e9]; exact hnod
                  · exact hno e (by omega)) (by omega)
              · skip
                refine WP.aload_n dX3_assign_64 rfl ?_
                refine WP.iload_n dX3_assign_65 rfl ?_
                refine WP.iload_n dX3_assign_66 rfl ?_
                refine WP.callV (as := [vI ((c : Nat) : Int), vI ((d : Nat) : Int)]) dX3_assign_67 mv_X3_81 rfl (rfl) (by decide) rfl rfl (c_M_assignLevels (D := D) hS hC2 hc hZ2 (show d < k by omega) q49.2.1.symm hP hwd hA) rfl (Nat.le_of_ble_eq_true rfl) (by omega) (fun r9 M3 h9 => ?_)
                obtain ⟨v3, rfl, f3, q3⟩ := h9
                have hF3 : ∀ a, ¬ ZF c a → M3 a = M a := fun a ha => by rw [f3 a ha]; exact hF2 a ha
                have hv3 : v3 = 0 ∨ v3 = 1 := q3.elim (fun z => Or.inr z.1) (fun z => Or.inl z.1)
                show WP sc0 (D + 6) m_X3_assign 70 [vR 99, vI ((c : Nat) : Int), vI ((m : Nat) : Int), vI ((d : Nat) : Int)] [vI v3] M3 (AQ M n k sz ce sz' ce' w c (fun y => ∀ b, b < c → y b = w b))
                refine WP.if_eq (tgt := 75) dX3_assign_70 (by decide) (by omega) (fun h70 => ?_) (fun h70 => ?_)
                · skip
                  obtain ⟨_, n3, hZ3⟩ := q3.resolve_left (fun z => by omega)
                  have hnod : ∀ y, iso (n, k, sz, ce) (n, k, sz', ce') y → (∀ b, b < c → y b = w b) → y c / 256 ≠ d := fun y hy hyw hyd => n3 y hy ⟨hyw, hyd⟩
                  refine WP.iload_n dX3_assign_75 rfl ?_
                  refine WP.iconst dX3_assign_76 ?_
                  refine WP.iload_n dX3_assign_77 rfl ?_
                  refine WP.ishl (z := ((2 ^ d : Nat) : Int)) dX3_assign_78 (oi_shl1 d (by omega)) ?_
                  refine WP.ior (z := ((m ||| 2 ^ d : Nat) : Int)) dX3_assign_79 (oi_or m (2 ^ d)) ?_
                  refine WP.istore_n (lt := [vR 99, vI ((c : Nat) : Int), vI ((m ||| 2 ^ d : Nat) : Int), vI ((d : Nat) : Int)]) dX3_assign_80 (by decide) rfl ?_
                  refine WP.iinc (lt := [vR 99, vI ((c : Nat) : Int), vI ((m ||| 2 ^ d : Nat) : Int), vI (((d : Nat) : Int) + 1)]) dX3_assign_81 rfl (by decide) rfl ?_
                  refine WP.goto (tgt := 29) dX3_assign_84 (by decide) ?_
                  refine WP.fgt (lt := [vR 99, vI ((c : Nat) : Int), vI (((m ||| 2 ^ d) : Nat) : Int), vI (((d + 1) : Nat) : Int)]) ⟨Or.inr rfl, Or.inr rfl, Or.inr (congrArg vI (by omega)), Or.inr (congrArg vI (by omega)), trivial⟩ ?_
                  exact ih29 (d + 1) (m ||| 2 ^ d) (M3) (by omega) (or_b hm7 (by omega)) (hF3) (hZ3) (fun e he => by
                    rcases (mk_or m d e).mp he with z | z
                    · exact ⟨by have := (hmk e z).1; omega, (hmk e z).2⟩
                    · rw [z]; exact ⟨by omega, hwd⟩) (fun e he => by
                    by_cases e9 : e = d
                    · rw [e9]; exact hnod
                    · exact hno e (by omega)) (by omega)
                · skip
                  obtain ⟨_, y, y1, y2, y3, y4⟩ := q3.resolve_right (fun z => h70 z.1)
                  refine WP.iconst dX3_assign_73 ?_
                  refine WP.zret dX3_assign_74 rfl (by decide) ?_
                  exact ⟨_, rfl, hF3, Or.inl ⟨rfl, y, y1, y2.1, AQ_col (I := fun y => iso (n, k, sz, ce) (n, k, sz', ce') y) hno y2 y3, y4⟩⟩
      refine WP.fgt (lt := [vR 99, vI ((c : Nat) : Int), vI ((0 : Nat) : Int), vI ((0 : Nat) : Int)]) ⟨Or.inr rfl, Or.inr rfl, Or.inr (congrArg vI (by omega)), Or.inr (congrArg vI (by omega)), trivial⟩ ?_
      exact L29 _ (0) (0) (M) (Nat.zero_le _) (by decide) (fun _ _ => rfl) (hZ) (fun e he => absurd he (nmk0 e)) (fun e he => absurd he (Nat.not_lt_zero e)) (Nat.lt_succ_self _)
    · skip
      exfalso
      omega
set_option maxHeartbeats 4000000 in
set_option maxRecDepth 20000 in
theorem c_M_assignE {M : Mem} {t n k : Nat} {sz sz' : Nat → Nat} {ce ce' : Nat → Nat → Nat} (hS : MST t n k sz ce sz' ce') (hC : MC M t n k sz ce sz' ce') {w : Nat → Nat} (hZ : MZ M n k sz sz' ce' w k) (hP : isoP (n, k, sz, ce) (n, k, sz', ce') w k) : CT 4 m_X3_assign [vR 99, vI ((k : Nat) : Int)] M (AQ M n k sz ce sz' ce' w k (fun y => ∀ b, b < k → y b = w b)) := by
  obtain ⟨⟨ht, ht3, ht9⟩, hn, hW, hW2, h4, h42⟩ := id hS
  obtain ⟨hT, hT2, hm0, hm1, hLF, hTL, hKF⟩ := id hC
  have b1 := hW.1
  have b2 := hW.2.1
  have t0 : isT 0 := ⟨rfl, by decide⟩
  have ht2 := ht.2
  have hs1 : isS 103 := Or.inl rfl
  have hs2 : isS 135 := Or.inr rfl
  have h128 : 2 ^ 7 = 128 := rfl
  obtain ⟨hLT, hKT, hAr⟩ := id hZ
  refine CT.ofWP (by decide +kernel) (Nat.le_of_ble_eq_true rfl) ?_
  show WP sc0 4 m_X3_assign 0 [vR 99, vI ((k : Nat) : Int), vU, vU] [] M (AQ M n k sz ce sz' ce' w k (fun y => ∀ b, b < k → y b = w b))
  refine WP.iload_n dX3_assign_0 rfl ?_
  refine WP.aload_n dX3_assign_1 rfl ?_
  refine WP.getR (y := 103) dX3_assign_2 fl_X3_21 (rfl) (by decide) (rfl) ?_
  refine WP.getM (y := 0) dX3_assign_5 fl_X3_66 (rfl) (by decide) (hm0) ?_
  refine WP.getI (x := ((k : Nat) : Int)) dX3_assign_8 fl_X3_37 (rfl) (by decide) (hT.2.1) ?_
  refine WP.icmp_ge (tgt := 20) dX3_assign_11 (by decide) (by omega) (by omega) (fun h11 => ?_) (fun h11 => ?_)
  · skip
    refine WP.aload_n dX3_assign_20 rfl ?_
    refine WP.callV (as := []) dX3_assign_21 mv_X3_70 rfl (rfl) (by decide) rfl rfl (c_M_maps (w := w) hS hC hP hAr) rfl (Nat.le_of_ble_eq_true rfl) (by omega) (fun r9 M1 h9 => ?_)
    obtain ⟨rfl, f1⟩ := h9
    show WP sc0 4 m_X3_assign 24 [vR 99, vI ((k : Nat) : Int), vU, vU] [vI (bi (rwm (n, k, sz, ce) (n, k, sz', ce') w k))] M1 (AQ M n k sz ce sz' ce' w k (fun y => ∀ b, b < k → y b = w b))
    refine WP.zret dX3_assign_24 rfl (bi_01) ?_
    refine ⟨_, rfl, fun a ha => f1 a (fun z => ha (by unfold ZF; omega)), ?_⟩
    by_cases e : rwm (n, k, sz, ce) (n, k, sz', ce') w k
    · refine Or.inl ⟨bi_t e, w, ⟨rfl, rfl, hP, e⟩, fun b _ => rfl, fun y' _ hX ⟨q, q1, q2, _⟩ => ?_, fun b hb => ⟨by rw [f1 _ (by decide)]; exact (hAr b hb).1, fun v hv => by rw [f1 _ (by decide)]; exact (hAr b hb).2 v hv⟩⟩
      rw [hX q q1] at q2
      omega
    · refine Or.inr ⟨bi_f e, fun y hy hX => e (rwm_cg hX hy.2.2.2), MZ_chg h4 (by omega) hZ (fun a _ _ i _ => f1 a i) (fun b hb => by rw [f1 _ (by decide)]) (fun i hi => by rw [f1 _ (by decide)])⟩
  · skip
    exfalso
    omega
theorem AC_all {t n k : Nat} {sz sz' : Nat → Nat} {ce ce' : Nat → Nat → Nat} (hS : MST t n k sz ce sz' ce') : ∀ j c, c + j = k → AC t n k sz ce sz' ce' c (2 * j + 4)
  | 0, c, h => fun M w hC hP hZ => by
    obtain rfl : c = k := by omega
    exact c_M_assignE hS hC hZ hP
  | j + 1, c, h => fun M w hC hP hZ => c_M_assign (D := 2 * j) hS hC (by omega) hZ hP (AC_all hS j (c + 1) (by omega))
