set_option maxHeartbeats 4000000 in
set_option maxRecDepth 20000 in
theorem c_E_place_s {M : Mem} {t n k : Nat} {sz : Nat → Nat} {ce : Nat → Nat → Nat} {lv r d : Nat} {x : Nat → Nat} (ht : isT t) (hT : TX M t n k sz ce) (hW : Wf n k sz ce) (hL : LSt M t n k lv sz ce x r) (hlv : 2 ≤ lv ∧ lv ≤ 6) (hr : r < n) (hn : n ≤ 16) (hfe : feas n k sz ce lv x r) (ih : ∀ (x : Nat → Nat) (M : Mem), TX M t n k sz ce → LSt M t n k lv sz ce x (r + 1) → feas n k sz ce lv x (r + 1) → CT d m_X1_place [vR 52, vI ((r + 1 : Nat) : Int), vI ((us x (r + 1) : Nat) : Int)] M (PQ M t n k lv sz ce x (r + 1))) (hd3 : 3 ≤ d) : CT (d + 1) m_X1_place [vR 52, vI ((r : Nat) : Int), vI ((us x r : Nat) : Int)] M (PQ M t n k lv sz ce x r) := by
  have b1 := hW.1
  have b2 := hW.2.1
  have ht2 := ht.2
  have hm1 := hL.1
  have hm2 := hL.2.1
  refine CT.ofWP (by decide +kernel) (Nat.le_of_ble_eq_true rfl) ?_
  show WP sc0 (d + 1) m_X1_place 0 [vR 52, vI ((r : Nat) : Int), vI ((us x r : Nat) : Int), vU, vU, vU] [] M (PQ M t n k lv sz ce x r)
  refine WP.iload_n dX1_place_0 rfl ?_
  refine WP.aload_n dX1_place_1 rfl ?_
  refine WP.getM (y := t) dX1_place_2 fl_X1_18 (rfl) (by decide) (hm1) rfl ?_
  refine WP.getI (x := ((n : Nat) : Int)) dX1_place_5 fl_X1_41 (shT0 ht) (by decide) (hT.1) ?_
  refine WP.icmp_ge (tgt := 17) dX1_place_8 (by decide) (by omega) (by omega) (fun h8 => ?_) (fun h8 => ?_)
  · skip
    exfalso
    omega
  · skip
    refine WP.iload_n dX1_place_11 rfl ?_
    refine WP.bipush dX1_place_12 (by decide) ?_
    refine WP.icmp_lt (tgt := 19) dX1_place_14 (by decide) (by omega) (by omega) (fun h14 => ?_) (fun h14 => ?_)
    · skip
      have heb : eb ce k r ≤ r := ebF_le ce k r r
      refine WP.aload_n dX1_place_19 rfl ?_
      refine WP.getR (y := 54) dX1_place_20 fl_X1_26 (rfl) (by decide) (rfl) ?_
      refine WP.iload_n dX1_place_23 rfl ?_
      refine WP.iaload (y := r) (x := ((eb ce k r : Nat) : Int) - 1) dX1_place_24 (rfl) (by omega) (by omega) (hL.2.2.1 r hr) ?_
      refine WP.if_ge (tgt := 32) dX1_place_25 (by decide) (by omega) (fun h25 => ?_) (fun h25 => ?_)
      · skip
        have hlo : lo ce k x r = x (eb ce k r - 1) := if_neg (by omega)
        refine WP.aload_n dX1_place_32 rfl ?_
        refine WP.getR (y := 53) dX1_place_33 fl_X1_9 (rfl) (by decide) (rfl) ?_
        refine WP.aload_n dX1_place_36 rfl ?_
        refine WP.getR (y := 54) dX1_place_37 fl_X1_26 (rfl) (by decide) (rfl) ?_
        refine WP.iload_n dX1_place_40 rfl ?_
        refine WP.iaload (y := r) (x := ((eb ce k r : Nat) : Int) - 1) dX1_place_41 (rfl) (by omega) (by omega) (hL.2.2.1 r hr) ?_
        refine WP.iaload (y := (eb ce k r - 1)) (x := ((x (eb ce k r - 1) : Nat) : Int)) dX1_place_42 (rfl) (by omega) (by omega) (hL.2.2.2.1 _ (by omega)) ?_
        refine WP.eqs (st' := [vI ((lo ce k x r : Nat) : Int)]) rfl (lc (congrArg vI (by rw [hlo])) rfl) ?_
        refine WP.istore_n (lt := [vR 52, vI ((r : Nat) : Int), vI ((us x r : Nat) : Int), vI ((lo ce k x r : Nat) : Int), vU, vU]) dX1_place_43 (by decide) rfl ?_
        have hus : us x r ≤ lv := us_le hfe.1
        have hlv1 : lo ce k x r ≤ lv := by
          by_cases e : eb ce k r = 0
          · have : lo ce k x r = 0 := if_pos e
            omega
          · have h1 : lo ce k x r = x (eb ce k r - 1) := if_neg e
            have := hfe.1 (eb ce k r - 1) (by omega)
            omega
        refine WP.iload_n dX1_place_44 rfl ?_
        refine WP.aload_n dX1_place_45 rfl ?_
        refine WP.getI (x := ((lv : Nat) : Int)) dX1_place_46 fl_X1_22 (rfl) (by decide) (hm2) ?_
        refine WP.iconst dX1_place_49 ?_
        refine WP.isub dX1_place_50 ?_
        refine WP.eqs (st' := [vI ((lv - 1 : Nat) : Int), vI ((us x r : Nat) : Int)]) rfl (lc (congrArg vI (by omega)) rfl) ?_
        refine WP.mmin (a := us x r) (b := lv - 1) dX1_place_51 w_ml_X1_69 (by omega) (by omega) (by omega) (Nat.le_of_ble_eq_true rfl) ?_
        refine WP.istore (lt := [vR 52, vI ((r : Nat) : Int), vI ((us x r : Nat) : Int), vI ((lo ce k x r : Nat) : Int), vI ((Nat.min (us x r) (lv - 1) : Nat) : Int), vU]) dX1_place_54 (by decide) rfl ?_
        refine WP.iload_n dX1_place_56 rfl ?_
        refine WP.istore (lt := [vR 52, vI ((r : Nat) : Int), vI ((us x r : Nat) : Int), vI ((lo ce k x r : Nat) : Int), vI ((Nat.min (us x r) (lv - 1) : Nat) : Int), vI ((lo ce k x r : Nat) : Int)]) dX1_place_57 (by decide) rfl ?_
        have L59 : ∀ (n9 : Nat) (g : Nat) (M1 : Mem) (hg : lo ce k x r ≤ g) (hgl : g ≤ lv) (hF : (∀ a, a ≠ 53 → a ≠ 98 → (a < 56 ∨ 98 ≤ a) → M1 a = M a)) (hL1 : LSt M1 t n k lv sz ce x r) (hno : ∀ y, CY n k lv sz ce x r y → g ≤ y r), lv + 1 - g < n9 → WP sc0 (d + 1) m_X1_place 59 [vR 52, vI ((r : Nat) : Int), vI ((us x r : Nat) : Int), vI ((lo ce k x r : Nat) : Int), vI ((Nat.min (us x r) (lv - 1) : Nat) : Int), vI ((g : Nat) : Int)] [] M1 (PQ M t n k lv sz ce x r) := by
          intro n9
          induction n9 with
          | zero =>
            intro g M1 hg hgl hF hL1 hno hm9
            exact absurd hm9 (Nat.not_lt_zero _)
          | succ n9 ih59 =>
            intro g M1 hg hgl hF hL1 hno hm9
            have hT1 : TX M1 t n k sz ce := hT.fr (hF t (by omega) (by omega) (by omega)) (hF (t + 1) (by omega) (by omega) (by omega)) (hF (t + 2) (by omega) (by omega) (by omega))
            have hm11 := hL1.1
            have hm21 := hL1.2.1
            have hhi : Nat.min (us x r) (lv - 1) ≤ us x r ∧ Nat.min (us x r) (lv - 1) ≤ lv - 1 ∧ (Nat.min (us x r) (lv - 1) = us x r ∨ Nat.min (us x r) (lv - 1) = lv - 1) := ⟨Nat.min_le_left _ _, Nat.min_le_right _ _, (Nat.le_total (us x r) (lv - 1)).elim (fun z => Or.inl (Nat.min_eq_left z)) (fun z => Or.inr (Nat.min_eq_right z))⟩
            refine WP.iload dX1_place_59 rfl ?_
            refine WP.iload dX1_place_61 rfl ?_
            refine WP.icmp_gt (tgt := 126) dX1_place_63 (by decide) (by omega) (by omega) (fun h63 => ?_) (fun h63 => ?_)
            · skip
              refine WP.iconst dX1_place_126 ?_
              refine WP.zret dX1_place_127 rfl (by decide) ?_
              refine ⟨hF, Or.inl ⟨rfl, fun y hy => ?_, hL1⟩⟩
              have h1 := hno y hy
              have h2 := (hy.2.2 r (Nat.le_refl _) hr).2
              have h3 := hy.2.1.1 r hr
              rw [us_cg hy.1] at h2
              omega
            · skip
              have hglv : g < lv ∧ g ≤ us x r := by omega
              refine WP.aload_n dX1_place_66 rfl ?_
              refine WP.iload_n dX1_place_67 rfl ?_
              refine WP.iload dX1_place_68 rfl ?_
              refine WP.callVp (as := [vI ((r : Nat) : Int), vI ((g : Nat) : Int)]) dX1_place_70 mv_X1_74 rfl (rfl) (by decide) rfl rfl (c_E_fits ht hT1 hW hL1 hlv hr hn hfe (g := g) (by omega)) rfl (Nat.le_of_ble_eq_true rfl) (by omega) ?_
              refine WP.if_eq (tgt := 120) dX1_place_73 (by decide) (bi_rng) (fun h73 => ?_) (fun h73 => ?_)
              · skip
                refine WP.iinc (lt := [vR 52, vI ((r : Nat) : Int), vI ((us x r : Nat) : Int), vI ((lo ce k x r : Nat) : Int), vI ((Nat.min (us x r) (lv - 1) : Nat) : Int), vI (((g : Nat) : Int) + 1)]) dX1_place_120 rfl (by decide) rfl ?_
                refine WP.goto (tgt := 59) dX1_place_123 (by decide) ?_
                refine WP.fgt (lt := [vR 52, vI ((r : Nat) : Int), vI ((us x r : Nat) : Int), vI ((lo ce k x r : Nat) : Int), vI ((Nat.min (us x r) (lv - 1) : Nat) : Int), vI (((g + 1) : Nat) : Int)]) ⟨Or.inr rfl, Or.inr rfl, Or.inr rfl, Or.inr rfl, Or.inr rfl, Or.inr (congrArg vI (by omega)), trivial⟩ ?_
                exact ih59 (g + 1) (M1) (by omega) (by omega) (hF) (hL1) (fun y hy => by
                  have h1 := hno y hy
                  by_cases e : y r = g
                  · exfalso
                    exact bi_0 h73 (e ▸ fit_of hW (by omega) hr hy.1 hy.2.1)
                  · omega) (by omega)
              · skip
                have hfit := bi_1 h73
                have hfe2 := fit_feas hfe (by omega) hfit
                refine WP.aload_n dX1_place_76 rfl ?_
                refine WP.getR (y := 53) dX1_place_77 fl_X1_9 (rfl) (by decide) (rfl) ?_
                refine WP.iload_n dX1_place_80 rfl ?_
                refine WP.iload dX1_place_81 rfl ?_
                refine WP.iastore (y := r) dX1_place_83 (rfl) (by omega) (by omega) rfl ?_
                obtain ⟨M2, hM2⟩ : ∃ z, z = mset M1 53 r ((g : Nat) : Int) := ⟨_, rfl⟩
                refine WP.eqM hM2.symm ?_
                have hO2 : ∀ a, a ≠ 53 → M2 a = M1 a := fun a ha => by rw [hM2]; exact mset_o a ha
                have hL2 : LSt M2 t n k lv sz ce x r := ⟨by rw [hO2 52 (by decide)]; exact hL1.1, by rw [hO2 52 (by decide)]; exact hL1.2.1, fun q hq => by rw [hO2 54 (by decide)]; exact hL1.2.2.1 q hq, fun q hq => by rw [hM2, mset_n (Or.inr (by omega))]; exact hL1.2.2.2.1 q hq, fun a ha => by rw [hO2 98 (by decide)]; exact hL1.2.2.2.2.1 a ha, fun c hc v hv a ha => by rw [hO2 _ (by omega)]; exact hL1.2.2.2.2.2 c hc v hv a ha⟩
                have hc2 : M2 53 r = (g : Int) := by rw [hM2]; exact mset_s
                have hT2 : TX M2 t n k sz ce := hT1.fr (hO2 t (by omega)) (hO2 (t + 1) (by omega)) (hO2 (t + 2) (by omega))
                refine WP.aload_n dX1_place_84 rfl ?_
                refine WP.iload_n dX1_place_85 rfl ?_
                refine WP.iload dX1_place_86 rfl ?_
                refine WP.iconst dX1_place_88 ?_
                refine WP.callV (as := [vI ((r : Nat) : Int), vI ((g : Nat) : Int), vI ((-1) : Int)]) dX1_place_89 mv_X1_77 rfl (rfl) (by decide) rfl rfl (c_E_use (s := -1) ht hT2 hW hL2.1 hr (g := g) (by omega)) rfl (Nat.le_of_ble_eq_true rfl) (by omega) (fun r9 M3 h9 => ?_)
                obtain ⟨rfl, hU3⟩ := h9
                have hL3 := LS_up hW hr hL2 hc2 hU3
                have hF3 : (∀ a, a ≠ 53 → a ≠ 98 → (a < 56 ∨ 98 ≤ a) → M3 a = M a) := fun a i1 i2 i3 => by
                  funext j
                  have hce6 := fun b (hb : b < k) => hW.2.2.2 r hr b hb
                  rw [hU3, cif_f (p := usQ ce k r g a j) (fun z => z.elim (fun q => i2 q.1) (fun ⟨b, hb, q, _⟩ => by have := hce6 b hb; have := hW.2.2.1 b hb; omega)), hO2 a i1, hF a i1 i2 i3]; omega
                have hT3 : TX M3 t n k sz ce := hT.fr (hF3 t (by omega) (by omega) (by omega)) (hF3 (t + 1) (by omega) (by omega) (by omega)) (hF3 (t + 2) (by omega) (by omega) (by omega))
                show WP sc0 (d + 1) m_X1_place 92 [vR 52, vI ((r : Nat) : Int), vI ((us x r : Nat) : Int), vI ((lo ce k x r : Nat) : Int), vI ((Nat.min (us x r) (lv - 1) : Nat) : Int), vI ((g : Nat) : Int)] [] M3 (PQ M t n k lv sz ce x r)
                refine WP.aload_n dX1_place_92 rfl ?_
                refine WP.iload_n dX1_place_93 rfl ?_
                refine WP.iconst dX1_place_94 ?_
                refine WP.iadd dX1_place_95 ?_
                refine WP.iload_n dX1_place_96 rfl ?_
                refine WP.iload dX1_place_97 rfl ?_
                refine WP.iconst dX1_place_99 ?_
                refine WP.iadd dX1_place_100 ?_
                refine WP.eqs (st' := [vI ((g + 1 : Nat) : Int), vI ((us x r : Nat) : Int), vI (((r : Nat) : Int) + (1 : Int)), vR 52]) rfl (lc (congrArg vI (by omega)) rfl) ?_
                refine WP.mmax (a := us x r) (b := g + 1) dX1_place_101 w_ml_X1_81 (by omega) (by omega) (by omega) (Nat.le_of_ble_eq_true rfl) ?_
                refine WP.eqs (st' := [vI ((us (upN x r g) (r + 1) : Nat) : Int), vI ((r + 1 : Nat) : Int), vR 52]) rfl (lc (congrArg vI (show ((us (upN x r g) (r + 1) : Nat) : Int) = _ from by rw [us, upN_s, us_cg (fun q hq => upN_n (by omega))]).symm) (lc (congrArg vI (by omega)) rfl)) ?_
                refine WP.callV (as := [vI ((r + 1 : Nat) : Int), vI ((us (upN x r g) (r + 1) : Nat) : Int)]) dX1_place_104 mv_X1_48 rfl rfl (by decide) rfl rfl (ih (upN x r g) M3 hT3 hL3 hfe2) rfl (Nat.le_of_ble_eq_true rfl) (by omega) (fun r9 M4 h9 => ?_)
                obtain ⟨hF4a, hor⟩ := h9
                have hF4 : (∀ a, a ≠ 53 → a ≠ 98 → (a < 56 ∨ 98 ≤ a) → M4 a = M a) := fun a i1 i2 i3 => (hF4a a i1 i2 i3).trans (hF3 a i1 i2 i3)
                rcases hor with ⟨rfl, hnone, hL4⟩ | ⟨rfl, y, hy1, hy2, hy3⟩
                · skip
                  show WP sc0 (d + 1) m_X1_place 107 [vR 52, vI ((r : Nat) : Int), vI ((us x r : Nat) : Int), vI ((lo ce k x r : Nat) : Int), vI ((Nat.min (us x r) (lv - 1) : Nat) : Int), vI ((g : Nat) : Int)] [vI (0 : Int)] M4 (PQ M t n k lv sz ce x r)
                  refine WP.if_eq (tgt := 112) dX1_place_107 (by decide) (by omega) (fun h107 => ?_) (fun h107 => ?_)
                  · skip
                    have hT4 : TX M4 t n k sz ce := hT.fr (hF4 t (by omega) (by omega) (by omega)) (hF4 (t + 1) (by omega) (by omega) (by omega)) (hF4 (t + 2) (by omega) (by omega) (by omega))
                    refine WP.aload_n dX1_place_112 rfl ?_
                    refine WP.iload_n dX1_place_113 rfl ?_
                    refine WP.iload dX1_place_114 rfl ?_
                    refine WP.iconst dX1_place_116 ?_
                    refine WP.callV (as := [vI ((r : Nat) : Int), vI ((g : Nat) : Int), vI (1 : Int)]) dX1_place_117 mv_X1_77 rfl (rfl) (by decide) rfl rfl (c_E_use (s := 1) ht hT4 hW hL4.1 hr (g := g) (by omega)) rfl (Nat.le_of_ble_eq_true rfl) (by omega) (fun r9 M5 h9 => ?_)
                    obtain ⟨rfl, hU5⟩ := h9
                    have hL5 := LS_dn hW hr hL4 hU5
                    have hF5 : (∀ a, a ≠ 53 → a ≠ 98 → (a < 56 ∨ 98 ≤ a) → M5 a = M a) := fun a i1 i2 i3 => by
                      funext j
                      have hce6 := fun b (hb : b < k) => hW.2.2.2 r hr b hb
                      rw [hU5, cif_f (p := usQ ce k r g a j) (fun z => z.elim (fun q => i2 q.1) (fun ⟨b, hb, q, _⟩ => by have := hce6 b hb; have := hW.2.2.1 b hb; omega)), hF4 a i1 i2 i3]; omega
                    show WP sc0 (d + 1) m_X1_place 120 [vR 52, vI ((r : Nat) : Int), vI ((us x r : Nat) : Int), vI ((lo ce k x r : Nat) : Int), vI ((Nat.min (us x r) (lv - 1) : Nat) : Int), vI ((g : Nat) : Int)] [] M5 (PQ M t n k lv sz ce x r)
                    refine WP.iinc (lt := [vR 52, vI ((r : Nat) : Int), vI ((us x r : Nat) : Int), vI ((lo ce k x r : Nat) : Int), vI ((Nat.min (us x r) (lv - 1) : Nat) : Int), vI (((g : Nat) : Int) + 1)]) dX1_place_120 rfl (by decide) rfl ?_
                    refine WP.goto (tgt := 59) dX1_place_123 (by decide) ?_
                    refine WP.fgt (lt := [vR 52, vI ((r : Nat) : Int), vI ((us x r : Nat) : Int), vI ((lo ce k x r : Nat) : Int), vI ((Nat.min (us x r) (lv - 1) : Nat) : Int), vI (((g + 1) : Nat) : Int)]) ⟨Or.inr rfl, Or.inr rfl, Or.inr rfl, Or.inr rfl, Or.inr rfl, Or.inr (congrArg vI (by omega)), trivial⟩ ?_
                    exact ih59 (g + 1) (M5) (by omega) (by omega) (hF5) (hL5) (fun y hy => by
                      have h1 := hno y hy
                      by_cases e : y r = g
                      · exfalso
                        exact hnone y ((CY_up hr).mpr ⟨e, hy.1, hy.2.1, fun q h1 h2 => hy.2.2 q (by omega) h2⟩)
                      · omega) (by omega)
                  · skip
                    exfalso
                    omega
                · skip
                  show WP sc0 (d + 1) m_X1_place 107 [vR 52, vI ((r : Nat) : Int), vI ((us x r : Nat) : Int), vI ((lo ce k x r : Nat) : Int), vI ((Nat.min (us x r) (lv - 1) : Nat) : Int), vI ((g : Nat) : Int)] [vI (1 : Int)] M4 (PQ M t n k lv sz ce x r)
                  refine WP.if_eq (tgt := 112) dX1_place_107 (by decide) (by omega) (fun h107 => ?_) (fun h107 => ?_)
                  · skip
                    exfalso
                    omega
                  · skip
                    refine WP.iconst dX1_place_110 ?_
                    refine WP.zret dX1_place_111 rfl (by decide) ?_
                    obtain ⟨i1, i2, i3, i4⟩ := (CY_up hr).mp hy1
                    refine ⟨hF4, Or.inr ⟨rfl, y, ⟨i2, i3, fun q h1 h2 => ?_⟩, fun y' hy' hlt => ?_, hy3⟩⟩
                    · by_cases e : q = r
                      · rw [e]
                        refine ⟨by rw [lo_cg i2, i1]; exact hg, by rw [i1, us_cg i2]; exact hglv.2⟩
                      · exact i4 q (by omega) h2
                    · have h1 := hno y' hy'
                      by_cases e : y' r = g
                      · exact hy2 y' ((CY_up hr).mpr ⟨e, hy'.1, hy'.2.1, fun q h2 h3 => hy'.2.2 q (by omega) h3⟩) hlt
                      · obtain ⟨q, q1, q2, q3⟩ := hlt
                        rcases Nat.lt_trichotomy q r with h | h | h
                        · have := hy'.1 q h
                          have := i2 q h
                          omega
                        · subst h; omega
                        · have := q3 r h
                          omega
        refine WP.fgt (lt := [vR 52, vI ((r : Nat) : Int), vI ((us x r : Nat) : Int), vI ((lo ce k x r : Nat) : Int), vI ((Nat.min (us x r) (lv - 1) : Nat) : Int), vI (((lo ce k x r) : Nat) : Int)]) ⟨Or.inr rfl, Or.inr rfl, Or.inr rfl, Or.inr rfl, Or.inr rfl, Or.inr (congrArg vI (by omega)), trivial⟩ ?_
        exact L59 _ (lo ce k x r) (M) (Nat.le_refl _) (hlv1) (fun _ _ _ _ => rfl) (hL) (fun y hy => by have := (hy.2.2 r (Nat.le_refl _) hr).1; rw [lo_cg hy.1] at this; exact this) (Nat.lt_succ_self _)
      · skip
        have hlo : lo ce k x r = 0 := if_pos (by omega)
        refine WP.iconst dX1_place_28 ?_
        refine WP.goto (tgt := 43) dX1_place_29 (by decide) ?_
        refine WP.eqs (st' := [vI ((lo ce k x r : Nat) : Int)]) rfl (lc (congrArg vI (by rw [hlo]; rfl)) rfl) ?_
        refine WP.istore_n (lt := [vR 52, vI ((r : Nat) : Int), vI ((us x r : Nat) : Int), vI ((lo ce k x r : Nat) : Int), vU, vU]) dX1_place_43 (by decide) rfl ?_
        have hus : us x r ≤ lv := us_le hfe.1
        have hlv1 : lo ce k x r ≤ lv := by
          by_cases e : eb ce k r = 0
          · have : lo ce k x r = 0 := if_pos e
            omega
          · have h1 : lo ce k x r = x (eb ce k r - 1) := if_neg e
            have := hfe.1 (eb ce k r - 1) (by omega)
            omega
        refine WP.iload_n dX1_place_44 rfl ?_
        refine WP.aload_n dX1_place_45 rfl ?_
        refine WP.getI (x := ((lv : Nat) : Int)) dX1_place_46 fl_X1_22 (rfl) (by decide) (hm2) ?_
        refine WP.iconst dX1_place_49 ?_
        refine WP.isub dX1_place_50 ?_
        refine WP.eqs (st' := [vI ((lv - 1 : Nat) : Int), vI ((us x r : Nat) : Int)]) rfl (lc (congrArg vI (by omega)) rfl) ?_
        refine WP.mmin (a := us x r) (b := lv - 1) dX1_place_51 w_ml_X1_69 (by omega) (by omega) (by omega) (Nat.le_of_ble_eq_true rfl) ?_
        refine WP.istore (lt := [vR 52, vI ((r : Nat) : Int), vI ((us x r : Nat) : Int), vI ((lo ce k x r : Nat) : Int), vI ((Nat.min (us x r) (lv - 1) : Nat) : Int), vU]) dX1_place_54 (by decide) rfl ?_
        refine WP.iload_n dX1_place_56 rfl ?_
        refine WP.istore (lt := [vR 52, vI ((r : Nat) : Int), vI ((us x r : Nat) : Int), vI ((lo ce k x r : Nat) : Int), vI ((Nat.min (us x r) (lv - 1) : Nat) : Int), vI ((lo ce k x r : Nat) : Int)]) dX1_place_57 (by decide) rfl ?_
        have L59 : ∀ (n9 : Nat) (g : Nat) (M1 : Mem) (hg : lo ce k x r ≤ g) (hgl : g ≤ lv) (hF : (∀ a, a ≠ 53 → a ≠ 98 → (a < 56 ∨ 98 ≤ a) → M1 a = M a)) (hL1 : LSt M1 t n k lv sz ce x r) (hno : ∀ y, CY n k lv sz ce x r y → g ≤ y r), lv + 1 - g < n9 → WP sc0 (d + 1) m_X1_place 59 [vR 52, vI ((r : Nat) : Int), vI ((us x r : Nat) : Int), vI ((lo ce k x r : Nat) : Int), vI ((Nat.min (us x r) (lv - 1) : Nat) : Int), vI ((g : Nat) : Int)] [] M1 (PQ M t n k lv sz ce x r) := by
          intro n9
          induction n9 with
          | zero =>
            intro g M1 hg hgl hF hL1 hno hm9
            exact absurd hm9 (Nat.not_lt_zero _)
          | succ n9 ih59 =>
            intro g M1 hg hgl hF hL1 hno hm9
            have hT1 : TX M1 t n k sz ce := hT.fr (hF t (by omega) (by omega) (by omega)) (hF (t + 1) (by omega) (by omega) (by omega)) (hF (t + 2) (by omega) (by omega) (by omega))
            have hm11 := hL1.1
            have hm21 := hL1.2.1
            have hhi : Nat.min (us x r) (lv - 1) ≤ us x r ∧ Nat.min (us x r) (lv - 1) ≤ lv - 1 ∧ (Nat.min (us x r) (lv - 1) = us x r ∨ Nat.min (us x r) (lv - 1) = lv - 1) := ⟨Nat.min_le_left _ _, Nat.min_le_right _ _, (Nat.le_total (us x r) (lv - 1)).elim (fun z => Or.inl (Nat.min_eq_left z)) (fun z => Or.inr (Nat.min_eq_right z))⟩
            refine WP.iload dX1_place_59 rfl ?_
            refine WP.iload dX1_place_61 rfl ?_
            refine WP.icmp_gt (tgt := 126) dX1_place_63 (by decide) (by omega) (by omega) (fun h63 => ?_) (fun h63 => ?_)
            · skip
              refine WP.iconst dX1_place_126 ?_
              refine WP.zret dX1_place_127 rfl (by decide) ?_
              refine ⟨hF, Or.inl ⟨rfl, fun y hy => ?_, hL1⟩⟩
              have h1 := hno y hy
              have h2 := (hy.2.2 r (Nat.le_refl _) hr).2
              have h3 := hy.2.1.1 r hr
              rw [us_cg hy.1] at h2
              omega
            · skip
              have hglv : g < lv ∧ g ≤ us x r := by omega
              refine WP.aload_n dX1_place_66 rfl ?_
              refine WP.iload_n dX1_place_67 rfl ?_
              refine WP.iload dX1_place_68 rfl ?_
              refine WP.callVp (as := [vI ((r : Nat) : Int), vI ((g : Nat) : Int)]) dX1_place_70 mv_X1_74 rfl (rfl) (by decide) rfl rfl (c_E_fits ht hT1 hW hL1 hlv hr hn hfe (g := g) (by omega)) rfl (Nat.le_of_ble_eq_true rfl) (by omega) ?_
              refine WP.if_eq (tgt := 120) dX1_place_73 (by decide) (bi_rng) (fun h73 => ?_) (fun h73 => ?_)
              · skip
                refine WP.iinc (lt := [vR 52, vI ((r : Nat) : Int), vI ((us x r : Nat) : Int), vI ((lo ce k x r : Nat) : Int), vI ((Nat.min (us x r) (lv - 1) : Nat) : Int), vI (((g : Nat) : Int) + 1)]) dX1_place_120 rfl (by decide) rfl ?_
                refine WP.goto (tgt := 59) dX1_place_123 (by decide) ?_
                refine WP.fgt (lt := [vR 52, vI ((r : Nat) : Int), vI ((us x r : Nat) : Int), vI ((lo ce k x r : Nat) : Int), vI ((Nat.min (us x r) (lv - 1) : Nat) : Int), vI (((g + 1) : Nat) : Int)]) ⟨Or.inr rfl, Or.inr rfl, Or.inr rfl, Or.inr rfl, Or.inr rfl, Or.inr (congrArg vI (by omega)), trivial⟩ ?_
                exact ih59 (g + 1) (M1) (by omega) (by omega) (hF) (hL1) (fun y hy => by
                  have h1 := hno y hy
                  by_cases e : y r = g
                  · exfalso
                    exact bi_0 h73 (e ▸ fit_of hW (by omega) hr hy.1 hy.2.1)
                  · omega) (by omega)
              · skip
                have hfit := bi_1 h73
                have hfe2 := fit_feas hfe (by omega) hfit
                refine WP.aload_n dX1_place_76 rfl ?_
                refine WP.getR (y := 53) dX1_place_77 fl_X1_9 (rfl) (by decide) (rfl) ?_
                refine WP.iload_n dX1_place_80 rfl ?_
                refine WP.iload dX1_place_81 rfl ?_
                refine WP.iastore (y := r) dX1_place_83 (rfl) (by omega) (by omega) rfl ?_
                obtain ⟨M2, hM2⟩ : ∃ z, z = mset M1 53 r ((g : Nat) : Int) := ⟨_, rfl⟩
                refine WP.eqM hM2.symm ?_
                have hO2 : ∀ a, a ≠ 53 → M2 a = M1 a := fun a ha => by rw [hM2]; exact mset_o a ha
                have hL2 : LSt M2 t n k lv sz ce x r := ⟨by rw [hO2 52 (by decide)]; exact hL1.1, by rw [hO2 52 (by decide)]; exact hL1.2.1, fun q hq => by rw [hO2 54 (by decide)]; exact hL1.2.2.1 q hq, fun q hq => by rw [hM2, mset_n (Or.inr (by omega))]; exact hL1.2.2.2.1 q hq, fun a ha => by rw [hO2 98 (by decide)]; exact hL1.2.2.2.2.1 a ha, fun c hc v hv a ha => by rw [hO2 _ (by omega)]; exact hL1.2.2.2.2.2 c hc v hv a ha⟩
                have hc2 : M2 53 r = (g : Int) := by rw [hM2]; exact mset_s
                have hT2 : TX M2 t n k sz ce := hT1.fr (hO2 t (by omega)) (hO2 (t + 1) (by omega)) (hO2 (t + 2) (by omega))
                refine WP.aload_n dX1_place_84 rfl ?_
                refine WP.iload_n dX1_place_85 rfl ?_
                refine WP.iload dX1_place_86 rfl ?_
                refine WP.iconst dX1_place_88 ?_
                refine WP.callV (as := [vI ((r : Nat) : Int), vI ((g : Nat) : Int), vI ((-1) : Int)]) dX1_place_89 mv_X1_77 rfl (rfl) (by decide) rfl rfl (c_E_use (s := -1) ht hT2 hW hL2.1 hr (g := g) (by omega)) rfl (Nat.le_of_ble_eq_true rfl) (by omega) (fun r9 M3 h9 => ?_)
                obtain ⟨rfl, hU3⟩ := h9
                have hL3 := LS_up hW hr hL2 hc2 hU3
                have hF3 : (∀ a, a ≠ 53 → a ≠ 98 → (a < 56 ∨ 98 ≤ a) → M3 a = M a) := fun a i1 i2 i3 => by
                  funext j
                  have hce6 := fun b (hb : b < k) => hW.2.2.2 r hr b hb
                  rw [hU3, cif_f (p := usQ ce k r g a j) (fun z => z.elim (fun q => i2 q.1) (fun ⟨b, hb, q, _⟩ => by have := hce6 b hb; have := hW.2.2.1 b hb; omega)), hO2 a i1, hF a i1 i2 i3]; omega
                have hT3 : TX M3 t n k sz ce := hT.fr (hF3 t (by omega) (by omega) (by omega)) (hF3 (t + 1) (by omega) (by omega) (by omega)) (hF3 (t + 2) (by omega) (by omega) (by omega))
                show WP sc0 (d + 1) m_X1_place 92 [vR 52, vI ((r : Nat) : Int), vI ((us x r : Nat) : Int), vI ((lo ce k x r : Nat) : Int), vI ((Nat.min (us x r) (lv - 1) : Nat) : Int), vI ((g : Nat) : Int)] [] M3 (PQ M t n k lv sz ce x r)
                refine WP.aload_n dX1_place_92 rfl ?_
                refine WP.iload_n dX1_place_93 rfl ?_
                refine WP.iconst dX1_place_94 ?_
                refine WP.iadd dX1_place_95 ?_
                refine WP.iload_n dX1_place_96 rfl ?_
                refine WP.iload dX1_place_97 rfl ?_
                refine WP.iconst dX1_place_99 ?_
                refine WP.iadd dX1_place_100 ?_
                refine WP.eqs (st' := [vI ((g + 1 : Nat) : Int), vI ((us x r : Nat) : Int), vI (((r : Nat) : Int) + (1 : Int)), vR 52]) rfl (lc (congrArg vI (by omega)) rfl) ?_
                refine WP.mmax (a := us x r) (b := g + 1) dX1_place_101 w_ml_X1_81 (by omega) (by omega) (by omega) (Nat.le_of_ble_eq_true rfl) ?_
                refine WP.eqs (st' := [vI ((us (upN x r g) (r + 1) : Nat) : Int), vI ((r + 1 : Nat) : Int), vR 52]) rfl (lc (congrArg vI (show ((us (upN x r g) (r + 1) : Nat) : Int) = _ from by rw [us, upN_s, us_cg (fun q hq => upN_n (by omega))]).symm) (lc (congrArg vI (by omega)) rfl)) ?_
                refine WP.callV (as := [vI ((r + 1 : Nat) : Int), vI ((us (upN x r g) (r + 1) : Nat) : Int)]) dX1_place_104 mv_X1_48 rfl rfl (by decide) rfl rfl (ih (upN x r g) M3 hT3 hL3 hfe2) rfl (Nat.le_of_ble_eq_true rfl) (by omega) (fun r9 M4 h9 => ?_)
                obtain ⟨hF4a, hor⟩ := h9
                have hF4 : (∀ a, a ≠ 53 → a ≠ 98 → (a < 56 ∨ 98 ≤ a) → M4 a = M a) := fun a i1 i2 i3 => (hF4a a i1 i2 i3).trans (hF3 a i1 i2 i3)
                rcases hor with ⟨rfl, hnone, hL4⟩ | ⟨rfl, y, hy1, hy2, hy3⟩
                · skip
                  show WP sc0 (d + 1) m_X1_place 107 [vR 52, vI ((r : Nat) : Int), vI ((us x r : Nat) : Int), vI ((lo ce k x r : Nat) : Int), vI ((Nat.min (us x r) (lv - 1) : Nat) : Int), vI ((g : Nat) : Int)] [vI (0 : Int)] M4 (PQ M t n k lv sz ce x r)
                  refine WP.if_eq (tgt := 112) dX1_place_107 (by decide) (by omega) (fun h107 => ?_) (fun h107 => ?_)
                  · skip
                    have hT4 : TX M4 t n k sz ce := hT.fr (hF4 t (by omega) (by omega) (by omega)) (hF4 (t + 1) (by omega) (by omega) (by omega)) (hF4 (t + 2) (by omega) (by omega) (by omega))
                    refine WP.aload_n dX1_place_112 rfl ?_
                    refine WP.iload_n dX1_place_113 rfl ?_
                    refine WP.iload dX1_place_114 rfl ?_
                    refine WP.iconst dX1_place_116 ?_
                    refine WP.callV (as := [vI ((r : Nat) : Int), vI ((g : Nat) : Int), vI (1 : Int)]) dX1_place_117 mv_X1_77 rfl (rfl) (by decide) rfl rfl (c_E_use (s := 1) ht hT4 hW hL4.1 hr (g := g) (by omega)) rfl (Nat.le_of_ble_eq_true rfl) (by omega) (fun r9 M5 h9 => ?_)
                    obtain ⟨rfl, hU5⟩ := h9
                    have hL5 := LS_dn hW hr hL4 hU5
                    have hF5 : (∀ a, a ≠ 53 → a ≠ 98 → (a < 56 ∨ 98 ≤ a) → M5 a = M a) := fun a i1 i2 i3 => by
                      funext j
                      have hce6 := fun b (hb : b < k) => hW.2.2.2 r hr b hb
                      rw [hU5, cif_f (p := usQ ce k r g a j) (fun z => z.elim (fun q => i2 q.1) (fun ⟨b, hb, q, _⟩ => by have := hce6 b hb; have := hW.2.2.1 b hb; omega)), hF4 a i1 i2 i3]; omega
                    show WP sc0 (d + 1) m_X1_place 120 [vR 52, vI ((r : Nat) : Int), vI ((us x r : Nat) : Int), vI ((lo ce k x r : Nat) : Int), vI ((Nat.min (us x r) (lv - 1) : Nat) : Int), vI ((g : Nat) : Int)] [] M5 (PQ M t n k lv sz ce x r)
                    refine WP.iinc (lt := [vR 52, vI ((r : Nat) : Int), vI ((us x r : Nat) : Int), vI ((lo ce k x r : Nat) : Int), vI ((Nat.min (us x r) (lv - 1) : Nat) : Int), vI (((g : Nat) : Int) + 1)]) dX1_place_120 rfl (by decide) rfl ?_
                    refine WP.goto (tgt := 59) dX1_place_123 (by decide) ?_
                    refine WP.fgt (lt := [vR 52, vI ((r : Nat) : Int), vI ((us x r : Nat) : Int), vI ((lo ce k x r : Nat) : Int), vI ((Nat.min (us x r) (lv - 1) : Nat) : Int), vI (((g + 1) : Nat) : Int)]) ⟨Or.inr rfl, Or.inr rfl, Or.inr rfl, Or.inr rfl, Or.inr rfl, Or.inr (congrArg vI (by omega)), trivial⟩ ?_
                    exact ih59 (g + 1) (M5) (by omega) (by omega) (hF5) (hL5) (fun y hy => by
                      have h1 := hno y hy
                      by_cases e : y r = g
                      · exfalso
                        exact hnone y ((CY_up hr).mpr ⟨e, hy.1, hy.2.1, fun q h1 h2 => hy.2.2 q (by omega) h2⟩)
                      · omega) (by omega)
                  · skip
                    exfalso
                    omega
                · skip
                  show WP sc0 (d + 1) m_X1_place 107 [vR 52, vI ((r : Nat) : Int), vI ((us x r : Nat) : Int), vI ((lo ce k x r : Nat) : Int), vI ((Nat.min (us x r) (lv - 1) : Nat) : Int), vI ((g : Nat) : Int)] [vI (1 : Int)] M4 (PQ M t n k lv sz ce x r)
                  refine WP.if_eq (tgt := 112) dX1_place_107 (by decide) (by omega) (fun h107 => ?_) (fun h107 => ?_)
                  · skip
                    exfalso
                    omega
                  · skip
                    refine WP.iconst dX1_place_110 ?_
                    refine WP.zret dX1_place_111 rfl (by decide) ?_
                    obtain ⟨i1, i2, i3, i4⟩ := (CY_up hr).mp hy1
                    refine ⟨hF4, Or.inr ⟨rfl, y, ⟨i2, i3, fun q h1 h2 => ?_⟩, fun y' hy' hlt => ?_, hy3⟩⟩
                    · by_cases e : q = r
                      · rw [e]
                        refine ⟨by rw [lo_cg i2, i1]; exact hg, by rw [i1, us_cg i2]; exact hglv.2⟩
                      · exact i4 q (by omega) h2
                    · have h1 := hno y' hy'
                      by_cases e : y' r = g
                      · exact hy2 y' ((CY_up hr).mpr ⟨e, hy'.1, hy'.2.1, fun q h2 h3 => hy'.2.2 q (by omega) h3⟩) hlt
                      · obtain ⟨q, q1, q2, q3⟩ := hlt
                        rcases Nat.lt_trichotomy q r with h | h | h
                        · have := hy'.1 q h
                          have := i2 q h
                          omega
                        · subst h; omega
                        · have := q3 r h
                          omega
        refine WP.fgt (lt := [vR 52, vI ((r : Nat) : Int), vI ((us x r : Nat) : Int), vI ((lo ce k x r : Nat) : Int), vI ((Nat.min (us x r) (lv - 1) : Nat) : Int), vI (((lo ce k x r) : Nat) : Int)]) ⟨Or.inr rfl, Or.inr rfl, Or.inr rfl, Or.inr rfl, Or.inr rfl, Or.inr (congrArg vI (by omega)), trivial⟩ ?_
        exact L59 _ (lo ce k x r) (M) (Nat.le_refl _) (hlv1) (fun _ _ _ _ => rfl) (hL) (fun y hy => by have := (hy.2.2 r (Nat.le_refl _) hr).1; rw [lo_cg hy.1] at this; exact this) (Nat.lt_succ_self _)
    · skip
      exfalso
      omega
set_option maxHeartbeats 4000000 in
set_option maxRecDepth 20000 in
theorem c_E_place_e {M : Mem} {t n k : Nat} {sz : Nat → Nat} {ce : Nat → Nat → Nat} {lv : Nat} {x : Nat → Nat} (ht : isT t) (hT : TX M t n k sz ce) (hW : Wf n k sz ce) (hL : LSt M t n k lv sz ce x n) (hlv : 2 ≤ lv ∧ lv ≤ 6) (hn : n ≤ 16) (hcb : canB n k sz ce lv) (hfe : feas n k sz ce lv x n) : CT 3 m_X1_place [vR 52, vI ((n : Nat) : Int), vI ((us x n : Nat) : Int)] M (PQ M t n k lv sz ce x n) := by
  have b1 := hW.1
  have b2 := hW.2.1
  have ht2 := ht.2
  have hm1 := hL.1
  have hm2 := hL.2.1
  refine CT.ofWP (by decide +kernel) (Nat.le_of_ble_eq_true rfl) ?_
  show WP sc0 3 m_X1_place 0 [vR 52, vI ((n : Nat) : Int), vI ((us x n : Nat) : Int), vU, vU, vU] [] M (PQ M t n k lv sz ce x n)
  refine WP.iload_n dX1_place_0 rfl ?_
  refine WP.aload_n dX1_place_1 rfl ?_
  refine WP.getM (y := t) dX1_place_2 fl_X1_18 (rfl) (by decide) (hm1) rfl ?_
  refine WP.getI (x := ((n : Nat) : Int)) dX1_place_5 fl_X1_41 (shT0 ht) (by decide) (hT.1) ?_
  refine WP.icmp_ge (tgt := 17) dX1_place_8 (by decide) (by omega) (by omega) (fun h8 => ?_) (fun h8 => ?_)
  · skip
    refine WP.iconst dX1_place_17 ?_
    refine WP.zret dX1_place_18 rfl (by decide) ?_
    exact ⟨fun _ _ _ _ => rfl, Or.inr ⟨rfl, x, ⟨fun _ _ => rfl, feas_ext hW (by omega) hcb hfe, fun q h1 h2 => by omega⟩, fun y hy hlt => by
      obtain ⟨q, q1, q2, _⟩ := hlt
      have := hy.1 q q1
      omega, hL.2.2.2.1⟩⟩
  · skip
    exfalso
    omega
theorem c_E_place {t n k lv : Nat} {sz : Nat → Nat} {ce : Nat → Nat → Nat} (ht : isT t) (hW : Wf n k sz ce) (hlv : 2 ≤ lv ∧ lv ≤ 6) (hn : n ≤ 16) (hcb : canB n k sz ce lv) : ∀ (j r : Nat) (x : Nat → Nat) (M : Mem), r + j = n → TX M t n k sz ce → LSt M t n k lv sz ce x r → feas n k sz ce lv x r → CT (3 + j) m_X1_place [vR 52, vI ((r : Nat) : Int), vI ((us x r : Nat) : Int)] M (PQ M t n k lv sz ce x r)
  | 0, r, x, M, hj, hT, hL, hfe => by
    have e : r = n := by omega
    subst e
    exact c_E_place_e ht hT hW hL hlv hn hcb hfe
  | j + 1, r, x, M, hj, hT, hL, hfe => c_E_place_s (d := 3 + j) ht hT hW hL hlv (by omega) hn hfe (fun x M hT hL hfe => c_E_place ht hW hlv hn hcb j (r + 1) x M (by omega) hT hL hfe) (by omega)
set_option maxHeartbeats 4000000 in
set_option maxRecDepth 20000 in
theorem c_E_find {M : Mem} {t n k : Nat} {sz : Nat → Nat} {ce : Nat → Nat → Nat} {lv : Nat} (ht : isT t) (hT : TX M t n k sz ce) (hW : Wf n k sz ce) (hlv : 2 ≤ lv ∧ lv ≤ 6) (hn : n ≤ 16) : CT 20 m_X1_find [vR 52, vR t, vI ((lv : Nat) : Int)] M (fun z M' => z = some (vI (bi (∃ x, ext n k sz ce lv x))) ∧ (∀ a, a ≠ 52 → a ≠ 53 → a ≠ 54 → a ≠ 98 → (a < 56 ∨ 98 ≤ a) → M' a = M a) ∧ ((∃ x, ext n k sz ce lv x) → ∃ x, lext n k sz ce lv x ∧ ∀ q, q < n → M' 53 q = (x q : Int))) := by
  have b1 := hW.1
  have b2 := hW.2.1
  have ht2 := ht.2
  refine CT.ofWP (by decide +kernel) (Nat.le_of_ble_eq_true rfl) ?_
  show WP sc0 20 m_X1_find 0 [vR 52, vR t, vI ((lv : Nat) : Int), vU] [] M (fun z M' => z = some (vI (bi (∃ x, ext n k sz ce lv x))) ∧ (∀ a, a ≠ 52 → a ≠ 53 → a ≠ 54 → a ≠ 98 → (a < 56 ∨ 98 ≤ a) → M' a = M a) ∧ ((∃ x, ext n k sz ce lv x) → ∃ x, lext n k sz ce lv x ∧ ∀ q, q < n → M' 53 q = (x q : Int)))
  refine WP.aload_n dX1_find_0 rfl ?_
  refine WP.aload_n dX1_find_1 rfl ?_
  refine WP.putM dX1_find_2 fl_X1_18 (rfl) (by decide) rfl rfl ?_
  obtain ⟨M1, hM1⟩ : ∃ z, z = mset M 52 1 ((t : Nat) : Int) := ⟨_, rfl⟩
  refine WP.eqM hM1.symm ?_
  refine WP.aload_n dX1_find_5 rfl ?_
  refine WP.iload_n dX1_find_6 rfl ?_
  refine WP.putI dX1_find_7 fl_X1_22 (rfl) (by decide) rfl ?_
  obtain ⟨M2, hM2⟩ : ∃ z, z = mset M1 52 2 ((lv : Nat) : Int) := ⟨_, rfl⟩
  refine WP.eqM hM2.symm ?_
  have hO2 : ∀ a, a ≠ 52 → M2 a = M a := fun a ha => by rw [hM2, mset_o a ha, hM1, mset_o a ha]
  have hm12 : M2 52 1 = (t : Int) := by rw [hM2, mset_n (Or.inr (by decide)), hM1, mset_s]
  have hm22 : M2 52 2 = (lv : Int) := by rw [hM2, mset_s]
  have hT2 : TX M2 t n k sz ce := hT.fr (hO2 t (by omega)) (hO2 (t + 1) (by omega)) (hO2 (t + 2) (by omega))
  refine WP.aload_n dX1_find_10 rfl ?_
  refine WP.callV (as := []) dX1_find_11 mv_X1_37 rfl (rfl) (by decide) rfl rfl (c_E_canBalance ht hT2 hW hm12 hm22 hlv) rfl (Nat.le_of_ble_eq_true rfl) (by omega) (fun r9 M3 h9 => ?_)
  obtain ⟨rfl, f1, f2⟩ := h9
  show WP sc0 20 m_X1_find 14 [vR 52, vR t, vI ((lv : Nat) : Int), vU] [vI (bi (canB n k sz ce lv))] M3 (fun z M' => z = some (vI (bi (∃ x, ext n k sz ce lv x))) ∧ (∀ a, a ≠ 52 → a ≠ 53 → a ≠ 54 → a ≠ 98 → (a < 56 ∨ 98 ≤ a) → M' a = M a) ∧ ((∃ x, ext n k sz ce lv x) → ∃ x, lext n k sz ce lv x ∧ ∀ q, q < n → M' 53 q = (x q : Int)))
  refine WP.if_ne (tgt := 19) dX1_find_14 (by decide) (bi_rng) (fun h14 => ?_) (fun h14 => ?_)
  · skip
    have hcb := bi_1 h14
    obtain ⟨f3, f4⟩ := f2 hcb
    refine WP.iconst dX1_find_19 ?_
    refine WP.istore_n (lt := [vR 52, vR t, vI ((lv : Nat) : Int), vI (0 : Int)]) dX1_find_20 (by decide) rfl ?_
    have L21 : ∀ (n9 : Nat) (r : Nat) (M4 : Mem) (hr : r ≤ n) (hF : ∀ a, a ≠ 54 → M4 a = M3 a) (hE : ∀ q, q < r → M4 54 q = ((eb ce k q : Nat) : Int) - 1), n - r < n9 → WP sc0 20 m_X1_find 21 [vR 52, vU, vU, vI ((r : Nat) : Int)] [] M4 (fun z M' => z = some (vI (bi (∃ x, ext n k sz ce lv x))) ∧ (∀ a, a ≠ 52 → a ≠ 53 → a ≠ 54 → a ≠ 98 → (a < 56 ∨ 98 ≤ a) → M' a = M a) ∧ ((∃ x, ext n k sz ce lv x) → ∃ x, lext n k sz ce lv x ∧ ∀ q, q < n → M' 53 q = (x q : Int))) := by
      intro n9
      induction n9 with
      | zero =>
        intro r M4 hr hF hE hm9
        exact absurd hm9 (Nat.not_lt_zero _)
      | succ n9 ih21 =>
        intro r M4 hr hF hE hm9
        have hm14 : M4 52 1 = (t : Int) := by rw [hF 52 (by decide), f1 52 (by decide) (by decide)]; exact hm12
        have hT4 : TX M4 t n k sz ce := hT2.fr (by rw [hF t (by omega), f1 t (by omega) (by omega)]) (by rw [hF (t + 1) (by omega), f1 (t + 1) (by omega) (by omega)]) (by rw [hF (t + 2) (by omega), f1 (t + 2) (by omega) (by omega)])
        refine WP.iload_n dX1_find_21 rfl ?_
        refine WP.aload_n dX1_find_22 rfl ?_
        refine WP.getM (y := t) dX1_find_23 fl_X1_18 (rfl) (by decide) (hm14) rfl ?_
        refine WP.getI (x := ((n : Nat) : Int)) dX1_find_26 fl_X1_41 (shT0 ht) (by decide) (hT4.1) ?_
        refine WP.icmp_ge (tgt := 49) dX1_find_29 (by decide) (by omega) (by omega) (fun h29 => ?_) (fun h29 => ?_)
        · skip
          have hL4 : LSt M4 t n k lv sz ce (fun _ => 0) 0 := ⟨hm14, by rw [hF 52 (by decide), f1 52 (by decide) (by decide)]; exact hm22, fun q hq => hE q (by omega), fun q hq => absurd hq (Nat.not_lt_zero q), fun a ha => by rw [hF 98 (by decide), f3 a ha]; show _ = _ - (0 : Int); omega, fun c hc v hv a ha => by rw [hF _ (by omega), f4 c hc v hv a ha]; show _ = _ - (0 : Int); omega⟩
          have hfe : feas n k sz ce lv (fun _ => 0) 0 := ⟨fun q hq => absurd hq (Nat.not_lt_zero q), fun _ _ => Nat.zero_le _, fun _ _ _ _ _ _ => Nat.zero_le _⟩
          have hiff : (∃ y, CY n k lv sz ce (fun _ => 0) 0 y) ↔ ∃ x, ext n k sz ce lv x := ⟨fun ⟨y, hy⟩ => ⟨y, hy.2.1⟩, fun hx => by
            obtain ⟨x, hx⟩ := lext_ex hlv.2 hx
            exact ⟨x, fun q hq => absurd hq (Nat.not_lt_zero q), hx.1, fun q _ hq => lext_rul hx hq⟩⟩
          refine WP.aload_n dX1_find_49 rfl ?_
          refine WP.iconst dX1_find_50 ?_
          refine WP.iconst dX1_find_51 ?_
          refine WP.eqs (st' := [vI ((us (fun _ => 0) 0 : Nat) : Int), vI ((0 : Nat) : Int), vR 52]) rfl rfl ?_
          refine WP.callV (as := [vI ((0 : Nat) : Int), vI ((us (fun _ => 0) 0 : Nat) : Int)]) dX1_find_52 mv_X1_48 rfl rfl (by decide) rfl rfl (c_E_place ht hW hlv hn hcb n 0 (fun _ => 0) M4 (Nat.zero_add n) hT4 hL4 hfe) rfl (Nat.le_of_ble_eq_true rfl) (by omega) (fun r9 M6 h9 => ?_)
          obtain ⟨hF6, hor⟩ := h9
          have hF7 : ∀ a, a ≠ 52 → a ≠ 53 → a ≠ 54 → a ≠ 98 → (a < 56 ∨ 98 ≤ a) → M6 a = M a := fun a i1 i2 i3 i4 i5 => by rw [hF6 a i2 i4 i5, hF a i3, f1 a i4 i5, hO2 a i1]
          rcases hor with ⟨rfl, hnone, hL6⟩ | ⟨rfl, y, hy1, hy2, hy3⟩
          · have hne : ¬ ∃ x, ext n k sz ce lv x := fun z => by
              obtain ⟨y, hy⟩ := hiff.mpr z
              exact hnone y hy
            refine WP.zret dX1_find_55 rfl (by decide) ?_
            exact ⟨congrArg some (congrArg vI (bi_f hne).symm), fun a i1 i2 i3 i4 i5 => hF7 a i1 i2 i3 i4 i5, fun z => absurd z hne⟩
          · refine WP.zret dX1_find_55 rfl (by decide) ?_
            refine ⟨congrArg some (congrArg vI (bi_t ⟨y, hy1.2.1⟩).symm), fun a i1 i2 i3 i4 i5 => hF7 a i1 i2 i3 i4 i5, fun _ => ⟨y, ?_, hy3⟩⟩
            obtain ⟨x, hx⟩ := lext_ex hlv.2 ⟨y, hy1.2.1⟩
            have hxc : CY n k lv sz ce (fun _ => 0) 0 x := ⟨fun q hq => absurd hq (Nat.not_lt_zero q), hx.1, fun q _ hq => lext_rul hx hq⟩
            refine ⟨hy1.2.1, fun w hw hlt => ?_⟩
            rcases lx_tri x y n with h | h | h
            · exact hy2 x hxc h
            · exact hx.2 y hy1.2.1 h
            · refine hx.2 w hw ?_
              obtain ⟨q, q1, q2, q3⟩ := hlt
              exact ⟨q, q1, by rw [h q q1]; exact q2, fun p hp => by rw [h p (by omega)]; exact q3 p hp⟩
        · skip
          refine WP.aload_n dX1_find_32 rfl ?_
          refine WP.getR (y := 54) dX1_find_33 fl_X1_26 (rfl) (by decide) (rfl) ?_
          refine WP.iload_n dX1_find_36 rfl ?_
          refine WP.aload_n dX1_find_37 rfl ?_
          refine WP.iload_n dX1_find_38 rfl ?_
          refine WP.callVp (as := [vI ((r : Nat) : Int)]) dX1_find_39 mv_X1_44 rfl (rfl) (by decide) rfl rfl (c_E_lastEqual ht hT4 hW hm14 (by omega)) rfl (Nat.le_of_ble_eq_true rfl) (by omega) ?_
          refine WP.iastore (y := r) dX1_find_42 (rfl) (by omega) (by omega) rfl ?_
          obtain ⟨M5, hM5⟩ : ∃ z, z = mset M4 54 r (((eb ce k r : Nat) : Int) - 1) := ⟨_, rfl⟩
          refine WP.eqM hM5.symm ?_
          refine WP.iinc (lt := [vR 52, vU, vU, vI (((r : Nat) : Int) + 1)]) dX1_find_43 rfl (by decide) rfl ?_
          refine WP.goto (tgt := 21) dX1_find_46 (by decide) ?_
          refine WP.fgt (lt := [vR 52, vU, vU, vI (((r + 1) : Nat) : Int)]) ⟨Or.inr rfl, Or.inl rfl, Or.inl rfl, Or.inr (congrArg vI (by omega)), trivial⟩ ?_
          exact ih21 (r + 1) (M5) (by omega) (fun a ha => by rw [hM5, mset_o a ha]; exact hF a ha) (fun q hq => by
            rw [hM5]
            by_cases e : q = r
            · rw [e]; exact mset_s
            · rw [mset_n (Or.inr e)]; exact hE q (by omega)) (by omega)
    refine WP.fgt (lt := [vR 52, vU, vU, vI ((0 : Nat) : Int)]) ⟨Or.inr rfl, Or.inl rfl, Or.inl rfl, Or.inr (congrArg vI (by omega)), trivial⟩ ?_
    exact L21 _ (0) (M3) (Nat.zero_le _) (fun _ _ => rfl) (fun q h => absurd h (Nat.not_lt_zero q)) (Nat.lt_succ_self _)
  · skip
    refine WP.iconst dX1_find_17 ?_
    refine WP.zret dX1_find_18 rfl (by decide) ?_
    have hne : ¬ ∃ x, ext n k sz ce lv x := fun ⟨x, hx⟩ => bi_0 h14 (ext_canB hW (by omega) hx)
    exact ⟨congrArg some (congrArg vI (bi_f hne).symm), fun a i1 i2 i3 i4 i5 => by rw [f1 a i4 i5, hO2 a i1], fun z => absurd z hne⟩
