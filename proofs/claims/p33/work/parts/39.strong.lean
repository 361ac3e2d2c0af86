theorem z_strength {M M1 : Mem} {S : ST} (hA : AT M S M1) {st : Nat} (e : st = stF (fun b => okT S.1.1 S.1.2.1 S.1.2.2.1 S.1.2.2.2 b aT) S.1.2.1) : CT 40 m_X7_told [vR 42, vI 2] M1 (fun z M2 => z = some (vI ((st : Nat) : Int)) ∧ AT M S M2) := by
  subst e
  exact z_told2 hA
theorem z_auditB {M M1 : Mem} {S : ST} (hA : AT M S M1) : CT 40 m_X7_audit [vR 42, vI ((S.1.2.1 : Int) + 1), vI 0] M1 (fun z9 M2 => z9 = some (vI (-1)) ∧ AT M S M2) := by
  have := hA.wf.2.1
  exact CT.mono (fun z9 M2 hh => ⟨hh.1.trans (congrArg (fun v => some (vI v)) (cif_f (fun z => by have := z.1.2; omega))), hh.2⟩) (z_audit (x := (S.1.2.1 : Int) + 1) (y := 0) hA (by omega) ⟨by decide, by decide⟩)
theorem z_countB {M M1 : Mem} {S : ST} (hA : AT M S M1) : CT 40 m_X7_count [vR 42, vI ((2 ^ S.1.2.1 : Nat) : Int), vI 0] M1 (fun z9 M2 => z9 = some (vI (-1)) ∧ AT M S M2) := by
  have := pw7 hA.wf.2.1
  exact CT.mono (fun z9 M2 hh => ⟨hh.1.trans (congrArg (fun v => some (vI v)) (cif_f (fun z => by have := z.1.2; omega))), hh.2⟩) (z_count (x := ((2 ^ S.1.2.1 : Nat) : Int)) (y := 0) hA ⟨Int.le_trans (by decide) (Int.natCast_nonneg _), Int.ofNat_lt.mpr (show 2 ^ S.1.2.1 < 2147483648 by omega)⟩ ⟨by decide, by decide⟩)
theorem z_pairs_v {M M1 : Mem} {S : ST} (hA : AT M S M1) {j : Nat} (hj : j < 8) : CT 40 m_X7_pairs [vR 42, vI ((j : Nat) : Int)] M1 (fun z9 M2 => z9 = some (vI ((prs S.1.1 S.1.2.1 S.1.2.2.2 j : Nat) : Int)) ∧ AT M S M2) :=
  CT.mono (fun z9 M2 hh => ⟨hh.1.trans (congrArg (fun v => some (vI v)) (cif_t ⟨by omega, by omega⟩)), hh.2⟩) (z_pairs (x := (j : Int)) hA (by omega))
theorem nn_r {n : Nat} (h : n ≤ 36) : 0 ≤ (n : Int) * ((n : Int) - 1) ∧ (n : Int) * ((n : Int) - 1) < 2147483648 := by
  rcases Nat.eq_zero_or_pos n with e | e
  · subst e; decide
  · have h1 : (0 : Int) ≤ (n : Int) - 1 := by omega
    have h2 : (n : Int) * ((n : Int) - 1) ≤ 36 * 35 := Int.mul_le_mul (by omega) (by omega) h1 (by decide)
    have h3 := Int.mul_nonneg (show (0 : Int) ≤ (n : Int) by omega) h1
    omega
theorem prs_int {n k : Nat} {ce : Nat → Nat → Nat} (hk : k ≤ 7) : ((sm (prs n k ce) 8 : Nat) : Int) = (n : Int) * ((n : Int) - 1) / 2 := by
  have h := prs_all (n := n) (ce := ce) hk
  have e : (n : Int) * ((n : Int) - 1) = ((n * (n - 1) : Nat) : Int) := by
    rcases n with _ | m
    · rfl
    · rw [Nat.add_sub_cancel, Int.natCast_mul]
      congr 1
      omega
  rw [e, ← h]
  omega
theorem lcO_r {n k : Nat} {sz : Nat → Nat} {ce : Nat → Nat → Nat} (hW : Wf n k sz ce) : 0 < lcO sz k ∧ lcO sz k ≤ 3600 := by
  obtain ⟨h1, h2⟩ := lcO_dv hW.2.2.1 k (Nat.le_refl _)
  exact ⟨h2, Nat.le_of_dvd (by decide) h1⟩
theorem lrs_r {sz : Nat → Nat} : ∀ {k : Nat}, (∀ c, c < k → sz c ≤ 6) → lrs sz k ≤ 1 + 6 * k
  | 0, _ => Nat.le_refl _
  | k + 1, h => by
    have ih := lrs_r (sz := sz) (k := k) (fun c hc => h c (by omega))
    have := h k (by omega)
    rw [lrs]
    omega
set_option maxHeartbeats 4000000 in
set_option maxRecDepth 20000 in
theorem c_L_isStrong {M : Mem} {n k h len : Nat} {sz tx : Nat → Nat} {ce : Nat → Nat → Nat} {hs : Nat → AR} {im : Nat → Option AR} (hX : InvX M (mkS n k sz ce h hs im len tx)) : CT 41 m_L_isStrong [vR 42] M (PX M ((1 : Int), (mkS n k sz ce h hs im len tx))) := by
  have hA0 := AT.start hX
  have hW : Wf n k sz ce := hX.1.2
  have b1 := hW.1
  have b2 := hW.2.1
  have hp128 := pw7 b2
  obtain ⟨st, hst⟩ : ∃ st, st = stF (fun b => okT n k sz ce b aT) k := ⟨_, rfl⟩
  have hs1 : st ≤ k := by rw [hst]; exact stF_le _ _
  have hok : okT n k sz ce st aT := (str_ge hW hs1).mp (by omega)
  have hnx : st < k → ¬ okT n k sz ce (st + 1) aT := fun q z => by have := (str_ge hW (t := st + 1) (by omega)).mpr z; omega
  have ub0 : cn (ubs n k sz ce st) (2 ^ k) = 0 := ub_0.mpr hok
  have hlc := lcO_r hW
  have hlr := lrs_r (sz := sz) (k := k) (fun c hc => (hW.2.2.1 c hc).2)
  refine CT.ofWP (by decide +kernel) (Nat.le_of_ble_eq_true rfl) ?_
  show WP sc0 41 m_L_isStrong 0 [vR 42, vU, vU, vU] [] M (PX M ((1 : Int), (mkS n k sz ce h hs im len tx)))
  refine WP.aload_n dL_isStrong_0 rfl ?_
  refine WP.iconst dL_isStrong_1 ?_
  refine WP.callV (as := [vI (2 : Int)]) dL_isStrong_2 mv_L_9 rfl (rfl) (by decide) rfl rfl (z_strength hA0 hst) rfl (Nat.le_of_ble_eq_true rfl) (by omega) (fun r9 M1 h9 => ?_)
  obtain ⟨rfl, hA1⟩ := h9
  show WP sc0 41 m_L_isStrong 5 [vR 42, vU, vU, vU] [vI ((st : Nat) : Int)] M1 (PX M ((1 : Int), (mkS n k sz ce h hs im len tx)))
  refine WP.istore_n (lt := [vR 42, vI ((st : Nat) : Int), vU, vU]) dL_isStrong_5 (by decide) rfl ?_
  refine WP.aload_n dL_isStrong_6 rfl ?_
  refine WP.iconst dL_isStrong_7 ?_
  refine WP.callV (as := [vI (1 : Int)]) dL_isStrong_8 mv_L_9 rfl (rfl) (by decide) rfl rfl (z_told1 hA1) rfl (Nat.le_of_ble_eq_true rfl) (by omega) (fun r9 M2 h9 => ?_)
  obtain ⟨rfl, hA2⟩ := h9
  show WP sc0 41 m_L_isStrong 11 [vR 42, vI ((st : Nat) : Int), vU, vU] [vI ((k : Nat) : Int)] M2 (PX M ((1 : Int), (mkS n k sz ce h hs im len tx)))
  refine WP.istore_n (lt := [vR 42, vI ((st : Nat) : Int), vI ((k : Nat) : Int), vU]) dL_isStrong_11 (by decide) rfl ?_
  refine WP.iload_n dL_isStrong_12 rfl ?_
  refine WP.if_lt (tgt := 50) dL_isStrong_13 (by decide) (by omega) (fun h13 => ?_) (fun h13 => ?_)
  · skip
    exfalso
    omega
  · skip
    refine WP.iload_n dL_isStrong_16 rfl ?_
    refine WP.iload_n dL_isStrong_17 rfl ?_
    refine WP.icmp_gt (tgt := 50) dL_isStrong_18 (by decide) (by omega) (by omega) (fun h18 => ?_) (fun h18 => ?_)
    · skip
      exfalso
      omega
    · skip
      refine WP.aload_n dL_isStrong_21 rfl ?_
      refine WP.iload_n dL_isStrong_22 rfl ?_
      refine WP.iconst dL_isStrong_23 ?_
      refine WP.callV (as := [vI ((st : Nat) : Int), vI (0 : Int)]) dL_isStrong_24 mv_L_75 rfl (rfl) (by decide) rfl rfl (z_audit0 (t := st) hA2 hs1) rfl (Nat.le_of_ble_eq_true rfl) (by omega) (fun r9 M3 h9 => ?_)
      obtain ⟨rfl, hA3⟩ := h9
      have hL : AT M (mkS n k sz ce h hs im len tx) M3 := hA3
      show WP sc0 41 m_L_isStrong 27 [vR 42, vI ((st : Nat) : Int), vI ((k : Nat) : Int), vU] [vI ((cn (ubs n k sz ce st) (2 ^ k) : Nat) : Int)] M3 (PX M ((1 : Int), (mkS n k sz ce h hs im len tx)))
      refine WP.if_ne (tgt := 50) dL_isStrong_27 (by decide) (by omega) (fun h27 => ?_) (fun h27 => ?_)
      · skip
        exfalso
        omega
      · skip
        refine WP.iload_n dL_isStrong_30 rfl ?_
        refine WP.iload_n dL_isStrong_31 rfl ?_
        refine WP.icmp_eq (tgt := 46) dL_isStrong_32 (by decide) (by omega) (by omega) (fun h32 => ?_) (fun h32 => ?_)
        · skip
          refine WP.iconst dL_isStrong_46 ?_
          refine WP.goto (tgt := 51) dL_isStrong_47 (by decide) ?_
          refine WP.istore_n (lt := [vR 42, vI ((st : Nat) : Int), vI ((k : Nat) : Int), vI (1 : Int)]) dL_isStrong_51 (by decide) rfl ?_
          refine WP.iload_n dL_isStrong_52 rfl ?_
          refine WP.iconst dL_isStrong_53 ?_
          refine WP.icmp_lt (tgt := 103) dL_isStrong_54 (by decide) (by omega) (by omega) (fun h54 => ?_) (fun h54 => ?_)
          · skip
            refine WP.iload_n dL_isStrong_103 rfl ?_
            refine WP.if_eq (tgt := 135) dL_isStrong_104 (by decide) (by omega) (fun h104 => ?_) (fun h104 => ?_)
            · skip
              exfalso
              omega
            · skip
              refine WP.aload_n dL_isStrong_107 rfl ?_
              refine WP.iload_n dL_isStrong_108 rfl ?_
              refine WP.iconst dL_isStrong_109 ?_
              refine WP.iadd dL_isStrong_110 ?_
              refine WP.iconst dL_isStrong_111 ?_
              refine WP.callV (as := [vI (((k : Nat) : Int) + (1 : Int)), vI (0 : Int)]) dL_isStrong_112 mv_L_75 rfl (rfl) (by decide) rfl rfl (z_auditB hL) rfl (Nat.le_of_ble_eq_true rfl) (by omega) (fun r9 N6 h9 => ?_)
              obtain ⟨rfl, hB6⟩ := h9
              have hL := hB6
              show WP sc0 41 m_L_isStrong 115 [vR 42, vI ((st : Nat) : Int), vI ((k : Nat) : Int), vI (1 : Int)] [vI (-1 : Int)] N6 (PX M ((1 : Int), (mkS n k sz ce h hs im len tx)))
              refine WP.iconst dL_isStrong_115 ?_
              refine WP.icmp_ne (tgt := 135) dL_isStrong_116 (by decide) (by omega) (by omega) (fun h116 => ?_) (fun h116 => ?_)
              · skip
                exfalso
                omega
              · skip
                refine WP.aload_n dL_isStrong_119 rfl ?_
                refine WP.iconst dL_isStrong_120 ?_
                refine WP.iload_n dL_isStrong_121 rfl ?_
                refine WP.ishl (z := ((2 ^ k : Nat) : Int)) dL_isStrong_122 (shl_ok k (by omega)) ?_
                refine WP.iconst dL_isStrong_123 ?_
                refine WP.callV (as := [vI ((2 ^ k : Nat) : Int), vI (0 : Int)]) dL_isStrong_124 mv_L_72 rfl (rfl) (by decide) rfl rfl (z_countB hL) rfl (Nat.le_of_ble_eq_true rfl) (by omega) (fun r9 N7 h9 => ?_)
                obtain ⟨rfl, hB7⟩ := h9
                have hL := hB7
                show WP sc0 41 m_L_isStrong 127 [vR 42, vI ((st : Nat) : Int), vI ((k : Nat) : Int), vI (1 : Int)] [vI (-1 : Int)] N7 (PX M ((1 : Int), (mkS n k sz ce h hs im len tx)))
                refine WP.iconst dL_isStrong_127 ?_
                refine WP.icmp_ne (tgt := 135) dL_isStrong_128 (by decide) (by omega) (by omega) (fun h128 => ?_) (fun h128 => ?_)
                · skip
                  exfalso
                  omega
                · skip
                  refine WP.iconst dL_isStrong_131 ?_
                  refine WP.goto (tgt := 136) dL_isStrong_132 (by decide) ?_
                  refine WP.zret dL_isStrong_136 rfl (by decide) ?_
                  exact ⟨rfl, hL⟩
          · skip
            have hok2 : okT n k sz ce 2 aT := (str_ge hW (by omega)).mp (by omega)
            refine WP.aload_n dL_isStrong_57 rfl ?_
            refine WP.iconst dL_isStrong_58 ?_
            refine WP.callV (as := [vI (0 : Int)]) dL_isStrong_59 mv_L_9 rfl (rfl) (by decide) rfl rfl (z_told0 hL) rfl (Nat.le_of_ble_eq_true rfl) (by omega) (fun r9 N1 h9 => ?_)
            obtain ⟨rfl, hB1⟩ := h9
            have hL := hB1
            show WP sc0 41 m_L_isStrong 62 [vR 42, vI ((st : Nat) : Int), vI ((k : Nat) : Int), vI (1 : Int)] [vI ((n : Nat) : Int)] N1 (PX M ((1 : Int), (mkS n k sz ce h hs im len tx)))
            refine WP.if_le (tgt := 103) dL_isStrong_62 (by decide) (by omega) (fun h62 => ?_) (fun h62 => ?_)
            · skip
              refine WP.iload_n dL_isStrong_103 rfl ?_
              refine WP.if_eq (tgt := 135) dL_isStrong_104 (by decide) (by omega) (fun h104 => ?_) (fun h104 => ?_)
              · skip
                exfalso
                omega
              · skip
                refine WP.aload_n dL_isStrong_107 rfl ?_
                refine WP.iload_n dL_isStrong_108 rfl ?_
                refine WP.iconst dL_isStrong_109 ?_
                refine WP.iadd dL_isStrong_110 ?_
                refine WP.iconst dL_isStrong_111 ?_
                refine WP.callV (as := [vI (((k : Nat) : Int) + (1 : Int)), vI (0 : Int)]) dL_isStrong_112 mv_L_75 rfl (rfl) (by decide) rfl rfl (z_auditB hL) rfl (Nat.le_of_ble_eq_true rfl) (by omega) (fun r9 N6 h9 => ?_)
                obtain ⟨rfl, hB6⟩ := h9
                have hL := hB6
                show WP sc0 41 m_L_isStrong 115 [vR 42, vI ((st : Nat) : Int), vI ((k : Nat) : Int), vI (1 : Int)] [vI (-1 : Int)] N6 (PX M ((1 : Int), (mkS n k sz ce h hs im len tx)))
                refine WP.iconst dL_isStrong_115 ?_
                refine WP.icmp_ne (tgt := 135) dL_isStrong_116 (by decide) (by omega) (by omega) (fun h116 => ?_) (fun h116 => ?_)
                · skip
                  exfalso
                  omega
                · skip
                  refine WP.aload_n dL_isStrong_119 rfl ?_
                  refine WP.iconst dL_isStrong_120 ?_
                  refine WP.iload_n dL_isStrong_121 rfl ?_
                  refine WP.ishl (z := ((2 ^ k : Nat) : Int)) dL_isStrong_122 (shl_ok k (by omega)) ?_
                  refine WP.iconst dL_isStrong_123 ?_
                  refine WP.callV (as := [vI ((2 ^ k : Nat) : Int), vI (0 : Int)]) dL_isStrong_124 mv_L_72 rfl (rfl) (by decide) rfl rfl (z_countB hL) rfl (Nat.le_of_ble_eq_true rfl) (by omega) (fun r9 N7 h9 => ?_)
                  obtain ⟨rfl, hB7⟩ := h9
                  have hL := hB7
                  show WP sc0 41 m_L_isStrong 127 [vR 42, vI ((st : Nat) : Int), vI ((k : Nat) : Int), vI (1 : Int)] [vI (-1 : Int)] N7 (PX M ((1 : Int), (mkS n k sz ce h hs im len tx)))
                  refine WP.iconst dL_isStrong_127 ?_
                  refine WP.icmp_ne (tgt := 135) dL_isStrong_128 (by decide) (by omega) (by omega) (fun h128 => ?_) (fun h128 => ?_)
                  · skip
                    exfalso
                    omega
                  · skip
                    refine WP.iconst dL_isStrong_131 ?_
                    refine WP.goto (tgt := 136) dL_isStrong_132 (by decide) ?_
                    refine WP.zret dL_isStrong_136 rfl (by decide) ?_
                    exact ⟨rfl, hL⟩
            · skip
              have hmod : (n : Int) % (lcO sz k : Int) = 0 := by exact_mod_cast Nat.mod_eq_zero_of_dvd (ok2_dvd hW hok2)
              have hrao := rao hW (by omega) (by omega) hok2
              refine WP.iload_n dL_isStrong_65 rfl ?_
              refine WP.if_eq (tgt := 101) dL_isStrong_66 (by decide) (by omega) (fun h66 => ?_) (fun h66 => ?_)
              · skip
                exfalso
                omega
              · skip
                refine WP.aload_n dL_isStrong_69 rfl ?_
                refine WP.iconst dL_isStrong_70 ?_
                refine WP.callV (as := [vI (0 : Int)]) dL_isStrong_71 mv_L_9 rfl (rfl) (by decide) rfl rfl (z_told0 hL) rfl (Nat.le_of_ble_eq_true rfl) (by omega) (fun r9 N2 h9 => ?_)
                obtain ⟨rfl, hB2⟩ := h9
                have hL := hB2
                show WP sc0 41 m_L_isStrong 74 [vR 42, vI ((st : Nat) : Int), vI ((k : Nat) : Int), vI (1 : Int)] [vI ((n : Nat) : Int)] N2 (PX M ((1 : Int), (mkS n k sz ce h hs im len tx)))
                refine WP.aload_n dL_isStrong_74 rfl ?_
                refine WP.bipush dL_isStrong_75 (by decide) ?_
                refine WP.callV (as := [vI (6 : Int)]) dL_isStrong_77 mv_L_9 rfl (rfl) (by decide) rfl rfl (z_told6 hL) rfl (Nat.le_of_ble_eq_true rfl) (by omega) (fun r9 N3 h9 => ?_)
                obtain ⟨rfl, hB3⟩ := h9
                have hL := hB3
                show WP sc0 41 m_L_isStrong 80 [vR 42, vI ((st : Nat) : Int), vI ((k : Nat) : Int), vI (1 : Int)] [vI ((lcO sz k : Nat) : Int), vI ((n : Nat) : Int)] N3 (PX M ((1 : Int), (mkS n k sz ce h hs im len tx)))
                refine WP.irem dL_isStrong_80 (by omega) (by omega) ?_
                refine WP.if_ne (tgt := 101) dL_isStrong_81 (by decide) (by rw [hmod]; decide) (fun h81 => ?_) (fun h81 => ?_)
                · skip
                  exact absurd hmod h81
                · skip
                  refine WP.aload_n dL_isStrong_84 rfl ?_
                  refine WP.iconst dL_isStrong_85 ?_
                  refine WP.callV (as := [vI (0 : Int)]) dL_isStrong_86 mv_L_9 rfl (rfl) (by decide) rfl rfl (z_told0 hL) rfl (Nat.le_of_ble_eq_true rfl) (by omega) (fun r9 N4 h9 => ?_)
                  obtain ⟨rfl, hB4⟩ := h9
                  have hL := hB4
                  show WP sc0 41 m_L_isStrong 89 [vR 42, vI ((st : Nat) : Int), vI ((k : Nat) : Int), vI (1 : Int)] [vI ((n : Nat) : Int)] N4 (PX M ((1 : Int), (mkS n k sz ce h hs im len tx)))
                  refine WP.aload_n dL_isStrong_89 rfl ?_
                  refine WP.iconst dL_isStrong_90 ?_
                  refine WP.callV (as := [vI (5 : Int)]) dL_isStrong_91 mv_L_9 rfl (rfl) (by decide) rfl rfl (z_told5 hL) rfl (Nat.le_of_ble_eq_true rfl) (by omega) (fun r9 N5 h9 => ?_)
                  obtain ⟨rfl, hB5⟩ := h9
                  have hL := hB5
                  show WP sc0 41 m_L_isStrong 94 [vR 42, vI ((st : Nat) : Int), vI ((k : Nat) : Int), vI (1 : Int)] [vI ((lrs sz k : Nat) : Int), vI ((n : Nat) : Int)] N5 (PX M ((1 : Int), (mkS n k sz ce h hs im len tx)))
                  refine WP.icmp_lt (tgt := 101) dL_isStrong_94 (by decide) (by omega) (by omega) (fun h94 => ?_) (fun h94 => ?_)
                  · skip
                    exfalso
                    omega
                  · skip
                    refine WP.iconst dL_isStrong_97 ?_
                    refine WP.goto (tgt := 102) dL_isStrong_98 (by decide) ?_
                    refine WP.istore_n (lt := [vR 42, vI ((st : Nat) : Int), vI ((k : Nat) : Int), vI (1 : Int)]) dL_isStrong_102 (by decide) rfl ?_
                    refine WP.iload_n dL_isStrong_103 rfl ?_
                    refine WP.if_eq (tgt := 135) dL_isStrong_104 (by decide) (by omega) (fun h104 => ?_) (fun h104 => ?_)
                    · skip
                      exfalso
                      omega
                    · skip
                      refine WP.aload_n dL_isStrong_107 rfl ?_
                      refine WP.iload_n dL_isStrong_108 rfl ?_
                      refine WP.iconst dL_isStrong_109 ?_
                      refine WP.iadd dL_isStrong_110 ?_
                      refine WP.iconst dL_isStrong_111 ?_
                      refine WP.callV (as := [vI (((k : Nat) : Int) + (1 : Int)), vI (0 : Int)]) dL_isStrong_112 mv_L_75 rfl (rfl) (by decide) rfl rfl (z_auditB hL) rfl (Nat.le_of_ble_eq_true rfl) (by omega) (fun r9 N6 h9 => ?_)
                      obtain ⟨rfl, hB6⟩ := h9
                      have hL := hB6
                      show WP sc0 41 m_L_isStrong 115 [vR 42, vI ((st : Nat) : Int), vI ((k : Nat) : Int), vI (1 : Int)] [vI (-1 : Int)] N6 (PX M ((1 : Int), (mkS n k sz ce h hs im len tx)))
                      refine WP.iconst dL_isStrong_115 ?_
                      refine WP.icmp_ne (tgt := 135) dL_isStrong_116 (by decide) (by omega) (by omega) (fun h116 => ?_) (fun h116 => ?_)
                      · skip
                        exfalso
                        omega
                      · skip
                        refine WP.aload_n dL_isStrong_119 rfl ?_
                        refine WP.iconst dL_isStrong_120 ?_
                        refine WP.iload_n dL_isStrong_121 rfl ?_
                        refine WP.ishl (z := ((2 ^ k : Nat) : Int)) dL_isStrong_122 (shl_ok k (by omega)) ?_
                        refine WP.iconst dL_isStrong_123 ?_
                        refine WP.callV (as := [vI ((2 ^ k : Nat) : Int), vI (0 : Int)]) dL_isStrong_124 mv_L_72 rfl (rfl) (by decide) rfl rfl (z_countB hL) rfl (Nat.le_of_ble_eq_true rfl) (by omega) (fun r9 N7 h9 => ?_)
                        obtain ⟨rfl, hB7⟩ := h9
                        have hL := hB7
                        show WP sc0 41 m_L_isStrong 127 [vR 42, vI ((st : Nat) : Int), vI ((k : Nat) : Int), vI (1 : Int)] [vI (-1 : Int)] N7 (PX M ((1 : Int), (mkS n k sz ce h hs im len tx)))
                        refine WP.iconst dL_isStrong_127 ?_
                        refine WP.icmp_ne (tgt := 135) dL_isStrong_128 (by decide) (by omega) (by omega) (fun h128 => ?_) (fun h128 => ?_)
                        · skip
                          exfalso
                          omega
                        · skip
                          refine WP.iconst dL_isStrong_131 ?_
                          refine WP.goto (tgt := 136) dL_isStrong_132 (by decide) ?_
                          refine WP.zret dL_isStrong_136 rfl (by decide) ?_
                          exact ⟨rfl, hL⟩
        · skip
          have ub1 : cn (ubs n k sz ce (st + 1)) (2 ^ k) ≠ 0 := fun z => hnx (by omega) (ub_0.mp z)
          have u9 := cn_le (ubs n k sz ce (st + 1)) (2 ^ k)
          refine WP.aload_n dL_isStrong_35 rfl ?_
          refine WP.iload_n dL_isStrong_36 rfl ?_
          refine WP.iconst dL_isStrong_37 ?_
          refine WP.iadd dL_isStrong_38 ?_
          refine WP.iconst dL_isStrong_39 ?_
          refine WP.eqs (st' := [vI (0 : Int), vI (((st + 1) : Nat) : Int), vR 42]) rfl (lc (rfl) (lc (congrArg vI (by omega)) (rfl))) ?_
          refine WP.callV (as := [vI (((st + 1) : Nat) : Int), vI (0 : Int)]) dL_isStrong_40 mv_L_75 rfl (rfl) (by decide) rfl rfl (z_audit0 (t := st + 1) hL (show st + 1 ≤ k by omega)) rfl (Nat.le_of_ble_eq_true rfl) (by omega) (fun r9 M4 h9 => ?_)
          obtain ⟨rfl, hA4⟩ := h9
          have hL := hA4
          show WP sc0 41 m_L_isStrong 43 [vR 42, vI ((st : Nat) : Int), vI ((k : Nat) : Int), vU] [vI ((cn (ubs n k sz ce (st + 1)) (2 ^ k) : Nat) : Int)] M4 (PX M ((1 : Int), (mkS n k sz ce h hs im len tx)))
          refine WP.if_le (tgt := 50) dL_isStrong_43 (by decide) (by omega) (fun h43 => ?_) (fun h43 => ?_)
          · skip
            exfalso
            omega
          · skip
            refine WP.iconst dL_isStrong_46 ?_
            refine WP.goto (tgt := 51) dL_isStrong_47 (by decide) ?_
            refine WP.istore_n (lt := [vR 42, vI ((st : Nat) : Int), vI ((k : Nat) : Int), vI (1 : Int)]) dL_isStrong_51 (by decide) rfl ?_
            refine WP.iload_n dL_isStrong_52 rfl ?_
            refine WP.iconst dL_isStrong_53 ?_
            refine WP.icmp_lt (tgt := 103) dL_isStrong_54 (by decide) (by omega) (by omega) (fun h54 => ?_) (fun h54 => ?_)
            · skip
              refine WP.iload_n dL_isStrong_103 rfl ?_
              refine WP.if_eq (tgt := 135) dL_isStrong_104 (by decide) (by omega) (fun h104 => ?_) (fun h104 => ?_)
              · skip
                exfalso
                omega
              · skip
                refine WP.aload_n dL_isStrong_107 rfl ?_
                refine WP.iload_n dL_isStrong_108 rfl ?_
                refine WP.iconst dL_isStrong_109 ?_
                refine WP.iadd dL_isStrong_110 ?_
                refine WP.iconst dL_isStrong_111 ?_
                refine WP.callV (as := [vI (((k : Nat) : Int) + (1 : Int)), vI (0 : Int)]) dL_isStrong_112 mv_L_75 rfl (rfl) (by decide) rfl rfl (z_auditB hL) rfl (Nat.le_of_ble_eq_true rfl) (by omega) (fun r9 N6 h9 => ?_)
                obtain ⟨rfl, hB6⟩ := h9
                have hL := hB6
                show WP sc0 41 m_L_isStrong 115 [vR 42, vI ((st : Nat) : Int), vI ((k : Nat) : Int), vI (1 : Int)] [vI (-1 : Int)] N6 (PX M ((1 : Int), (mkS n k sz ce h hs im len tx)))
                refine WP.iconst dL_isStrong_115 ?_
                refine WP.icmp_ne (tgt := 135) dL_isStrong_116 (by decide) (by omega) (by omega) (fun h116 => ?_) (fun h116 => ?_)
                · skip
                  exfalso
                  omega
                · skip
                  refine WP.aload_n dL_isStrong_119 rfl ?_
                  refine WP.iconst dL_isStrong_120 ?_
                  refine WP.iload_n dL_isStrong_121 rfl ?_
                  refine WP.ishl (z := ((2 ^ k : Nat) : Int)) dL_isStrong_122 (shl_ok k (by omega)) ?_
                  refine WP.iconst dL_isStrong_123 ?_
                  refine WP.callV (as := [vI ((2 ^ k : Nat) : Int), vI (0 : Int)]) dL_isStrong_124 mv_L_72 rfl (rfl) (by decide) rfl rfl (z_countB hL) rfl (Nat.le_of_ble_eq_true rfl) (by omega) (fun r9 N7 h9 => ?_)
                  obtain ⟨rfl, hB7⟩ := h9
                  have hL := hB7
                  show WP sc0 41 m_L_isStrong 127 [vR 42, vI ((st : Nat) : Int), vI ((k : Nat) : Int), vI (1 : Int)] [vI (-1 : Int)] N7 (PX M ((1 : Int), (mkS n k sz ce h hs im len tx)))
                  refine WP.iconst dL_isStrong_127 ?_
                  refine WP.icmp_ne (tgt := 135) dL_isStrong_128 (by decide) (by omega) (by omega) (fun h128 => ?_) (fun h128 => ?_)
                  · skip
                    exfalso
                    omega
                  · skip
                    refine WP.iconst dL_isStrong_131 ?_
                    refine WP.goto (tgt := 136) dL_isStrong_132 (by decide) ?_
                    refine WP.zret dL_isStrong_136 rfl (by decide) ?_
                    exact ⟨rfl, hL⟩
            · skip
              have hok2 : okT n k sz ce 2 aT := (str_ge hW (by omega)).mp (by omega)
              refine WP.aload_n dL_isStrong_57 rfl ?_
              refine WP.iconst dL_isStrong_58 ?_
              refine WP.callV (as := [vI (0 : Int)]) dL_isStrong_59 mv_L_9 rfl (rfl) (by decide) rfl rfl (z_told0 hL) rfl (Nat.le_of_ble_eq_true rfl) (by omega) (fun r9 N1 h9 => ?_)
              obtain ⟨rfl, hB1⟩ := h9
              have hL := hB1
              show WP sc0 41 m_L_isStrong 62 [vR 42, vI ((st : Nat) : Int), vI ((k : Nat) : Int), vI (1 : Int)] [vI ((n : Nat) : Int)] N1 (PX M ((1 : Int), (mkS n k sz ce h hs im len tx)))
              refine WP.if_le (tgt := 103) dL_isStrong_62 (by decide) (by omega) (fun h62 => ?_) (fun h62 => ?_)
              · skip
                refine WP.iload_n dL_isStrong_103 rfl ?_
                refine WP.if_eq (tgt := 135) dL_isStrong_104 (by decide) (by omega) (fun h104 => ?_) (fun h104 => ?_)
                · skip
                  exfalso
                  omega
                · skip
                  refine WP.aload_n dL_isStrong_107 rfl ?_
                  refine WP.iload_n dL_isStrong_108 rfl ?_
                  refine WP.iconst dL_isStrong_109 ?_
                  refine WP.iadd dL_isStrong_110 ?_
                  refine WP.iconst dL_isStrong_111 ?_
                  refine WP.callV (as := [vI (((k : Nat) : Int) + (1 : Int)), vI (0 : Int)]) dL_isStrong_112 mv_L_75 rfl (rfl) (by decide) rfl rfl (z_auditB hL) rfl (Nat.le_of_ble_eq_true rfl) (by omega) (fun r9 N6 h9 => ?_)
                  obtain ⟨rfl, hB6⟩ := h9
                  have hL := hB6
                  show WP sc0 41 m_L_isStrong 115 [vR 42, vI ((st : Nat) : Int), vI ((k : Nat) : Int), vI (1 : Int)] [vI (-1 : Int)] N6 (PX M ((1 : Int), (mkS n k sz ce h hs im len tx)))
                  refine WP.iconst dL_isStrong_115 ?_
                  refine WP.icmp_ne (tgt := 135) dL_isStrong_116 (by decide) (by omega) (by omega) (fun h116 => ?_) (fun h116 => ?_)
                  · skip
                    exfalso
                    omega
                  · skip
                    refine WP.aload_n dL_isStrong_119 rfl ?_
                    refine WP.iconst dL_isStrong_120 ?_
                    refine WP.iload_n dL_isStrong_121 rfl ?_
                    refine WP.ishl (z := ((2 ^ k : Nat) : Int)) dL_isStrong_122 (shl_ok k (by omega)) ?_
                    refine WP.iconst dL_isStrong_123 ?_
                    refine WP.callV (as := [vI ((2 ^ k : Nat) : Int), vI (0 : Int)]) dL_isStrong_124 mv_L_72 rfl (rfl) (by decide) rfl rfl (z_countB hL) rfl (Nat.le_of_ble_eq_true rfl) (by omega) (fun r9 N7 h9 => ?_)
                    obtain ⟨rfl, hB7⟩ := h9
                    have hL := hB7
                    show WP sc0 41 m_L_isStrong 127 [vR 42, vI ((st : Nat) : Int), vI ((k : Nat) : Int), vI (1 : Int)] [vI (-1 : Int)] N7 (PX M ((1 : Int), (mkS n k sz ce h hs im len tx)))
                    refine WP.iconst dL_isStrong_127 ?_
                    refine WP.icmp_ne (tgt := 135) dL_isStrong_128 (by decide) (by omega) (by omega) (fun h128 => ?_) (fun h128 => ?_)
                    · skip
                      exfalso
                      omega
                    · skip
                      refine WP.iconst dL_isStrong_131 ?_
                      refine WP.goto (tgt := 136) dL_isStrong_132 (by decide) ?_
                      refine WP.zret dL_isStrong_136 rfl (by decide) ?_
                      exact ⟨rfl, hL⟩
              · skip
                have hmod : (n : Int) % (lcO sz k : Int) = 0 := by exact_mod_cast Nat.mod_eq_zero_of_dvd (ok2_dvd hW hok2)
                have hrao := rao hW (by omega) (by omega) hok2
                refine WP.iload_n dL_isStrong_65 rfl ?_
                refine WP.if_eq (tgt := 101) dL_isStrong_66 (by decide) (by omega) (fun h66 => ?_) (fun h66 => ?_)
                · skip
                  exfalso
                  omega
                · skip
                  refine WP.aload_n dL_isStrong_69 rfl ?_
                  refine WP.iconst dL_isStrong_70 ?_
                  refine WP.callV (as := [vI (0 : Int)]) dL_isStrong_71 mv_L_9 rfl (rfl) (by decide) rfl rfl (z_told0 hL) rfl (Nat.le_of_ble_eq_true rfl) (by omega) (fun r9 N2 h9 => ?_)
                  obtain ⟨rfl, hB2⟩ := h9
                  have hL := hB2
                  show WP sc0 41 m_L_isStrong 74 [vR 42, vI ((st : Nat) : Int), vI ((k : Nat) : Int), vI (1 : Int)] [vI ((n : Nat) : Int)] N2 (PX M ((1 : Int), (mkS n k sz ce h hs im len tx)))
                  refine WP.aload_n dL_isStrong_74 rfl ?_
                  refine WP.bipush dL_isStrong_75 (by decide) ?_
                  refine WP.callV (as := [vI (6 : Int)]) dL_isStrong_77 mv_L_9 rfl (rfl) (by decide) rfl rfl (z_told6 hL) rfl (Nat.le_of_ble_eq_true rfl) (by omega) (fun r9 N3 h9 => ?_)
                  obtain ⟨rfl, hB3⟩ := h9
                  have hL := hB3
                  show WP sc0 41 m_L_isStrong 80 [vR 42, vI ((st : Nat) : Int), vI ((k : Nat) : Int), vI (1 : Int)] [vI ((lcO sz k : Nat) : Int), vI ((n : Nat) : Int)] N3 (PX M ((1 : Int), (mkS n k sz ce h hs im len tx)))
                  refine WP.irem dL_isStrong_80 (by omega) (by omega) ?_
                  refine WP.if_ne (tgt := 101) dL_isStrong_81 (by decide) (by rw [hmod]; decide) (fun h81 => ?_) (fun h81 => ?_)
                  · skip
                    exact absurd hmod h81
                  · skip
                    refine WP.aload_n dL_isStrong_84 rfl ?_
                    refine WP.iconst dL_isStrong_85 ?_
                    refine WP.callV (as := [vI (0 : Int)]) dL_isStrong_86 mv_L_9 rfl (rfl) (by decide) rfl rfl (z_told0 hL) rfl (Nat.le_of_ble_eq_true rfl) (by omega) (fun r9 N4 h9 => ?_)
                    obtain ⟨rfl, hB4⟩ := h9
                    have hL := hB4
                    show WP sc0 41 m_L_isStrong 89 [vR 42, vI ((st : Nat) : Int), vI ((k : Nat) : Int), vI (1 : Int)] [vI ((n : Nat) : Int)] N4 (PX M ((1 : Int), (mkS n k sz ce h hs im len tx)))
                    refine WP.aload_n dL_isStrong_89 rfl ?_
                    refine WP.iconst dL_isStrong_90 ?_
                    refine WP.callV (as := [vI (5 : Int)]) dL_isStrong_91 mv_L_9 rfl (rfl) (by decide) rfl rfl (z_told5 hL) rfl (Nat.le_of_ble_eq_true rfl) (by omega) (fun r9 N5 h9 => ?_)
                    obtain ⟨rfl, hB5⟩ := h9
                    have hL := hB5
                    show WP sc0 41 m_L_isStrong 94 [vR 42, vI ((st : Nat) : Int), vI ((k : Nat) : Int), vI (1 : Int)] [vI ((lrs sz k : Nat) : Int), vI ((n : Nat) : Int)] N5 (PX M ((1 : Int), (mkS n k sz ce h hs im len tx)))
                    refine WP.icmp_lt (tgt := 101) dL_isStrong_94 (by decide) (by omega) (by omega) (fun h94 => ?_) (fun h94 => ?_)
                    · skip
                      exfalso
                      omega
                    · skip
                      refine WP.iconst dL_isStrong_97 ?_
                      refine WP.goto (tgt := 102) dL_isStrong_98 (by decide) ?_
                      refine WP.istore_n (lt := [vR 42, vI ((st : Nat) : Int), vI ((k : Nat) : Int), vI (1 : Int)]) dL_isStrong_102 (by decide) rfl ?_
                      refine WP.iload_n dL_isStrong_103 rfl ?_
                      refine WP.if_eq (tgt := 135) dL_isStrong_104 (by decide) (by omega) (fun h104 => ?_) (fun h104 => ?_)
                      · skip
                        exfalso
                        omega
                      · skip
                        refine WP.aload_n dL_isStrong_107 rfl ?_
                        refine WP.iload_n dL_isStrong_108 rfl ?_
                        refine WP.iconst dL_isStrong_109 ?_
                        refine WP.iadd dL_isStrong_110 ?_
                        refine WP.iconst dL_isStrong_111 ?_
                        refine WP.callV (as := [vI (((k : Nat) : Int) + (1 : Int)), vI (0 : Int)]) dL_isStrong_112 mv_L_75 rfl (rfl) (by decide) rfl rfl (z_auditB hL) rfl (Nat.le_of_ble_eq_true rfl) (by omega) (fun r9 N6 h9 => ?_)
                        obtain ⟨rfl, hB6⟩ := h9
                        have hL := hB6
                        show WP sc0 41 m_L_isStrong 115 [vR 42, vI ((st : Nat) : Int), vI ((k : Nat) : Int), vI (1 : Int)] [vI (-1 : Int)] N6 (PX M ((1 : Int), (mkS n k sz ce h hs im len tx)))
                        refine WP.iconst dL_isStrong_115 ?_
                        refine WP.icmp_ne (tgt := 135) dL_isStrong_116 (by decide) (by omega) (by omega) (fun h116 => ?_) (fun h116 => ?_)
                        · skip
                          exfalso
                          omega
                        · skip
                          refine WP.aload_n dL_isStrong_119 rfl ?_
                          refine WP.iconst dL_isStrong_120 ?_
                          refine WP.iload_n dL_isStrong_121 rfl ?_
                          refine WP.ishl (z := ((2 ^ k : Nat) : Int)) dL_isStrong_122 (shl_ok k (by omega)) ?_
                          refine WP.iconst dL_isStrong_123 ?_
                          refine WP.callV (as := [vI ((2 ^ k : Nat) : Int), vI (0 : Int)]) dL_isStrong_124 mv_L_72 rfl (rfl) (by decide) rfl rfl (z_countB hL) rfl (Nat.le_of_ble_eq_true rfl) (by omega) (fun r9 N7 h9 => ?_)
                          obtain ⟨rfl, hB7⟩ := h9
                          have hL := hB7
                          show WP sc0 41 m_L_isStrong 127 [vR 42, vI ((st : Nat) : Int), vI ((k : Nat) : Int), vI (1 : Int)] [vI (-1 : Int)] N7 (PX M ((1 : Int), (mkS n k sz ce h hs im len tx)))
                          refine WP.iconst dL_isStrong_127 ?_
                          refine WP.icmp_ne (tgt := 135) dL_isStrong_128 (by decide) (by omega) (by omega) (fun h128 => ?_) (fun h128 => ?_)
                          · skip
                            exfalso
                            omega
                          · skip
                            refine WP.iconst dL_isStrong_131 ?_
                            refine WP.goto (tgt := 136) dL_isStrong_132 (by decide) ?_
                            refine WP.zret dL_isStrong_136 rfl (by decide) ?_
                            exact ⟨rfl, hL⟩
set_option maxHeartbeats 4000000 in
set_option maxRecDepth 20000 in
theorem c_L_arePairs {M : Mem} {n k h len : Nat} {sz tx : Nat → Nat} {ce : Nat → Nat → Nat} {hs : Nat → AR} {im : Nat → Option AR} (hX : InvX M (mkS n k sz ce h hs im len tx)) : CT 41 m_L_arePairs [vR 42] M (PX M ((1 : Int), (mkS n k sz ce h hs im len tx))) := by
  have hA0 := AT.start hX
  have hW : Wf n k sz ce := hX.1.2
  have b1 := hW.1
  have b2 := hW.2.1
  have hp128 := pw7 b2
  have hpi := prs_int (n := n) (ce := ce) b2
  have hpl := nn_r b1
  have hc0 := copies_0 (n := n) (k := k) (ce := ce)
  have hcl := cn_le (isC ce k) n
  have hpk := prs_le n k ce k
  have hnn : n * n ≤ 36 * 36 := Nat.mul_le_mul b1 b1
  refine CT.ofWP (by decide +kernel) (Nat.le_of_ble_eq_true rfl) ?_
  show WP sc0 41 m_L_arePairs 0 [vR 42, vU, vU, vU] [] M (PX M ((1 : Int), (mkS n k sz ce h hs im len tx)))
  refine WP.aload_n dL_arePairs_0 rfl ?_
  refine WP.iconst dL_arePairs_1 ?_
  refine WP.callV (as := [vI (0 : Int)]) dL_arePairs_2 mv_L_9 rfl (rfl) (by decide) rfl rfl (z_told0 hA0) rfl (Nat.le_of_ble_eq_true rfl) (by omega) (fun r9 M9 h9 => ?_)
  obtain ⟨rfl, hA9⟩ := h9
  show WP sc0 41 m_L_arePairs 5 [vR 42, vU, vU, vU] [vI ((n : Nat) : Int)] M9 (PX M ((1 : Int), (mkS n k sz ce h hs im len tx)))
  refine WP.istore_n (lt := [vR 42, vI ((n : Nat) : Int), vU, vU]) dL_arePairs_5 (by decide) rfl ?_
  refine WP.iconst dL_arePairs_6 ?_
  refine WP.istore_n (lt := [vR 42, vI ((n : Nat) : Int), vI (0 : Int), vU]) dL_arePairs_7 (by decide) rfl ?_
  refine WP.iconst dL_arePairs_8 ?_
  refine WP.istore_n (lt := [vR 42, vI ((n : Nat) : Int), vI (0 : Int), vI (0 : Int)]) dL_arePairs_9 (by decide) rfl ?_
  have L10 : ∀ (n9 : Nat) (j : Nat) (M1 : Mem) (hj : j ≤ 8) (hA1 : AT M (mkS n k sz ce h hs im len tx) M1), 8 - j < n9 → WP sc0 41 m_L_arePairs 10 [vR 42, vI ((n : Nat) : Int), vI ((sm (prs n k ce) j : Nat) : Int), vI ((j : Nat) : Int)] [] M1 (PX M ((1 : Int), (mkS n k sz ce h hs im len tx))) := by
    intro n9
    induction n9 with
    | zero =>
      intro j M1 hj hA1 hm9
      exact absurd hm9 (Nat.not_lt_zero _)
    | succ n9 ih10 =>
      intro j M1 hj hA1 hm9
      refine WP.iload_n dL_arePairs_10 rfl ?_
      refine WP.bipush dL_arePairs_11 (by decide) ?_
      refine WP.icmp_ge (tgt := 30) dL_arePairs_13 (by decide) (by omega) (by omega) (fun h13 => ?_) (fun h13 => ?_)
      · skip
        have hj8 : j = 8 := by omega
        refine WP.fgt (lt := [vR 42, vI ((n : Nat) : Int), vI ((sm (prs n k ce) 8 : Nat) : Int), vI ((j : Nat) : Int)]) ⟨Or.inr rfl, Or.inr rfl, Or.inr (congrArg vI (by rw [hj8])), Or.inr rfl, trivial⟩ ?_
        refine WP.iload_n dL_arePairs_30 rfl ?_
        refine WP.iload_n dL_arePairs_31 rfl ?_
        refine WP.iload_n dL_arePairs_32 rfl ?_
        refine WP.iconst dL_arePairs_33 ?_
        refine WP.isub dL_arePairs_34 ?_
        refine WP.imul dL_arePairs_35 ?_
        refine WP.iconst dL_arePairs_36 ?_
        refine WP.idiv dL_arePairs_37 (nn_r b1) (by omega) ?_
        refine WP.eqs (st' := [vI ((sm (prs n k ce) 8 : Nat) : Int), vI ((sm (prs n k ce) 8 : Nat) : Int)]) rfl (lc (congrArg vI (hpi.symm)) rfl) ?_
        refine WP.icmp_ne (tgt := 78) dL_arePairs_38 (by decide) (by omega) (by omega) (fun h38 => ?_) (fun h38 => ?_)
        · skip
          exfalso
          omega
        · skip
          refine WP.aload_n dL_arePairs_41 rfl ?_
          refine WP.iconst dL_arePairs_42 ?_
          refine WP.callV (as := [vI (3 : Int)]) dL_arePairs_43 mv_L_9 rfl (rfl) (by decide) rfl rfl (z_told3 hA1) rfl (Nat.le_of_ble_eq_true rfl) (by omega) (fun r9 M3 h9 => ?_)
          obtain ⟨rfl, hA3⟩ := h9
          show WP sc0 41 m_L_arePairs 46 [vR 42, vI ((n : Nat) : Int), vI ((sm (prs n k ce) 8 : Nat) : Int), vI ((j : Nat) : Int)] [vI ((cn (isC ce k) n : Nat) : Int)] M3 (PX M ((1 : Int), (mkS n k sz ce h hs im len tx)))
          refine WP.if_ne (tgt := 53) dL_arePairs_46 (by decide) (by omega) (fun h46 => ?_) (fun h46 => ?_)
          · skip
            refine WP.iconst dL_arePairs_53 ?_
            refine WP.aload_n dL_arePairs_54 rfl ?_
            refine WP.aload_n dL_arePairs_55 rfl ?_
            refine WP.iconst dL_arePairs_56 ?_
            refine WP.callV (as := [vI (1 : Int)]) dL_arePairs_57 mv_L_9 rfl (rfl) (by decide) rfl rfl (z_told1 hA3) rfl (Nat.le_of_ble_eq_true rfl) (by omega) (fun r9 M4 h9 => ?_)
            obtain ⟨rfl, hA4⟩ := h9
            show WP sc0 41 m_L_arePairs 60 [vR 42, vI ((n : Nat) : Int), vI ((sm (prs n k ce) 8 : Nat) : Int), vI ((j : Nat) : Int)] [vI ((k : Nat) : Int), vR 42, vI (0 : Int)] M4 (PX M ((1 : Int), (mkS n k sz ce h hs im len tx)))
            refine WP.callV (as := [vI ((k : Nat) : Int)]) dL_arePairs_60 mv_L_78 rfl (rfl) (by decide) rfl rfl (z_pairs_v (j := k) hA4 (by omega)) rfl (Nat.le_of_ble_eq_true rfl) (by omega) (fun r9 M5 h9 => ?_)
            obtain ⟨rfl, hA5⟩ := h9
            show WP sc0 41 m_L_arePairs 63 [vR 42, vI ((n : Nat) : Int), vI ((sm (prs n k ce) 8 : Nat) : Int), vI ((j : Nat) : Int)] [vI ((prs n k ce k : Nat) : Int), vI (0 : Int)] M5 (PX M ((1 : Int), (mkS n k sz ce h hs im len tx)))
            refine WP.if_ne (tgt := 70) dL_arePairs_63 (by decide) (by omega) (fun h63 => ?_) (fun h63 => ?_)
            · skip
              refine WP.iconst dL_arePairs_70 ?_
              refine WP.icmp_ne (tgt := 78) dL_arePairs_71 (by decide) (by omega) (by omega) (fun h71 => ?_) (fun h71 => ?_)
              · skip
                exfalso
                omega
              · skip
                refine WP.iconst dL_arePairs_74 ?_
                refine WP.goto (tgt := 79) dL_arePairs_75 (by decide) ?_
                refine WP.zret dL_arePairs_79 rfl (by decide) ?_
                exact ⟨rfl, hA5⟩
            · skip
              exfalso
              omega
          · skip
            refine WP.iconst dL_arePairs_49 ?_
            refine WP.goto (tgt := 54) dL_arePairs_50 (by decide) ?_
            refine WP.aload_n dL_arePairs_54 rfl ?_
            refine WP.aload_n dL_arePairs_55 rfl ?_
            refine WP.iconst dL_arePairs_56 ?_
            refine WP.callV (as := [vI (1 : Int)]) dL_arePairs_57 mv_L_9 rfl (rfl) (by decide) rfl rfl (z_told1 hA3) rfl (Nat.le_of_ble_eq_true rfl) (by omega) (fun r9 M4 h9 => ?_)
            obtain ⟨rfl, hA4⟩ := h9
            show WP sc0 41 m_L_arePairs 60 [vR 42, vI ((n : Nat) : Int), vI ((sm (prs n k ce) 8 : Nat) : Int), vI ((j : Nat) : Int)] [vI ((k : Nat) : Int), vR 42, vI (1 : Int)] M4 (PX M ((1 : Int), (mkS n k sz ce h hs im len tx)))
            refine WP.callV (as := [vI ((k : Nat) : Int)]) dL_arePairs_60 mv_L_78 rfl (rfl) (by decide) rfl rfl (z_pairs_v (j := k) hA4 (by omega)) rfl (Nat.le_of_ble_eq_true rfl) (by omega) (fun r9 M5 h9 => ?_)
            obtain ⟨rfl, hA5⟩ := h9
            show WP sc0 41 m_L_arePairs 63 [vR 42, vI ((n : Nat) : Int), vI ((sm (prs n k ce) 8 : Nat) : Int), vI ((j : Nat) : Int)] [vI ((prs n k ce k : Nat) : Int), vI (1 : Int)] M5 (PX M ((1 : Int), (mkS n k sz ce h hs im len tx)))
            refine WP.if_ne (tgt := 70) dL_arePairs_63 (by decide) (by omega) (fun h63 => ?_) (fun h63 => ?_)
            · skip
              exfalso
              omega
            · skip
              refine WP.iconst dL_arePairs_66 ?_
              refine WP.goto (tgt := 71) dL_arePairs_67 (by decide) ?_
              refine WP.icmp_ne (tgt := 78) dL_arePairs_71 (by decide) (by omega) (by omega) (fun h71 => ?_) (fun h71 => ?_)
              · skip
                exfalso
                omega
              · skip
                refine WP.iconst dL_arePairs_74 ?_
                refine WP.goto (tgt := 79) dL_arePairs_75 (by decide) ?_
                refine WP.zret dL_arePairs_79 rfl (by decide) ?_
                exact ⟨rfl, hA5⟩
      · skip
        refine WP.iload_n dL_arePairs_16 rfl ?_
        refine WP.aload_n dL_arePairs_17 rfl ?_
        refine WP.iload_n dL_arePairs_18 rfl ?_
        refine WP.callV (as := [vI ((j : Nat) : Int)]) dL_arePairs_19 mv_L_78 rfl (rfl) (by decide) rfl rfl (z_pairs_v (j := j) hA1 (by omega)) rfl (Nat.le_of_ble_eq_true rfl) (by omega) (fun r9 M2 h9 => ?_)
        obtain ⟨rfl, hA2⟩ := h9
        show WP sc0 41 m_L_arePairs 22 [vR 42, vI ((n : Nat) : Int), vI ((sm (prs n k ce) j : Nat) : Int), vI ((j : Nat) : Int)] [vI ((prs n k ce j : Nat) : Int), vI ((sm (prs n k ce) j : Nat) : Int)] M2 (PX M ((1 : Int), (mkS n k sz ce h hs im len tx)))
        refine WP.iadd dL_arePairs_22 ?_
        refine WP.istore_n (lt := [vR 42, vI ((n : Nat) : Int), vI (((sm (prs n k ce) j : Nat) : Int) + ((prs n k ce j : Nat) : Int)), vI ((j : Nat) : Int)]) dL_arePairs_23 (by decide) rfl ?_
        refine WP.iinc (lt := [vR 42, vI ((n : Nat) : Int), vI (((sm (prs n k ce) j : Nat) : Int) + ((prs n k ce j : Nat) : Int)), vI (((j : Nat) : Int) + 1)]) dL_arePairs_24 rfl (by decide) rfl ?_
        refine WP.goto (tgt := 10) dL_arePairs_27 (by decide) ?_
        refine WP.fgt (lt := [vR 42, vI ((n : Nat) : Int), vI ((sm (prs n k ce) (j + 1) : Nat) : Int), vI (((j + 1) : Nat) : Int)]) ⟨Or.inr rfl, Or.inr rfl, Or.inr (congrArg vI (by rw [sm_s]; omega)), Or.inr (congrArg vI (by omega)), trivial⟩ ?_
        exact ih10 (j + 1) (M2) (by omega) (hA2) (by omega)
  refine WP.fgt (lt := [vR 42, vI ((n : Nat) : Int), vI ((sm (prs n k ce) 0 : Nat) : Int), vI ((0 : Nat) : Int)]) ⟨Or.inr rfl, Or.inr rfl, Or.inr (congrArg vI (rfl)), Or.inr (congrArg vI (by omega)), trivial⟩ ?_
  exact L10 _ (0) (M9) (by omega) (hA9) (Nat.lt_succ_self _)
