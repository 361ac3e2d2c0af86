def m_L_law : Mth := (yL_law, cL_law, 8, some .boolean)
theorem dev_fact {S : ST} {v m : Int} (hW : Wf S.1.1 S.1.2.1 S.1.2.2.1 S.1.2.2.2) (h : lw v 16 = 11) : (-3 ≤ (o_change S v m).1 ∧ (o_change S v m).1 ≤ 36) ∧ (0 < (o_change S v m).1 → sch S.1.1 S.1.2.1 S.1.2.2.1 S.1.2.2.2 ∧ ∀ S2, S2 = (o_change S v m).2 → 1 < S2.1.2.1 → 2 ≤ stF (fun b => okT S2.1.1 S2.1.2.1 S2.1.2.2.1 S2.1.2.2.2 b aT) S2.1.2.1) := by
  have e : o_change S v m = o_develop S := by
    unfold o_change
    rw [if_neg (show ¬ lw v 16 = 0 by omega), if_neg (show ¬ lw v 16 = 1 by omega), if_neg (show ¬ lw v 16 = 2 by omega), if_neg (show ¬ lw v 16 = 3 by omega), if_neg (show ¬ lw v 16 = 4 by omega), if_neg (show ¬ lw v 16 = 5 by omega), if_neg (show ¬ lw v 16 = 6 by omega), if_neg (show ¬ lw v 16 = 7 by omega), if_neg (show ¬ lw v 16 = 8 by omega), if_neg (show ¬ lw v 16 = 9 by omega), if_neg (show ¬ lw v 16 = 10 by omega), if_pos h]
  rw [e]
  by_cases h1 : S.1.1 = 0 ∨ ¬ sch S.1.1 S.1.2.1 S.1.2.2.1 S.1.2.2.2
  · have e1 : o_develop S = (-2, S) := cif_t h1
    rw [e1]
    exact ⟨⟨(by decide : (-3 : Int) ≤ -2), (by decide : (-2 : Int) ≤ 36)⟩, fun z => absurd (show (0 : Int) < -2 from z) (by decide)⟩
  · have hs : sch S.1.1 S.1.2.1 S.1.2.2.1 S.1.2.2.2 := Classical.byContradiction (fun z => h1 (Or.inr z))
    have hn : 0 < S.1.1 := Nat.pos_of_ne_zero (fun z => h1 (Or.inl z))
    by_cases h2 : 36 < S.1.1 * S.1.2.2.1 0 ∨ 7 < S.1.2.1 + dvm S.1.1
    · have e1 : o_develop S = (-3, S) := (cif_f h1).trans (if_pos h2)
      rw [e1]
      exact ⟨⟨(by decide : (-3 : Int) ≤ -3), (by decide : (-3 : Int) ≤ 36)⟩, fun z => absurd (show (0 : Int) < -3 from z) (by decide)⟩
    · have e1 : o_develop S = (((S.1.1 * S.1.2.2.1 0 : Nat) : Int), chg S (S.1.1 * S.1.2.2.1 0, S.1.2.1 + dvm S.1.1, dvS S.1.2.2.1 S.1.2.1 S.1.1, dvC S.1.2.2.2 S.1.2.1 (S.1.2.2.1 0))) := (cif_f h1).trans (if_neg h2)
      rw [e1]
      refine ⟨⟨Int.le_trans (by decide) (Int.natCast_nonneg _), (show ((S.1.1 * S.1.2.2.1 0 : Nat) : Int) ≤ 36 by omega)⟩, fun _ => ⟨hs, fun S2 hS2 hk => ?_⟩⟩
      subst hS2
      have hk2 : 1 < S.1.2.1 + dvm S.1.1 := hk
      have hW2 := Wf_dv hW hs.1 (show S.1.1 * S.1.2.2.1 0 ≤ 36 by omega) rfl (show S.1.2.1 + dvm S.1.1 ≤ 7 by omega)
      exact (str_ge hW2 (show 2 ≤ S.1.2.1 + dvm S.1.1 by omega)).mpr (dev_ok hW hn hs rfl (by omega) (by omega))
theorem w_co {M : Mem} {S T : ST} {v m : Int} (hB : B2 M S T) : CT 41 m_L_change [vR 42, vI v, vI m] M (fun z M2 => z = some (vI (o_change S v m).1) ∧ B2 M2 (o_change S v m).2 T) := hB.o (c_L_change hB.1)
theorem w_cq {M : Mem} {S T : ST} {v m : Int} (hB : B2 M S T) : CT 41 m_L_change [vR 209, vI v, vI m] M (fun z M2 => z = some (vI (o_change T v m).1) ∧ B2 M2 S (o_change T v m).2) := hB.q (as := [vR 42, vI v, vI m]) (c_L_change hB.2)
theorem w_au {M : Mem} {S T : ST} {t : Nat} (hB : B2 M S T) (ht : t ≤ S.1.2.1) : CT 41 m_L_isAudited [vR 42, vI ((t : Nat) : Int)] M (fun z M2 => z = some (vI 1) ∧ B2 M2 S T) := by
  obtain ⟨⟨n, k, sz, ce⟩, ⟨h, hs⟩, im, len, tx⟩ := S
  exact hB.o (c_L_isAudited hB.1 ht)
theorem w_st {M : Mem} {S T : ST} (hB : B2 M S T) : CT 41 m_L_isStrong [vR 42] M (fun z M2 => z = some (vI 1) ∧ B2 M2 S T) := by
  obtain ⟨⟨n, k, sz, ce⟩, ⟨h, hs⟩, im, len, tx⟩ := S
  exact hB.o (c_L_isStrong hB.1)
theorem w_pa {M : Mem} {S T : ST} (hB : B2 M S T) : CT 41 m_L_arePairs [vR 42] M (fun z M2 => z = some (vI 1) ∧ B2 M2 S T) := by
  obtain ⟨⟨n, k, sz, ce⟩, ⟨h, hs⟩, im, len, tx⟩ := S
  exact hB.o (c_L_arePairs hB.1)
theorem w_ex {M : Mem} {S T : ST} (hB : B2 M S T) : CT 41 m_L_isExtended [vR 42, vI 2] M (fun z M2 => z = some (vI 1) ∧ ∃ S9, InvX M2 S9) := by
  obtain ⟨⟨n, k, sz, ce⟩, ⟨h, hs⟩, im, len, tx⟩ := S
  exact CT.mono (fun z M2 ⟨h1, S9, _, h3⟩ => ⟨h1, S9, h3.1⟩) (c_L_isExtended hB.1)
theorem w_sp {M : Mem} {S : ST} {t : Nat} (hX : InvX M S) (h1 : 1 ≤ t) (h2 : t ≤ 2) : CT 41 m_L_isSpared [vR 42, vI ((t : Nat) : Int)] M (fun z M2 => z = some (vI 1)) := by
  obtain ⟨⟨n, k, sz, ce⟩, ⟨h, hs⟩, im, len, tx⟩ := S
  exact CT.mono (fun z M2 hh => hh.1) (c_L_isSpared hX h1 h2)
set_option maxHeartbeats 40000000 in
set_option maxRecDepth 20000 in
theorem law_wp {L : Nat} {xs : Nat → Int} {M0 : Mem} {S0 : ST} (hL : L < 100000) (hB0 : B2 M0 S0 S0) : WP (L + 1, xs) 50 m_L_law 16 [vR 334, vR 42, vR 209, vU, vU, vU, vU, vU] [] M0 (fun z _ => z = some (vI 1)) := by
  refine WP.iconst dL_law_16 ?_
  refine WP.istore_n (lt := [vR 334, vR 42, vR 209, vI (0 : Int), vU, vU, vU, vU]) dL_law_17 (by decide) rfl ?_
  have L18 : ∀ (n9 : Nat) (i : Nat) (S : ST) (M1 : Mem) (hi : i ≤ 14) (hB1 : B2 M1 S S), 14 - i < n9 → WP (L + 1, xs) 50 m_L_law 18 [vR 334, vR 42, vR 209, vI ((i : Nat) : Int), vU, vU, vU, vU] [] M1 (fun z _ => z = some (vI 1)) := by
    intro n9
    induction n9 with
    | zero =>
      intro i S M1 hi hB1 hm9
      exact absurd hm9 (Nat.not_lt_zero _)
    | succ n9 ih18 =>
      intro i S M1 hi hB1 hm9
      refine WP.iload_n dL_law_18 rfl ?_
      refine WP.bipush dL_law_19 (by decide) ?_
      refine WP.icmp_ge (tgt := 181) dL_law_21 (by decide) (by omega) (by omega) (fun h21 => ?_) (fun h21 => ?_)
      · skip
        refine WP.aload_n dL_law_181 rfl ?_
        refine WP.aload_n dL_law_182 rfl ?_
        refine WP.callS (as := [vR 42, vR 209]) dL_law_183 ms_L_112 rfl (c_L_areAlike hB1) rfl (Nat.le_of_ble_eq_true rfl) (by omega) (fun r9 Na h9 => ?_)
        obtain ⟨rfl, hCa⟩ := h9
        show WP (L + 1, xs) 50 m_L_law 186 [vR 334, vR 42, vR 209, vI ((i : Nat) : Int), vU, vU, vU, vU] [vI (1 : Int)] Na (fun z _ => z = some (vI 1))
        refine WP.if_eq (tgt := 220) dL_law_186 (by decide) (by omega) (fun h186 => ?_) (fun h186 => ?_)
        · skip
          exfalso
          omega
        · skip
          refine WP.aload_n dL_law_189 rfl ?_
          refine WP.iconst dL_law_190 ?_
          refine WP.callS (as := [vR 42, vI (2 : Int)]) dL_law_191 ms_L_116 rfl (w_ex hCa) rfl (Nat.le_of_ble_eq_true rfl) (by omega) (fun r9 Nb h9 => ?_)
          obtain ⟨rfl, S9, hCb⟩ := h9
          show WP (L + 1, xs) 50 m_L_law 194 [vR 334, vR 42, vR 209, vI ((i : Nat) : Int), vU, vU, vU, vU] [vI (1 : Int)] Nb (fun z _ => z = some (vI 1))
          refine WP.if_eq (tgt := 220) dL_law_194 (by decide) (by omega) (fun h194 => ?_) (fun h194 => ?_)
          · skip
            exfalso
            omega
          · skip
            refine WP.aload_n dL_law_197 rfl ?_
            refine WP.iconst dL_law_198 ?_
            refine WP.aload_n dL_law_199 rfl ?_
            refine WP.bipush dL_law_200 (by decide) ?_
            refine WP.eqs (st' := [vI ((28 : Nat) : Int), vR 334, vI (1 : Int), vR 42]) rfl (lc (congrArg vI (rfl)) (lc (rfl) (rfl))) ?_
            refine WP.callTp (as := [vR 334, vI ((28 : Nat) : Int)]) (Nat.succ_ne_zero _) dL_law_202 ms_L_94 rfl (c_L_cell (k := 28) hL (by omega)) rfl (Nat.le_of_ble_eq_true rfl) (by omega) ?_
            refine WP.iconst dL_law_205 ?_
            refine WP.callSp (as := [vI (cvl L xs 28), vI (2 : Int)]) dL_law_206 ms_L_15 rfl (c_L_low (v := (cvl L xs 28)) (n := (2 : Int)) (by omega)) rfl (Nat.le_of_ble_eq_true rfl) (by omega) ?_
            refine WP.iadd dL_law_209 ?_
            have hlx := lw_rng (v := cvl L xs 28) (n := 2) (by decide)
            refine WP.eqs (st' := [vI ((((1 : Int) + lw (cvl L xs 28) (2 : Int)).toNat : Nat) : Int), vR 42]) rfl (lc (congrArg vI (by omega)) (lc (rfl) (rfl))) ?_
            refine WP.callS (as := [vR 42, vI ((((1 : Int) + lw (cvl L xs 28) (2 : Int)).toNat : Nat) : Int)]) dL_law_210 ms_L_119 rfl (w_sp (t := ((1 : Int) + lw (cvl L xs 28) (2 : Int)).toNat) hCb (by omega) (by omega)) rfl (Nat.le_of_ble_eq_true rfl) (by omega) (fun r9 Nc h9 => ?_)
            obtain rfl := h9
            show WP (L + 1, xs) 50 m_L_law 213 [vR 334, vR 42, vR 209, vI ((i : Nat) : Int), vU, vU, vU, vU] [vI (1 : Int)] Nc (fun z _ => z = some (vI 1))
            refine WP.if_eq (tgt := 220) dL_law_213 (by decide) (by omega) (fun h213 => ?_) (fun h213 => ?_)
            · skip
              exfalso
              omega
            · skip
              refine WP.iconst dL_law_216 ?_
              refine WP.goto (tgt := 221) dL_law_217 (by decide) ?_
              refine WP.zret dL_law_221 rfl (by decide) ?_
              exact rfl
      · skip
        refine WP.aload_n dL_law_24 rfl ?_
        refine WP.iconst dL_law_25 ?_
        refine WP.iload_n dL_law_26 rfl ?_
        refine WP.imul dL_law_27 ?_
        refine WP.eqs (st' := [vI (((2 * i) : Nat) : Int), vR 334]) rfl (lc (congrArg vI (by omega)) (lc (rfl) (rfl))) ?_
        refine WP.callTp (as := [vR 334, vI (((2 * i) : Nat) : Int)]) (Nat.succ_ne_zero _) dL_law_28 ms_L_94 rfl (c_L_cell (k := 2 * i) hL (by omega)) rfl (Nat.le_of_ble_eq_true rfl) (by omega) ?_
        refine WP.istore (lt := [vR 334, vR 42, vR 209, vI ((i : Nat) : Int), vI (cvl L xs (2 * i)), vU, vU, vU]) dL_law_31 (by decide) rfl ?_
        refine WP.aload_n dL_law_33 rfl ?_
        refine WP.iconst dL_law_34 ?_
        refine WP.iload_n dL_law_35 rfl ?_
        refine WP.imul dL_law_36 ?_
        refine WP.iconst dL_law_37 ?_
        refine WP.iadd dL_law_38 ?_
        refine WP.eqs (st' := [vI (((2 * i + 1) : Nat) : Int), vR 334]) rfl (lc (congrArg vI (by omega)) (lc (rfl) (rfl))) ?_
        refine WP.callTp (as := [vR 334, vI (((2 * i + 1) : Nat) : Int)]) (Nat.succ_ne_zero _) dL_law_39 ms_L_94 rfl (c_L_cell (k := 2 * i + 1) hL (by omega)) rfl (Nat.le_of_ble_eq_true rfl) (by omega) ?_
        refine WP.istore (lt := [vR 334, vR 42, vR 209, vI ((i : Nat) : Int), vI (cvl L xs (2 * i)), vI (cvl L xs (2 * i + 1)), vU, vU]) dL_law_42 (by decide) rfl ?_
        refine WP.aload_n dL_law_44 rfl ?_
        refine WP.iconst dL_law_45 ?_
        refine WP.callV (as := [vI (4 : Int)]) dL_law_46 mv_L_9 rfl (rfl) (by decide) rfl rfl (t_o4 hB1) rfl (Nat.le_of_ble_eq_true rfl) (by omega) (fun r9 M2 h9 => ?_)
        obtain ⟨rfl, hB2⟩ := h9
        show WP (L + 1, xs) 50 m_L_law 49 [vR 334, vR 42, vR 209, vI ((i : Nat) : Int), vI (cvl L xs (2 * i)), vI (cvl L xs (2 * i + 1)), vU, vU] [vI (bi (sch S.1.1 S.1.2.1 S.1.2.2.1 S.1.2.2.2))] M2 (fun z _ => z = some (vI 1))
        refine WP.iconst dL_law_49 ?_
        have J58 : WP (L + 1, xs) 50 m_L_law 58 [vR 334, vR 42, vR 209, vI ((i : Nat) : Int), vI (cvl L xs (2 * i)), vI (cvl L xs (2 * i + 1)), vU, vU] [vI (bi (sch S.1.1 S.1.2.1 S.1.2.2.1 S.1.2.2.2))] M2 (fun z _ => z = some (vI 1)) := by
          refine WP.istore (lt := [vR 334, vR 42, vR 209, vI ((i : Nat) : Int), vI (cvl L xs (2 * i)), vI (cvl L xs (2 * i + 1)), vI (bi (sch S.1.1 S.1.2.1 S.1.2.2.1 S.1.2.2.2)), vU]) dL_law_58 (by decide) rfl ?_
          refine WP.aload_n dL_law_60 rfl ?_
          refine WP.iload dL_law_61 rfl ?_
          refine WP.iload dL_law_63 rfl ?_
          refine WP.callS (as := [vR 42, vI (cvl L xs (2 * i)), vI (cvl L xs (2 * i + 1))]) dL_law_65 ms_L_97 rfl (w_co hB2) rfl (Nat.le_of_ble_eq_true rfl) (by omega) (fun r9 M3 h9 => ?_)
          obtain ⟨rfl, hB3⟩ := h9
          show WP (L + 1, xs) 50 m_L_law 68 [vR 334, vR 42, vR 209, vI ((i : Nat) : Int), vI (cvl L xs (2 * i)), vI (cvl L xs (2 * i + 1)), vI (bi (sch S.1.1 S.1.2.1 S.1.2.2.1 S.1.2.2.2)), vU] [vI ((o_change S (cvl L xs (2 * i)) (cvl L xs (2 * i + 1))).1)] M3 (fun z _ => z = some (vI 1))
          refine WP.istore (lt := [vR 334, vR 42, vR 209, vI ((i : Nat) : Int), vI (cvl L xs (2 * i)), vI (cvl L xs (2 * i + 1)), vI (bi (sch S.1.1 S.1.2.1 S.1.2.2.1 S.1.2.2.2)), vI ((o_change S (cvl L xs (2 * i)) (cvl L xs (2 * i + 1))).1)]) dL_law_68 (by decide) rfl ?_
          refine WP.iload dL_law_70 rfl ?_
          refine WP.aload_n dL_law_72 rfl ?_
          refine WP.iload dL_law_73 rfl ?_
          refine WP.iload dL_law_75 rfl ?_
          refine WP.callS (as := [vR 209, vI (cvl L xs (2 * i)), vI (cvl L xs (2 * i + 1))]) dL_law_77 ms_L_97 rfl (w_cq hB3) rfl (Nat.le_of_ble_eq_true rfl) (by omega) (fun r9 M4 h9 => ?_)
          obtain ⟨rfl, hB4⟩ := h9
          show WP (L + 1, xs) 50 m_L_law 80 [vR 334, vR 42, vR 209, vI ((i : Nat) : Int), vI (cvl L xs (2 * i)), vI (cvl L xs (2 * i + 1)), vI (bi (sch S.1.1 S.1.2.1 S.1.2.2.1 S.1.2.2.2)), vI ((o_change S (cvl L xs (2 * i)) (cvl L xs (2 * i + 1))).1)] [vI ((o_change S (cvl L xs (2 * i)) (cvl L xs (2 * i + 1))).1), vI ((o_change S (cvl L xs (2 * i)) (cvl L xs (2 * i + 1))).1)] M4 (fun z _ => z = some (vI 1))
          refine WP.icmp_same (tgt := 85) dL_law_80 (by decide) ?_
          have J127 : ∀ (S2 : ST) (Mj : Mem) (hBj : B2 Mj S2 S2), WP (L + 1, xs) 50 m_L_law 127 [vR 334, vR 42, vR 209, vI ((i : Nat) : Int), vI (cvl L xs (2 * i)), vI (cvl L xs (2 * i + 1)), vI (bi (sch S.1.1 S.1.2.1 S.1.2.2.1 S.1.2.2.2)), vI ((o_change S (cvl L xs (2 * i)) (cvl L xs (2 * i + 1))).1)] [] Mj (fun z _ => z = some (vI 1)) := by
            intro S2 Mj hBj
            refine WP.aload_n dL_law_127 rfl ?_
            refine WP.iconst dL_law_128 ?_
            refine WP.callV (as := [vI (1 : Int)]) dL_law_129 mv_L_9 rfl (rfl) (by decide) rfl rfl (t_o1 hBj) rfl (Nat.le_of_ble_eq_true rfl) (by omega) (fun r9 Mk h9 => ?_)
            obtain ⟨rfl, hBk⟩ := h9
            have bk := hBk.1.1.2.2.1
            show WP (L + 1, xs) 50 m_L_law 132 [vR 334, vR 42, vR 209, vI ((i : Nat) : Int), vI (cvl L xs (2 * i)), vI (cvl L xs (2 * i + 1)), vI (bi (sch S.1.1 S.1.2.1 S.1.2.2.1 S.1.2.2.2)), vI ((o_change S (cvl L xs (2 * i)) (cvl L xs (2 * i + 1))).1)] [vI ((S2.1.2.1 : Nat) : Int)] Mk (fun z _ => z = some (vI 1))
            refine WP.bipush dL_law_132 (by decide) ?_
            refine WP.icmp_ge (tgt := 175) dL_law_134 (by decide) (by omega) (by omega) (fun h134 => ?_) (fun h134 => ?_)
            · skip
              refine WP.iinc (lt := [vR 334, vR 42, vR 209, vI (((i : Nat) : Int) + 1), vI (cvl L xs (2 * i)), vI (cvl L xs (2 * i + 1)), vI (bi (sch S.1.1 S.1.2.1 S.1.2.2.1 S.1.2.2.2)), vI ((o_change S (cvl L xs (2 * i)) (cvl L xs (2 * i + 1))).1)]) dL_law_175 rfl (by decide) rfl ?_
              refine WP.goto (tgt := 18) dL_law_178 (by decide) ?_
              refine WP.fgt (lt := [vR 334, vR 42, vR 209, vI (((i + 1) : Nat) : Int), vU, vU, vU, vU]) ⟨Or.inr rfl, Or.inr rfl, Or.inr rfl, Or.inr (congrArg vI (by omega)), Or.inl rfl, Or.inl rfl, Or.inl rfl, Or.inl rfl, trivial⟩ ?_
              exact ih18 (i + 1) (S2) (Mk) (by omega) (hBk) (by omega)
            · skip
              refine WP.aload_n dL_law_137 rfl ?_
              refine WP.iload dL_law_138 rfl ?_
              refine WP.bipush dL_law_140 (by decide) ?_
              refine WP.ishr (z := (shI (cvl L xs (2 * i + 1)) (8 : Int))) dL_law_142 ((Int32.ofInt_toInt _).symm) ?_
              refine WP.aload_n dL_law_143 rfl ?_
              refine WP.iconst dL_law_144 ?_
              refine WP.callV (as := [vI (1 : Int)]) dL_law_145 mv_L_9 rfl (rfl) (by decide) rfl rfl (t_o1 hBk) rfl (Nat.le_of_ble_eq_true rfl) (by omega) (fun r9 Ml h9 => ?_)
              obtain ⟨rfl, hBl⟩ := h9
              show WP (L + 1, xs) 50 m_L_law 148 [vR 334, vR 42, vR 209, vI ((i : Nat) : Int), vI (cvl L xs (2 * i)), vI (cvl L xs (2 * i + 1)), vI (bi (sch S.1.1 S.1.2.1 S.1.2.2.1 S.1.2.2.2)), vI ((o_change S (cvl L xs (2 * i)) (cvl L xs (2 * i + 1))).1)] [vI ((S2.1.2.1 : Nat) : Int), vI (shI (cvl L xs (2 * i + 1)) (8 : Int)), vR 42] Ml (fun z _ => z = some (vI 1))
              refine WP.iconst dL_law_148 ?_
              refine WP.iadd dL_law_149 ?_
              refine WP.callSp (as := [vI (shI (cvl L xs (2 * i + 1)) (8 : Int)), vI (((S2.1.2.1 : Nat) : Int) + (1 : Int))]) dL_law_150 ms_L_15 rfl (c_L_low (v := (shI (cvl L xs (2 * i + 1)) (8 : Int))) (n := (((S2.1.2.1 : Nat) : Int) + (1 : Int))) (by omega)) rfl (Nat.le_of_ble_eq_true rfl) (by omega) ?_
              have hlw := lw_rng (v := shI (cvl L xs (2 * i + 1)) (8 : Int)) (n := ((S2.1.2.1 : Nat) : Int) + (1 : Int)) (by omega)
              refine WP.eqs (st' := [vI (((lw (shI (cvl L xs (2 * i + 1)) (8 : Int)) (((S2.1.2.1 : Nat) : Int) + (1 : Int))).toNat : Nat) : Int), vR 42]) rfl (lc (congrArg vI (by omega)) (lc (rfl) (rfl))) ?_
              refine WP.callS (as := [vR 42, vI (((lw (shI (cvl L xs (2 * i + 1)) (8 : Int)) (((S2.1.2.1 : Nat) : Int) + (1 : Int))).toNat : Nat) : Int)]) dL_law_153 ms_L_101 rfl (w_au (t := (lw (shI (cvl L xs (2 * i + 1)) (8 : Int)) (((S2.1.2.1 : Nat) : Int) + (1 : Int))).toNat) hBl (by omega)) rfl (Nat.le_of_ble_eq_true rfl) (by omega) (fun r9 Mm h9 => ?_)
              obtain ⟨rfl, hBm⟩ := h9
              show WP (L + 1, xs) 50 m_L_law 156 [vR 334, vR 42, vR 209, vI ((i : Nat) : Int), vI (cvl L xs (2 * i)), vI (cvl L xs (2 * i + 1)), vI (bi (sch S.1.1 S.1.2.1 S.1.2.2.1 S.1.2.2.2)), vI ((o_change S (cvl L xs (2 * i)) (cvl L xs (2 * i + 1))).1)] [vI (1 : Int)] Mm (fun z _ => z = some (vI 1))
              refine WP.if_eq (tgt := 173) dL_law_156 (by decide) (by omega) (fun h156 => ?_) (fun h156 => ?_)
              · skip
                exfalso
                omega
              · skip
                refine WP.aload_n dL_law_159 rfl ?_
                refine WP.callS (as := [vR 42]) dL_law_160 ms_L_105 rfl (w_st hBm) rfl (Nat.le_of_ble_eq_true rfl) (by omega) (fun r9 Mn h9 => ?_)
                obtain ⟨rfl, hBn⟩ := h9
                show WP (L + 1, xs) 50 m_L_law 163 [vR 334, vR 42, vR 209, vI ((i : Nat) : Int), vI (cvl L xs (2 * i)), vI (cvl L xs (2 * i + 1)), vI (bi (sch S.1.1 S.1.2.1 S.1.2.2.1 S.1.2.2.2)), vI ((o_change S (cvl L xs (2 * i)) (cvl L xs (2 * i + 1))).1)] [vI (1 : Int)] Mn (fun z _ => z = some (vI 1))
                refine WP.if_eq (tgt := 173) dL_law_163 (by decide) (by omega) (fun h163 => ?_) (fun h163 => ?_)
                · skip
                  exfalso
                  omega
                · skip
                  refine WP.aload_n dL_law_166 rfl ?_
                  refine WP.callS (as := [vR 42]) dL_law_167 ms_L_109 rfl (w_pa hBn) rfl (Nat.le_of_ble_eq_true rfl) (by omega) (fun r9 Mo h9 => ?_)
                  obtain ⟨rfl, hBo⟩ := h9
                  show WP (L + 1, xs) 50 m_L_law 170 [vR 334, vR 42, vR 209, vI ((i : Nat) : Int), vI (cvl L xs (2 * i)), vI (cvl L xs (2 * i + 1)), vI (bi (sch S.1.1 S.1.2.1 S.1.2.2.1 S.1.2.2.2)), vI ((o_change S (cvl L xs (2 * i)) (cvl L xs (2 * i + 1))).1)] [vI (1 : Int)] Mo (fun z _ => z = some (vI 1))
                  refine WP.if_ne (tgt := 175) dL_law_170 (by decide) (by omega) (fun h170 => ?_) (fun h170 => ?_)
                  · skip
                    refine WP.iinc (lt := [vR 334, vR 42, vR 209, vI (((i : Nat) : Int) + 1), vI (cvl L xs (2 * i)), vI (cvl L xs (2 * i + 1)), vI (bi (sch S.1.1 S.1.2.1 S.1.2.2.1 S.1.2.2.2)), vI ((o_change S (cvl L xs (2 * i)) (cvl L xs (2 * i + 1))).1)]) dL_law_175 rfl (by decide) rfl ?_
                    refine WP.goto (tgt := 18) dL_law_178 (by decide) ?_
                    refine WP.fgt (lt := [vR 334, vR 42, vR 209, vI (((i + 1) : Nat) : Int), vU, vU, vU, vU]) ⟨Or.inr rfl, Or.inr rfl, Or.inr rfl, Or.inr (congrArg vI (by omega)), Or.inl rfl, Or.inl rfl, Or.inl rfl, Or.inl rfl, trivial⟩ ?_
                    exact ih18 (i + 1) (S2) (Mo) (by omega) (hBo) (by omega)
                  · skip
                    exfalso
                    omega
          refine WP.iload dL_law_85 rfl ?_
          refine WP.bipush dL_law_87 (by decide) ?_
          refine WP.callSp (as := [vI (cvl L xs (2 * i)), vI (16 : Int)]) dL_law_89 ms_L_15 rfl (c_L_low (v := (cvl L xs (2 * i))) (n := (16 : Int)) (by omega)) rfl (Nat.le_of_ble_eq_true rfl) (by omega) ?_
          refine WP.bipush dL_law_92 (by decide) ?_
          refine WP.icmp_ne (tgt := 127) dL_law_94 (by decide) (by have := lw_rng (v := (cvl L xs (2 * i))) (n := 16) (by decide); omega) (by omega) (fun h94 => ?_) (fun h94 => ?_)
          · skip
            exact J127 _ _ hB4
          · skip
            have hdf := dev_fact (m := (cvl L xs (2 * i + 1))) hB1.1.1.2 h94
            refine WP.iload dL_law_97 rfl ?_
            refine WP.if_le (tgt := 127) dL_law_99 (by decide) (by omega) (fun h99 => ?_) (fun h99 => ?_)
            · skip
              exact J127 _ _ hB4
            · skip
              obtain ⟨hsc, hst⟩ := hdf.2 h99
              refine WP.iload dL_law_102 rfl ?_
              refine WP.if_eq (tgt := 125) dL_law_104 (by decide) (bi_rng) (fun h104 => ?_) (fun h104 => ?_)
              · skip
                exact absurd hsc (bi_0 h104)
              · skip
                refine WP.aload_n dL_law_107 rfl ?_
                refine WP.iconst dL_law_108 ?_
                refine WP.callV (as := [vI (1 : Int)]) dL_law_109 mv_L_9 rfl (rfl) (by decide) rfl rfl (t_o1 hB4) rfl (Nat.le_of_ble_eq_true rfl) (by omega) (fun r9 M5 h9 => ?_)
                obtain ⟨rfl, hB5⟩ := h9
                show WP (L + 1, xs) 50 m_L_law 112 [vR 334, vR 42, vR 209, vI ((i : Nat) : Int), vI (cvl L xs (2 * i)), vI (cvl L xs (2 * i + 1)), vI (bi (sch S.1.1 S.1.2.1 S.1.2.2.1 S.1.2.2.2)), vI ((o_change S (cvl L xs (2 * i)) (cvl L xs (2 * i + 1))).1)] [vI (((o_change S (cvl L xs (2 * i)) (cvl L xs (2 * i + 1))).2.1.2.1 : Nat) : Int)] M5 (fun z _ => z = some (vI 1))
                refine WP.iconst dL_law_112 ?_
                refine WP.icmp_le (tgt := 127) dL_law_113 (by decide) (by have := hB4.1.1.2.2.1; omega) (by omega) (fun h113 => ?_) (fun h113 => ?_)
                · skip
                  exact J127 _ _ hB5
                · skip
                  refine WP.aload_n dL_law_116 rfl ?_
                  refine WP.iconst dL_law_117 ?_
                  refine WP.callV (as := [vI (2 : Int)]) dL_law_118 mv_L_9 rfl (rfl) (by decide) rfl rfl (t_o2 hB5) rfl (Nat.le_of_ble_eq_true rfl) (by omega) (fun r9 M6 h9 => ?_)
                  obtain ⟨rfl, hB6⟩ := h9
                  show WP (L + 1, xs) 50 m_L_law 121 [vR 334, vR 42, vR 209, vI ((i : Nat) : Int), vI (cvl L xs (2 * i)), vI (cvl L xs (2 * i + 1)), vI (bi (sch S.1.1 S.1.2.1 S.1.2.2.1 S.1.2.2.2)), vI ((o_change S (cvl L xs (2 * i)) (cvl L xs (2 * i + 1))).1)] [vI ((stF (fun b => okT (o_change S (cvl L xs (2 * i)) (cvl L xs (2 * i + 1))).2.1.1 (o_change S (cvl L xs (2 * i)) (cvl L xs (2 * i + 1))).2.1.2.1 (o_change S (cvl L xs (2 * i)) (cvl L xs (2 * i + 1))).2.1.2.2.1 (o_change S (cvl L xs (2 * i)) (cvl L xs (2 * i + 1))).2.1.2.2.2 b aT) (o_change S (cvl L xs (2 * i)) (cvl L xs (2 * i + 1))).2.1.2.1 : Nat) : Int)] M6 (fun z _ => z = some (vI 1))
                  refine WP.iconst dL_law_121 ?_
                  refine WP.icmp_ge (tgt := 127) dL_law_122 (by decide) (by have := stF_le (fun b => okT (o_change S (cvl L xs (2 * i)) (cvl L xs (2 * i + 1))).2.1.1 (o_change S (cvl L xs (2 * i)) (cvl L xs (2 * i + 1))).2.1.2.1 (o_change S (cvl L xs (2 * i)) (cvl L xs (2 * i + 1))).2.1.2.2.1 (o_change S (cvl L xs (2 * i)) (cvl L xs (2 * i + 1))).2.1.2.2.2 b aT) (o_change S (cvl L xs (2 * i)) (cvl L xs (2 * i + 1))).2.1.2.1; have := hB4.1.1.2.2.1; omega) (by omega) (fun h122 => ?_) (fun h122 => ?_)
                  · skip
                    exact J127 _ _ hB6
                  · skip
                    have := hst _ rfl (by omega)
                    omega
        refine WP.icmp_ne (tgt := 57) dL_law_50 (by decide) (bi_rng) (by omega) (fun h50 => ?_) (fun h50 => ?_)
        · skip
          refine WP.iconst dL_law_57 ?_
          refine WP.eqs (st' := [vI (bi (sch S.1.1 S.1.2.1 S.1.2.2.1 S.1.2.2.2))]) rfl (lc (congrArg vI (by rcases bi_01 (b := sch S.1.1 S.1.2.1 S.1.2.2.1 S.1.2.2.2) with q | q <;> omega)) rfl) ?_
          exact J58
        · skip
          refine WP.iconst dL_law_53 ?_
          refine WP.goto (tgt := 58) dL_law_54 (by decide) ?_
          refine WP.eqs (st' := [vI (bi (sch S.1.1 S.1.2.1 S.1.2.2.1 S.1.2.2.2))]) rfl (lc (congrArg vI (by rcases bi_01 (b := sch S.1.1 S.1.2.1 S.1.2.2.1 S.1.2.2.2) with q | q <;> omega)) rfl) ?_
          exact J58
  refine WP.fgt (lt := [vR 334, vR 42, vR 209, vI ((0 : Nat) : Int), vU, vU, vU, vU]) ⟨Or.inr rfl, Or.inr rfl, Or.inr rfl, Or.inr (congrArg vI (by omega)), Or.inl rfl, Or.inl rfl, Or.inl rfl, Or.inl rfl, trivial⟩ ?_
  exact L18 _ (0) (S0) (M0) (Nat.zero_le _) (hB0) (Nat.lt_succ_self _)
