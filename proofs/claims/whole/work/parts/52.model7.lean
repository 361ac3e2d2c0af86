set_option maxHeartbeats 4000000 in
set_option maxRecDepth 20000 in
theorem y_replace {M : Mem} {n k h len : Nat} {sz tx : Nat → Nat} {ce : Nat → Nat → Nat} {hs : Nat → AR} {im : Nat → Option AR} (hV : InvM M (mkS n k sz ce h hs im len tx)) {x : Int} (hx : -2147483648 ≤ x ∧ x < 2147483648) {y : Int} (hy : -2147483648 ≤ y ∧ y < 2147483648) : CT 40 m_X8_replace [vR 167, vI x, vI y] M (PM M (o_replace (mkS n k sz ce h hs im len tx) x y)) := by
  have hA : BX (M 168) n k sz ce := hV.1.1
  have hW : Wf n k sz ce := hV.1.2
  have hH : HM M h hs := hV.2.1
  have hIM : IMm M im := hV.2.2.1
  have hS : SM M len tx := hV.2.2.2
  have b1 := hW.1
  have b2 := hW.2.1
  have hh8 := hH.1
  have hl3 := hS.1
  obtain ⟨f, hf4, hf, hfi⟩ := id hIM
  refine CT.ofWP (by decide +kernel) (Nat.le_of_ble_eq_true rfl) ?_
  show WP sc0 40 m_X8_replace 0 [vR 167, vI x, vI y, vU, vU, vU, vU, vU, vU, vU, vU] [] M (PM M (o_replace (mkS n k sz ce h hs im len tx) x y))
  refine WP.aload_n dX8_replace_0 rfl ?_
  refine WP.iload_n dX8_replace_1 rfl ?_
  refine WP.callVp (as := [vI x]) dX8_replace_2 mv_X8_66 rfl (rfl) (by decide) rfl rfl (w_isColumn hA hW (by omega)) rfl (Nat.le_of_ble_eq_true rfl) (by omega) ?_
  refine WP.if_eq (tgt := 15) dX8_replace_5 (by decide) (bi_rng) (fun h5 => ?_) (fun h5 => ?_)
  · skip
    have q5 := bi_0 h5
    refine WP.iconst dX8_replace_15 ?_
    refine WP.iret dX8_replace_16 rfl ?_
    exact PM.same (cif_f (fun z => q5 z.1)) hV
  · skip
    have q5 := bi_1 h5
    obtain ⟨c, hc0⟩ : ∃ c : Nat, x.toNat = c := ⟨_, rfl⟩
    have hc1 : x = ((c : Nat) : Int) := by omega
    refine WP.fgt (lt := [vR 167, vI ((c : Nat) : Int), vI y, vU, vU, vU, vU, vU, vU, vU, vU]) ⟨Or.inr rfl, Or.inr (congrArg vI (hc1.symm)), Or.inr rfl, Or.inl rfl, Or.inl rfl, Or.inl rfl, Or.inl rfl, Or.inl rfl, Or.inl rfl, Or.inl rfl, Or.inl rfl, trivial⟩ ?_
    refine WP.iload_n dX8_replace_8 rfl ?_
    refine WP.callSp (as := [vI y]) dX8_replace_9 ms_X8_95 rfl (w_isImage (by omega)) rfl (Nat.le_of_ble_eq_true rfl) (by omega) ?_
    refine WP.if_ne (tgt := 17) dX8_replace_12 (by decide) (bi_rng) (fun h12 => ?_) (fun h12 => ?_)
    · skip
      have q12 := bi_1 h12
      have w1 := hW.2.2.1 c (by omega)
      obtain ⟨i, hi0⟩ : ∃ i : Nat, y.toNat = i := ⟨_, rfl⟩
      have hi1 : y = ((i : Nat) : Int) := by omega
      refine WP.fgt (lt := [vR 167, vI ((c : Nat) : Int), vI ((i : Nat) : Int), vU, vU, vU, vU, vU, vU, vU, vU]) ⟨Or.inr rfl, Or.inr rfl, Or.inr (congrArg vI (hi1.symm)), Or.inl rfl, Or.inl rfl, Or.inl rfl, Or.inl rfl, Or.inl rfl, Or.inl rfl, Or.inl rfl, Or.inl rfl, trivial⟩ ?_
      refine WP.aload_n dX8_replace_17 rfl ?_
      refine WP.iload_n dX8_replace_18 rfl ?_
      refine WP.callVp (as := [vI ((i : Nat) : Int)]) dX8_replace_19 mv_X8_98 rfl (rfl) (by decide) rfl rfl (w_isKept (i := i) hf hf4 (by omega)) rfl (Nat.le_of_ble_eq_true rfl) (by omega) ?_
      refine WP.if_eq (tgt := 42) dX8_replace_22 (by decide) (bi_rng) (fun h22 => ?_) (fun h22 => ?_)
      · skip
        have hno := (im_bit (hfi i (by omega))).2 (bi_0 h22)
        have hres : o_replace (mkS n k sz ce h hs im len tx) x y = (-2, (mkS n k sz ce h hs im len tx)) := by subst hc0; subst hi0; exact o_replace_n ⟨q5, q12⟩ hno
        refine WP.bipush dX8_replace_42 (by decide) ?_
        refine WP.iret dX8_replace_44 rfl ?_
        exact PM.same (hres) hV
      · skip
        obtain ⟨⟨n2, k2, sz2, ce2⟩, hB, hBA⟩ := (im_bit (hfi i (by omega))).1 (bi_1 h22)
        have hBX : BX (fun j => M 170 (261 * i + j)) n2 k2 sz2 ce2 := hBA.1
        have hW2 : Wf n2 k2 sz2 ce2 := hBA.2
        have b3 := hW2.1
        have b4 := hW2.2.1
        have hrs : o_replace (mkS n k sz ce h hs im len tx) x y = o_replaceB (mkS n k sz ce h hs im len tx) c (n2, k2, sz2, ce2) := by subst hc0; subst hi0; exact o_replace_s ⟨q5, q12⟩ hB
        refine WP.aload_n dX8_replace_25 rfl ?_
        refine WP.iload_n dX8_replace_26 rfl ?_
        refine WP.iconst dX8_replace_27 ?_
        refine WP.callVp (as := [vI ((i : Nat) : Int), vI (0 : Int)]) dX8_replace_28 mv_X8_101 rfl (rfl) (by decide) rfl rfl (w_ofImage (i := i) (j := 0) (x := ((n2 : Nat) : Int)) (by omega) (by decide) hBX.1) rfl (Nat.le_of_ble_eq_true rfl) (by omega) ?_
        refine WP.aload_n dX8_replace_31 rfl ?_
        refine WP.getR (y := 168) dX8_replace_32 fl_X8_7 (rfl) (by decide) (rfl) ?_
        refine WP.iconst dX8_replace_35 ?_
        refine WP.iload_n dX8_replace_36 rfl ?_
        refine WP.iadd dX8_replace_37 ?_
        refine WP.iaload (y := (2 + c)) (x := ((sz c : Nat) : Int)) dX8_replace_38 (rfl) (by omega) (by omega) (hA.2.2.1 _ (by omega)) ?_
        refine WP.icmp_eq (tgt := 45) dX8_replace_39 (by decide) (by omega) (by omega) (fun h39 => ?_) (fun h39 => ?_)
        · skip
          have hn2 : n2 = sz c := by omega
          refine WP.aload_n dX8_replace_45 rfl ?_
          refine WP.iload_n dX8_replace_46 rfl ?_
          refine WP.iconst dX8_replace_47 ?_
          refine WP.callVp (as := [vI ((i : Nat) : Int), vI (1 : Int)]) dX8_replace_48 mv_X8_101 rfl (rfl) (by decide) rfl rfl (w_ofImage (i := i) (j := 1) (x := ((k2 : Nat) : Int)) (by omega) (by decide) hBX.2.1) rfl (Nat.le_of_ble_eq_true rfl) (by omega) ?_
          refine WP.istore_n (lt := [vR 167, vI ((c : Nat) : Int), vI ((i : Nat) : Int), vI ((k2 : Nat) : Int), vU, vU, vU, vU, vU, vU, vU]) dX8_replace_51 (by decide) rfl ?_
          refine WP.aload_n dX8_replace_52 rfl ?_
          refine WP.getR (y := 168) dX8_replace_53 fl_X8_7 (rfl) (by decide) (rfl) ?_
          refine WP.iconst dX8_replace_56 ?_
          refine WP.iaload (y := 1) (x := ((k : Nat) : Int)) dX8_replace_57 (rfl) (by omega) (by omega) (hA.2.1) ?_
          refine WP.iconst dX8_replace_58 ?_
          refine WP.isub dX8_replace_59 ?_
          refine WP.iload_n dX8_replace_60 rfl ?_
          refine WP.iadd dX8_replace_61 ?_
          refine WP.bipush dX8_replace_62 (by decide) ?_
          refine WP.icmp_le (tgt := 70) dX8_replace_64 (by decide) (by omega) (by omega) (fun h64 => ?_) (fun h64 => ?_)
          · skip
            refine WP.aload_n dX8_replace_70 rfl ?_
            refine WP.callV (as := []) dX8_replace_71 mv_X8_51 rfl (rfl) (by decide) rfl rfl (w_remember (A := (n, k, sz, ce)) hH hV.1) rfl (Nat.le_of_ble_eq_true rfl) (by omega) (fun r9 M1 h9 => ?_)
            obtain ⟨rfl, hR1⟩ := h9
            have hA1 : BX (M1 168) n k sz ce := by rw [hR1.1 168 (by decide) (by decide)]; exact hA
            obtain ⟨p, hp1, hp8, hpm, hpb⟩ := hR1.last
            have hpb1 : BX (fun j => M1 169 (261 * (p - 1) + j)) n k sz ce := hpb.1
            show WP sc0 40 m_X8_replace 74 [vR 167, vI ((c : Nat) : Int), vI ((i : Nat) : Int), vI ((k2 : Nat) : Int), vU, vU, vU, vU, vU, vU, vU] [] M1 (PM M (o_replace (mkS n k sz ce h hs im len tx) x y))
            refine WP.aload_n dX8_replace_74 rfl ?_
            refine WP.getR (y := 169) dX8_replace_75 fl_X8_13 (rfl) (by decide) (rfl) ?_
            refine WP.astore (lt := [vR 167, vI ((c : Nat) : Int), vI ((i : Nat) : Int), vI ((k2 : Nat) : Int), vR 169, vU, vU, vU, vU, vU, vU]) dX8_replace_78 (by decide) rfl ?_
            refine WP.sipush dX8_replace_80 (by decide) ?_
            refine WP.aload_n dX8_replace_83 rfl ?_
            refine WP.getI (x := ((p : Nat) : Int)) dX8_replace_84 fl_X8_47 (rfl) (by decide) (hpm) ?_
            refine WP.iconst dX8_replace_87 ?_
            refine WP.isub dX8_replace_88 ?_
            refine WP.imul dX8_replace_89 ?_
            refine WP.eqs (st' := [vI ((261 * (p - 1) : Nat) : Int)]) rfl (lc (congrArg vI (by omega)) rfl) ?_
            refine WP.istore (lt := [vR 167, vI ((c : Nat) : Int), vI ((i : Nat) : Int), vI ((k2 : Nat) : Int), vR 169, vI ((261 * (p - 1) : Nat) : Int), vU, vU, vU, vU, vU]) dX8_replace_90 (by decide) rfl ?_
            refine WP.aload_n dX8_replace_92 rfl ?_
            refine WP.getR (y := 168) dX8_replace_93 fl_X8_7 (rfl) (by decide) (rfl) ?_
            refine WP.iconst dX8_replace_96 ?_
            refine WP.aload_n dX8_replace_97 rfl ?_
            refine WP.getR (y := 168) dX8_replace_98 fl_X8_7 (rfl) (by decide) (rfl) ?_
            refine WP.iconst dX8_replace_101 ?_
            refine WP.iaload (y := 1) (x := ((k : Nat) : Int)) dX8_replace_102 (rfl) (by omega) (by omega) (hA1.2.1) ?_
            refine WP.iconst dX8_replace_103 ?_
            refine WP.isub dX8_replace_104 ?_
            refine WP.iload_n dX8_replace_105 rfl ?_
            refine WP.iadd dX8_replace_106 ?_
            refine WP.iastore (y := 1) dX8_replace_107 (rfl) (by omega) (by omega) rfl ?_
            obtain ⟨M2, hM2⟩ : ∃ z, z = (mset M1 168 1 ((((k : Nat) : Int) - (1 : Int)) + ((k2 : Nat) : Int))) := ⟨_, rfl⟩
            refine WP.eqM hM2.symm ?_
            have hO2 : ∀ a, a ≠ 168 → M2 a = M1 a := fun a ha => by rw [hM2]; exact mset_o a ha
            have hk7 : k - 1 + k2 ≤ 7 := by omega
            refine WP.iconst dX8_replace_108 ?_
            refine WP.istore (lt := [vR 167, vI ((c : Nat) : Int), vI ((i : Nat) : Int), vI ((k2 : Nat) : Int), vR 169, vI ((261 * (p - 1) : Nat) : Int), vI (0 : Int), vU, vU, vU, vU]) dX8_replace_109 (by decide) rfl ?_
            have L111 : ∀ (n9 : Nat) (b : Nat) (M3 : Mem) (hb : b ≤ k - 1 + k2) (hF3 : ∀ a, a ≠ 168 → M3 a = M1 a) (h03 : M3 168 0 = (n : Int)) (h13 : M3 168 1 = ((k - 1 + k2 : Nat) : Int)) (hL3 : ∀ e, e < b → M3 168 (2 + e) = ((rpS sz sz2 c k2 e : Nat) : Int)) (hC3 : ∀ r, r < n → ∀ e, e < b → M3 168 (9 + 7 * r + e) = ((rpC ce ce2 c k2 r e : Nat) : Int)), k - 1 + k2 - b < n9 → WP sc0 40 m_X8_replace 111 [vR 167, vI ((c : Nat) : Int), vI ((i : Nat) : Int), vI ((k2 : Nat) : Int), vR 169, vI ((261 * (p - 1) : Nat) : Int), vI ((b : Nat) : Int), vU, vU, vU, vU] [] M3 (PM M (o_replace (mkS n k sz ce h hs im len tx) x y)) := by
              intro n9
              induction n9 with
              | zero =>
                intro b M3 hb hF3 h03 h13 hL3 hC3 hm9
                exact absurd hm9 (Nat.not_lt_zero _)
              | succ n9 ih111 =>
                intro b M3 hb hF3 h03 h13 hL3 hC3 hm9
                refine WP.iload dX8_replace_111 rfl ?_
                refine WP.aload_n dX8_replace_113 rfl ?_
                refine WP.getR (y := 168) dX8_replace_114 fl_X8_7 (rfl) (by decide) (rfl) ?_
                refine WP.iconst dX8_replace_117 ?_
                refine WP.iaload (y := 1) (x := ((k - 1 + k2 : Nat) : Int)) dX8_replace_118 (rfl) (by omega) (by omega) (h13) ?_
                refine WP.icmp_ge (tgt := 295) dX8_replace_119 (by decide) (by omega) (by omega) (fun h119 => ?_) (fun h119 => ?_)
                · skip
                  refine WP.aload_n dX8_replace_295 rfl ?_
                  refine WP.getR (y := 168) dX8_replace_296 fl_X8_7 (rfl) (by decide) (rfl) ?_
                  refine WP.iconst dX8_replace_299 ?_
                  refine WP.iaload (y := 1) (x := ((k - 1 + k2 : Nat) : Int)) dX8_replace_300 (rfl) (by omega) (by omega) (h13) ?_
                  refine WP.iret dX8_replace_301 rfl ?_
                  have hbe : b = k - 1 + k2 := by omega
                  exact PM.ch (A' := (n, k - 1 + k2, rpS sz sz2 c k2, rpC ce ce2 c k2)) (hrs.trans ((if_neg (show ¬ n2 ≠ sz c by omega)).trans (if_neg (show ¬ 7 < k - 1 + k2 by omega)))) hV hR1 hF3 ⟨h03, h13, fun e (he : e < k - 1 + k2) => hL3 e (by omega), fun r hr e (he : e < k - 1 + k2) => hC3 r hr e (by omega)⟩ (Wf_rp hW hW2 (by omega) hn2 hk7)
                · skip
                  refine WP.iload dX8_replace_122 rfl ?_
                  refine WP.iload_n dX8_replace_124 rfl ?_
                  refine WP.icmp_lt (tgt := 140) dX8_replace_125 (by decide) (by omega) (by omega) (fun h125 => ?_) (fun h125 => ?_)
                  · skip
                    have hl9 : rpS sz sz2 c k2 b = sz b := if_pos (by omega)
                    have hc9 : ∀ r, rpC ce ce2 c k2 r b = ce r b := fun r => if_pos (by omega)
                    refine WP.iconst dX8_replace_140 ?_
                    refine WP.istore (lt := [vR 167, vI ((c : Nat) : Int), vI ((i : Nat) : Int), vI ((k2 : Nat) : Int), vR 169, vI ((261 * (p - 1) : Nat) : Int), vI ((b : Nat) : Int), vI (0 : Int), vU, vU, vU]) dX8_replace_141 (by decide) rfl ?_
                    refine WP.iload dX8_replace_143 rfl ?_
                    refine WP.iload_n dX8_replace_145 rfl ?_
                    refine WP.icmp_ge (tgt := 154) dX8_replace_146 (by decide) (by omega) (by omega) (fun h146 => ?_) (fun h146 => ?_)
                    · skip
                      exfalso
                      omega
                    · skip
                      refine WP.iload dX8_replace_149 rfl ?_
                      refine WP.goto (tgt := 160) dX8_replace_151 (by decide) ?_
                      refine WP.istore (lt := [vR 167, vI ((c : Nat) : Int), vI ((i : Nat) : Int), vI ((k2 : Nat) : Int), vR 169, vI ((261 * (p - 1) : Nat) : Int), vI ((b : Nat) : Int), vI (0 : Int), vI ((b : Nat) : Int), vU, vU]) dX8_replace_160 (by decide) rfl ?_
                      refine WP.aload_n dX8_replace_162 rfl ?_
                      refine WP.getR (y := 168) dX8_replace_163 fl_X8_7 (rfl) (by decide) (rfl) ?_
                      refine WP.iconst dX8_replace_166 ?_
                      refine WP.iload dX8_replace_167 rfl ?_
                      refine WP.iadd dX8_replace_169 ?_
                      refine WP.iload dX8_replace_170 rfl ?_
                      refine WP.if_eq (tgt := 189) dX8_replace_172 (by decide) (by omega) (fun h172 => ?_) (fun h172 => ?_)
                      · skip
                        refine WP.aload dX8_replace_189 rfl ?_
                        refine WP.iload dX8_replace_191 rfl ?_
                        refine WP.iconst dX8_replace_193 ?_
                        refine WP.iadd dX8_replace_194 ?_
                        refine WP.iload dX8_replace_195 rfl ?_
                        refine WP.iadd dX8_replace_197 ?_
                        refine WP.iaload (y := (261 * (p - 1) + (2 + b))) (x := ((sz b : Nat) : Int)) dX8_replace_198 (rfl) (by omega) (by omega) (by rw [hF3 169 (by decide)]; exact hpb1.2.2.1 b (by omega)) ?_
                        refine WP.iastore (y := (2 + b)) dX8_replace_199 (rfl) (by omega) (by omega) rfl ?_
                        obtain ⟨M4, hM4⟩ : ∃ z, z = (mset M3 168 ((2 + b)) ((sz b : Nat) : Int)) := ⟨_, rfl⟩
                        refine WP.eqM hM4.symm ?_
                        have hO4 : ∀ a, a ≠ 168 → M4 a = M3 a := fun a ha => by rw [hM4]; exact mset_o a ha
                        refine WP.iconst dX8_replace_200 ?_
                        refine WP.istore (lt := [vR 167, vI ((c : Nat) : Int), vI ((i : Nat) : Int), vI ((k2 : Nat) : Int), vR 169, vI ((261 * (p - 1) : Nat) : Int), vI ((b : Nat) : Int), vI (0 : Int), vI ((b : Nat) : Int), vI (0 : Int), vU]) dX8_replace_201 (by decide) rfl ?_
                        have L203 : ∀ (n9 : Nat) (r : Nat) (M5 : Mem) (hr : r ≤ n) (hF5 : ∀ a, a ≠ 168 → M5 a = M1 a) (h05 : M5 168 0 = (n : Int)) (h15 : M5 168 1 = ((k - 1 + k2 : Nat) : Int)) (hL5 : ∀ e, e < b + 1 → M5 168 (2 + e) = ((rpS sz sz2 c k2 e : Nat) : Int)) (hX5 : ∀ r, r < n → ∀ e, e < b → M5 168 (9 + 7 * r + e) = ((rpC ce ce2 c k2 r e : Nat) : Int)) (hY5 : ∀ q, q < r → M5 168 (9 + 7 * q + b) = ((rpC ce ce2 c k2 q b : Nat) : Int)), n - r < n9 → WP sc0 40 m_X8_replace 203 [vR 167, vI ((c : Nat) : Int), vI ((i : Nat) : Int), vI ((k2 : Nat) : Int), vR 169, vI ((261 * (p - 1) : Nat) : Int), vI ((b : Nat) : Int), vI (0 : Int), vI ((b : Nat) : Int), vI ((r : Nat) : Int), vU] [] M5 (PM M (o_replace (mkS n k sz ce h hs im len tx) x y)) := by
                          intro n9
                          induction n9 with
                          | zero =>
                            intro r M5 hr hF5 h05 h15 hL5 hX5 hY5 hm9
                            exact absurd hm9 (Nat.not_lt_zero _)
                          | succ n9 ih203 =>
                            intro r M5 hr hF5 h05 h15 hL5 hX5 hY5 hm9
                            refine WP.iload dX8_replace_203 rfl ?_
                            refine WP.aload_n dX8_replace_205 rfl ?_
                            refine WP.getR (y := 168) dX8_replace_206 fl_X8_7 (rfl) (by decide) (rfl) ?_
                            refine WP.iconst dX8_replace_209 ?_
                            refine WP.iaload (y := 0) (x := ((n : Nat) : Int)) dX8_replace_210 (rfl) (by omega) (by omega) (h05) ?_
                            refine WP.icmp_ge (tgt := 289) dX8_replace_211 (by decide) (by omega) (by omega) (fun h211 => ?_) (fun h211 => ?_)
                            · skip
                              refine WP.iinc (lt := [vR 167, vI ((c : Nat) : Int), vI ((i : Nat) : Int), vI ((k2 : Nat) : Int), vR 169, vI ((261 * (p - 1) : Nat) : Int), vI (((b : Nat) : Int) + 1), vI (0 : Int), vI ((b : Nat) : Int), vI ((r : Nat) : Int), vU]) dX8_replace_289 rfl (by decide) rfl ?_
                              refine WP.goto (tgt := 111) dX8_replace_292 (by decide) ?_
                              refine WP.fgt (lt := [vR 167, vI ((c : Nat) : Int), vI ((i : Nat) : Int), vI ((k2 : Nat) : Int), vR 169, vI ((261 * (p - 1) : Nat) : Int), vI (((b + 1) : Nat) : Int), vU, vU, vU, vU]) ⟨Or.inr rfl, Or.inr rfl, Or.inr rfl, Or.inr rfl, Or.inr rfl, Or.inr rfl, Or.inr (congrArg vI (by omega)), Or.inl rfl, Or.inl rfl, Or.inl rfl, Or.inl rfl, trivial⟩ ?_
                              exact ih111 (b + 1) (M5) (by omega) (hF5) (h05) (h15) (hL5) (fun r9 hr9 e he => by
                                by_cases e9 : e = b
                                · rw [e9]; exact hY5 r9 (by omega)
                                · exact hX5 r9 hr9 e (by omega)) (by omega)
                            · skip
                              have vc := hW.2.2.2 r (by omega) c (by omega)
                              refine WP.aload dX8_replace_214 rfl ?_
                              refine WP.iload dX8_replace_216 rfl ?_
                              refine WP.bipush dX8_replace_218 (by decide) ?_
                              refine WP.iadd dX8_replace_220 ?_
                              refine WP.bipush dX8_replace_221 (by decide) ?_
                              refine WP.iload dX8_replace_223 rfl ?_
                              refine WP.imul dX8_replace_225 ?_
                              refine WP.iadd dX8_replace_226 ?_
                              refine WP.iload_n dX8_replace_227 rfl ?_
                              refine WP.iadd dX8_replace_228 ?_
                              refine WP.iaload (y := (261 * (p - 1) + (9 + 7 * r + c))) (x := ((ce r c : Nat) : Int)) dX8_replace_229 (rfl) (by omega) (by omega) (by rw [hF5 169 (by decide)]; exact hpb1.2.2.2 r (by omega) c (by omega)) ?_
                              refine WP.istore (lt := [vR 167, vI ((c : Nat) : Int), vI ((i : Nat) : Int), vI ((k2 : Nat) : Int), vR 169, vI ((261 * (p - 1) : Nat) : Int), vI ((b : Nat) : Int), vI (0 : Int), vI ((b : Nat) : Int), vI ((r : Nat) : Int), vI ((ce r c : Nat) : Int)]) dX8_replace_230 (by decide) rfl ?_
                              refine WP.aload_n dX8_replace_232 rfl ?_
                              refine WP.iload dX8_replace_233 rfl ?_
                              refine WP.iload dX8_replace_235 rfl ?_
                              refine WP.iload dX8_replace_237 rfl ?_
                              refine WP.if_eq (tgt := 263) dX8_replace_239 (by decide) (by omega) (fun h239 => ?_) (fun h239 => ?_)
                              · skip
                                refine WP.aload dX8_replace_263 rfl ?_
                                refine WP.iload dX8_replace_265 rfl ?_
                                refine WP.bipush dX8_replace_267 (by decide) ?_
                                refine WP.iadd dX8_replace_269 ?_
                                refine WP.bipush dX8_replace_270 (by decide) ?_
                                refine WP.iload dX8_replace_272 rfl ?_
                                refine WP.imul dX8_replace_274 ?_
                                refine WP.iadd dX8_replace_275 ?_
                                refine WP.iload dX8_replace_276 rfl ?_
                                refine WP.iadd dX8_replace_278 ?_
                                refine WP.iaload (y := (261 * (p - 1) + (9 + 7 * r + b))) (x := ((ce r b : Nat) : Int)) dX8_replace_279 (rfl) (by omega) (by omega) (by rw [hF5 169 (by decide)]; exact hpb1.2.2.2 r (by omega) b (by omega)) ?_
                                refine WP.callV (as := [vI ((r : Nat) : Int), vI ((b : Nat) : Int), vI ((ce r b : Nat) : Int)]) dX8_replace_280 mv_X8_58 rfl (rfl) (by decide) rfl rfl (w_set (r := r) (c := b) (by omega) (by omega)) rfl (Nat.le_of_ble_eq_true rfl) (by omega) (fun r9 M6 h9 => ?_)
                                obtain ⟨rfl, f6, g6, e6⟩ := h9
                                show WP sc0 40 m_X8_replace 283 [vR 167, vI ((c : Nat) : Int), vI ((i : Nat) : Int), vI ((k2 : Nat) : Int), vR 169, vI ((261 * (p - 1) : Nat) : Int), vI ((b : Nat) : Int), vI (0 : Int), vI ((b : Nat) : Int), vI ((r : Nat) : Int), vI ((ce r c : Nat) : Int)] [] M6 (PM M (o_replace (mkS n k sz ce h hs im len tx) x y))
                                refine WP.iinc (lt := [vR 167, vI ((c : Nat) : Int), vI ((i : Nat) : Int), vI ((k2 : Nat) : Int), vR 169, vI ((261 * (p - 1) : Nat) : Int), vI ((b : Nat) : Int), vI (0 : Int), vI ((b : Nat) : Int), vI (((r : Nat) : Int) + 1), vI ((ce r c : Nat) : Int)]) dX8_replace_283 rfl (by decide) rfl ?_
                                refine WP.goto (tgt := 203) dX8_replace_286 (by decide) ?_
                                refine WP.fgt (lt := [vR 167, vI ((c : Nat) : Int), vI ((i : Nat) : Int), vI ((k2 : Nat) : Int), vR 169, vI ((261 * (p - 1) : Nat) : Int), vI ((b : Nat) : Int), vI (0 : Int), vI ((b : Nat) : Int), vI (((r + 1) : Nat) : Int), vU]) ⟨Or.inr rfl, Or.inr rfl, Or.inr rfl, Or.inr rfl, Or.inr rfl, Or.inr rfl, Or.inr rfl, Or.inr rfl, Or.inr rfl, Or.inr (congrArg vI (by omega)), Or.inl rfl, trivial⟩ ?_
                                exact ih203 (r + 1) (M6) (by omega) (fun a ha => (f6 a ha).trans (hF5 a ha)) (by rw [e6 _ (by omega)]; exact h05) (by rw [e6 _ (by omega)]; exact h15) (fun e he => by rw [e6 _ (by omega)]; exact hL5 e he) (fun r9 hr9 e he => by rw [e6 _ (by omega)]; exact hX5 r9 hr9 e he) (fun q hq => by
                                  by_cases e9 : q = r
                                  · rw [e9, hc9]; exact g6
                                  · rw [e6 _ (by omega)]; exact hY5 q (by omega)) (by omega)
                              · skip
                                exact absurd rfl h239
                        refine WP.fgt (lt := [vR 167, vI ((c : Nat) : Int), vI ((i : Nat) : Int), vI ((k2 : Nat) : Int), vR 169, vI ((261 * (p - 1) : Nat) : Int), vI ((b : Nat) : Int), vI (0 : Int), vI ((b : Nat) : Int), vI ((0 : Nat) : Int), vU]) ⟨Or.inr rfl, Or.inr rfl, Or.inr rfl, Or.inr rfl, Or.inr rfl, Or.inr rfl, Or.inr rfl, Or.inr rfl, Or.inr rfl, Or.inr (congrArg vI (by omega)), Or.inl rfl, trivial⟩ ?_
                        exact L203 _ (0) (M4) (Nat.zero_le _) (fun a ha => (hO4 a ha).trans (hF3 a ha)) (by rw [hM4, mset_n (Or.inr (by omega))]; exact h03) (by rw [hM4, mset_n (Or.inr (by omega))]; exact h13) (fun e he => by
                          rw [hM4]
                          by_cases e9 : e = b
                          · rw [e9, mset_s, hl9]
                          · rw [mset_n (Or.inr (by omega))]; exact hL3 e (by omega)) (fun r9 hr9 e he => by rw [hM4, mset_n (Or.inr (by omega))]; exact hC3 r9 hr9 e he) (fun q hq => absurd hq (Nat.not_lt_zero q)) (Nat.lt_succ_self _)
                      · skip
                        exact absurd rfl h172
                  · skip
                    refine WP.iload dX8_replace_128 rfl ?_
                    refine WP.iload_n dX8_replace_130 rfl ?_
                    refine WP.iload_n dX8_replace_131 rfl ?_
                    refine WP.iadd dX8_replace_132 ?_
                    refine WP.icmp_ge (tgt := 140) dX8_replace_133 (by decide) (by omega) (by omega) (fun h133 => ?_) (fun h133 => ?_)
                    · skip
                      have hl9 : rpS sz sz2 c k2 b = sz (b - k2 + 1) := (if_neg (by omega)).trans (if_neg (by omega))
                      have hc9 : ∀ r, rpC ce ce2 c k2 r b = ce r (b - k2 + 1) := fun r => (if_neg (by omega)).trans (if_neg (by omega))
                      refine WP.iconst dX8_replace_140 ?_
                      refine WP.istore (lt := [vR 167, vI ((c : Nat) : Int), vI ((i : Nat) : Int), vI ((k2 : Nat) : Int), vR 169, vI ((261 * (p - 1) : Nat) : Int), vI ((b : Nat) : Int), vI (0 : Int), vU, vU, vU]) dX8_replace_141 (by decide) rfl ?_
                      refine WP.iload dX8_replace_143 rfl ?_
                      refine WP.iload_n dX8_replace_145 rfl ?_
                      refine WP.icmp_ge (tgt := 154) dX8_replace_146 (by decide) (by omega) (by omega) (fun h146 => ?_) (fun h146 => ?_)
                      · skip
                        refine WP.iload dX8_replace_154 rfl ?_
                        refine WP.iload_n dX8_replace_156 rfl ?_
                        refine WP.isub dX8_replace_157 ?_
                        refine WP.iconst dX8_replace_158 ?_
                        refine WP.iadd dX8_replace_159 ?_
                        refine WP.istore (lt := [vR 167, vI ((c : Nat) : Int), vI ((i : Nat) : Int), vI ((k2 : Nat) : Int), vR 169, vI ((261 * (p - 1) : Nat) : Int), vI ((b : Nat) : Int), vI (0 : Int), vI ((((b : Nat) : Int) - ((k2 : Nat) : Int)) + (1 : Int)), vU, vU]) dX8_replace_160 (by decide) rfl ?_
                        refine WP.aload_n dX8_replace_162 rfl ?_
                        refine WP.getR (y := 168) dX8_replace_163 fl_X8_7 (rfl) (by decide) (rfl) ?_
                        refine WP.iconst dX8_replace_166 ?_
                        refine WP.iload dX8_replace_167 rfl ?_
                        refine WP.iadd dX8_replace_169 ?_
                        refine WP.iload dX8_replace_170 rfl ?_
                        refine WP.if_eq (tgt := 189) dX8_replace_172 (by decide) (by omega) (fun h172 => ?_) (fun h172 => ?_)
                        · skip
                          refine WP.aload dX8_replace_189 rfl ?_
                          refine WP.iload dX8_replace_191 rfl ?_
                          refine WP.iconst dX8_replace_193 ?_
                          refine WP.iadd dX8_replace_194 ?_
                          refine WP.iload dX8_replace_195 rfl ?_
                          refine WP.iadd dX8_replace_197 ?_
                          refine WP.iaload (y := (261 * (p - 1) + (2 + (b - k2 + 1)))) (x := ((sz (b - k2 + 1) : Nat) : Int)) dX8_replace_198 (rfl) (by omega) (by omega) (by rw [hF3 169 (by decide)]; exact hpb1.2.2.1 (b - k2 + 1) (by omega)) ?_
                          refine WP.iastore (y := (2 + b)) dX8_replace_199 (rfl) (by omega) (by omega) rfl ?_
                          obtain ⟨M4, hM4⟩ : ∃ z, z = (mset M3 168 ((2 + b)) ((sz (b - k2 + 1) : Nat) : Int)) := ⟨_, rfl⟩
                          refine WP.eqM hM4.symm ?_
                          have hO4 : ∀ a, a ≠ 168 → M4 a = M3 a := fun a ha => by rw [hM4]; exact mset_o a ha
                          refine WP.iconst dX8_replace_200 ?_
                          refine WP.istore (lt := [vR 167, vI ((c : Nat) : Int), vI ((i : Nat) : Int), vI ((k2 : Nat) : Int), vR 169, vI ((261 * (p - 1) : Nat) : Int), vI ((b : Nat) : Int), vI (0 : Int), vI ((((b : Nat) : Int) - ((k2 : Nat) : Int)) + (1 : Int)), vI (0 : Int), vU]) dX8_replace_201 (by decide) rfl ?_
                          have L203 : ∀ (n9 : Nat) (r : Nat) (M5 : Mem) (hr : r ≤ n) (hF5 : ∀ a, a ≠ 168 → M5 a = M1 a) (h05 : M5 168 0 = (n : Int)) (h15 : M5 168 1 = ((k - 1 + k2 : Nat) : Int)) (hL5 : ∀ e, e < b + 1 → M5 168 (2 + e) = ((rpS sz sz2 c k2 e : Nat) : Int)) (hX5 : ∀ r, r < n → ∀ e, e < b → M5 168 (9 + 7 * r + e) = ((rpC ce ce2 c k2 r e : Nat) : Int)) (hY5 : ∀ q, q < r → M5 168 (9 + 7 * q + b) = ((rpC ce ce2 c k2 q b : Nat) : Int)), n - r < n9 → WP sc0 40 m_X8_replace 203 [vR 167, vI ((c : Nat) : Int), vI ((i : Nat) : Int), vI ((k2 : Nat) : Int), vR 169, vI ((261 * (p - 1) : Nat) : Int), vI ((b : Nat) : Int), vI (0 : Int), vI ((((b : Nat) : Int) - ((k2 : Nat) : Int)) + (1 : Int)), vI ((r : Nat) : Int), vU] [] M5 (PM M (o_replace (mkS n k sz ce h hs im len tx) x y)) := by
                            intro n9
                            induction n9 with
                            | zero =>
                              intro r M5 hr hF5 h05 h15 hL5 hX5 hY5 hm9
                              exact absurd hm9 (Nat.not_lt_zero _)
                            | succ n9 ih203 =>
                              intro r M5 hr hF5 h05 h15 hL5 hX5 hY5 hm9
                              refine WP.iload dX8_replace_203 rfl ?_
                              refine WP.aload_n dX8_replace_205 rfl ?_
                              refine WP.getR (y := 168) dX8_replace_206 fl_X8_7 (rfl) (by decide) (rfl) ?_
                              refine WP.iconst dX8_replace_209 ?_
                              refine WP.iaload (y := 0) (x := ((n : Nat) : Int)) dX8_replace_210 (rfl) (by omega) (by omega) (h05) ?_
                              refine WP.icmp_ge (tgt := 289) dX8_replace_211 (by decide) (by omega) (by omega) (fun h211 => ?_) (fun h211 => ?_)
                              · skip
                                refine WP.iinc (lt := [vR 167, vI ((c : Nat) : Int), vI ((i : Nat) : Int), vI ((k2 : Nat) : Int), vR 169, vI ((261 * (p - 1) : Nat) : Int), vI (((b : Nat) : Int) + 1), vI (0 : Int), vI ((((b : Nat) : Int) - ((k2 : Nat) : Int)) + (1 : Int)), vI ((r : Nat) : Int), vU]) dX8_replace_289 rfl (by decide) rfl ?_
                                refine WP.goto (tgt := 111) dX8_replace_292 (by decide) ?_
                                refine WP.fgt (lt := [vR 167, vI ((c : Nat) : Int), vI ((i : Nat) : Int), vI ((k2 : Nat) : Int), vR 169, vI ((261 * (p - 1) : Nat) : Int), vI (((b + 1) : Nat) : Int), vU, vU, vU, vU]) ⟨Or.inr rfl, Or.inr rfl, Or.inr rfl, Or.inr rfl, Or.inr rfl, Or.inr rfl, Or.inr (congrArg vI (by omega)), Or.inl rfl, Or.inl rfl, Or.inl rfl, Or.inl rfl, trivial⟩ ?_
                                exact ih111 (b + 1) (M5) (by omega) (hF5) (h05) (h15) (hL5) (fun r9 hr9 e he => by
                                  by_cases e9 : e = b
                                  · rw [e9]; exact hY5 r9 (by omega)
                                  · exact hX5 r9 hr9 e (by omega)) (by omega)
                              · skip
                                have vc := hW.2.2.2 r (by omega) c (by omega)
                                refine WP.aload dX8_replace_214 rfl ?_
                                refine WP.iload dX8_replace_216 rfl ?_
                                refine WP.bipush dX8_replace_218 (by decide) ?_
                                refine WP.iadd dX8_replace_220 ?_
                                refine WP.bipush dX8_replace_221 (by decide) ?_
                                refine WP.iload dX8_replace_223 rfl ?_
                                refine WP.imul dX8_replace_225 ?_
                                refine WP.iadd dX8_replace_226 ?_
                                refine WP.iload_n dX8_replace_227 rfl ?_
                                refine WP.iadd dX8_replace_228 ?_
                                refine WP.iaload (y := (261 * (p - 1) + (9 + 7 * r + c))) (x := ((ce r c : Nat) : Int)) dX8_replace_229 (rfl) (by omega) (by omega) (by rw [hF5 169 (by decide)]; exact hpb1.2.2.2 r (by omega) c (by omega)) ?_
                                refine WP.istore (lt := [vR 167, vI ((c : Nat) : Int), vI ((i : Nat) : Int), vI ((k2 : Nat) : Int), vR 169, vI ((261 * (p - 1) : Nat) : Int), vI ((b : Nat) : Int), vI (0 : Int), vI ((((b : Nat) : Int) - ((k2 : Nat) : Int)) + (1 : Int)), vI ((r : Nat) : Int), vI ((ce r c : Nat) : Int)]) dX8_replace_230 (by decide) rfl ?_
                                refine WP.aload_n dX8_replace_232 rfl ?_
                                refine WP.iload dX8_replace_233 rfl ?_
                                refine WP.iload dX8_replace_235 rfl ?_
                                refine WP.iload dX8_replace_237 rfl ?_
                                refine WP.if_eq (tgt := 263) dX8_replace_239 (by decide) (by omega) (fun h239 => ?_) (fun h239 => ?_)
                                · skip
                                  refine WP.aload dX8_replace_263 rfl ?_
                                  refine WP.iload dX8_replace_265 rfl ?_
                                  refine WP.bipush dX8_replace_267 (by decide) ?_
                                  refine WP.iadd dX8_replace_269 ?_
                                  refine WP.bipush dX8_replace_270 (by decide) ?_
                                  refine WP.iload dX8_replace_272 rfl ?_
                                  refine WP.imul dX8_replace_274 ?_
                                  refine WP.iadd dX8_replace_275 ?_
                                  refine WP.iload dX8_replace_276 rfl ?_
                                  refine WP.iadd dX8_replace_278 ?_
                                  refine WP.iaload (y := (261 * (p - 1) + (9 + 7 * r + (b - k2 + 1)))) (x := ((ce r (b - k2 + 1) : Nat) : Int)) dX8_replace_279 (rfl) (by omega) (by omega) (by rw [hF5 169 (by decide)]; exact hpb1.2.2.2 r (by omega) (b - k2 + 1) (by omega)) ?_
                                  refine WP.callV (as := [vI ((r : Nat) : Int), vI ((b : Nat) : Int), vI ((ce r (b - k2 + 1) : Nat) : Int)]) dX8_replace_280 mv_X8_58 rfl (rfl) (by decide) rfl rfl (w_set (r := r) (c := b) (by omega) (by omega)) rfl (Nat.le_of_ble_eq_true rfl) (by omega) (fun r9 M6 h9 => ?_)
                                  obtain ⟨rfl, f6, g6, e6⟩ := h9
                                  show WP sc0 40 m_X8_replace 283 [vR 167, vI ((c : Nat) : Int), vI ((i : Nat) : Int), vI ((k2 : Nat) : Int), vR 169, vI ((261 * (p - 1) : Nat) : Int), vI ((b : Nat) : Int), vI (0 : Int), vI ((((b : Nat) : Int) - ((k2 : Nat) : Int)) + (1 : Int)), vI ((r : Nat) : Int), vI ((ce r c : Nat) : Int)] [] M6 (PM M (o_replace (mkS n k sz ce h hs im len tx) x y))
                                  refine WP.iinc (lt := [vR 167, vI ((c : Nat) : Int), vI ((i : Nat) : Int), vI ((k2 : Nat) : Int), vR 169, vI ((261 * (p - 1) : Nat) : Int), vI ((b : Nat) : Int), vI (0 : Int), vI ((((b : Nat) : Int) - ((k2 : Nat) : Int)) + (1 : Int)), vI (((r : Nat) : Int) + 1), vI ((ce r c : Nat) : Int)]) dX8_replace_283 rfl (by decide) rfl ?_
                                  refine WP.goto (tgt := 203) dX8_replace_286 (by decide) ?_
                                  refine WP.fgt (lt := [vR 167, vI ((c : Nat) : Int), vI ((i : Nat) : Int), vI ((k2 : Nat) : Int), vR 169, vI ((261 * (p - 1) : Nat) : Int), vI ((b : Nat) : Int), vI (0 : Int), vI ((((b : Nat) : Int) - ((k2 : Nat) : Int)) + (1 : Int)), vI (((r + 1) : Nat) : Int), vU]) ⟨Or.inr rfl, Or.inr rfl, Or.inr rfl, Or.inr rfl, Or.inr rfl, Or.inr rfl, Or.inr rfl, Or.inr rfl, Or.inr rfl, Or.inr (congrArg vI (by omega)), Or.inl rfl, trivial⟩ ?_
                                  exact ih203 (r + 1) (M6) (by omega) (fun a ha => (f6 a ha).trans (hF5 a ha)) (by rw [e6 _ (by omega)]; exact h05) (by rw [e6 _ (by omega)]; exact h15) (fun e he => by rw [e6 _ (by omega)]; exact hL5 e he) (fun r9 hr9 e he => by rw [e6 _ (by omega)]; exact hX5 r9 hr9 e he) (fun q hq => by
                                    by_cases e9 : q = r
                                    · rw [e9, hc9]; exact g6
                                    · rw [e6 _ (by omega)]; exact hY5 q (by omega)) (by omega)
                                · skip
                                  exact absurd rfl h239
                          refine WP.fgt (lt := [vR 167, vI ((c : Nat) : Int), vI ((i : Nat) : Int), vI ((k2 : Nat) : Int), vR 169, vI ((261 * (p - 1) : Nat) : Int), vI ((b : Nat) : Int), vI (0 : Int), vI ((((b : Nat) : Int) - ((k2 : Nat) : Int)) + (1 : Int)), vI ((0 : Nat) : Int), vU]) ⟨Or.inr rfl, Or.inr rfl, Or.inr rfl, Or.inr rfl, Or.inr rfl, Or.inr rfl, Or.inr rfl, Or.inr rfl, Or.inr rfl, Or.inr (congrArg vI (by omega)), Or.inl rfl, trivial⟩ ?_
                          exact L203 _ (0) (M4) (Nat.zero_le _) (fun a ha => (hO4 a ha).trans (hF3 a ha)) (by rw [hM4, mset_n (Or.inr (by omega))]; exact h03) (by rw [hM4, mset_n (Or.inr (by omega))]; exact h13) (fun e he => by
                            rw [hM4]
                            by_cases e9 : e = b
                            · rw [e9, mset_s, hl9]
                            · rw [mset_n (Or.inr (by omega))]; exact hL3 e (by omega)) (fun r9 hr9 e he => by rw [hM4, mset_n (Or.inr (by omega))]; exact hC3 r9 hr9 e he) (fun q hq => absurd hq (Nat.not_lt_zero q)) (Nat.lt_succ_self _)
                        · skip
                          exact absurd rfl h172
                      · skip
                        exfalso
                        omega
                    · skip
                      have hl9 : rpS sz sz2 c k2 b = sz2 (b - c) := (if_neg (by omega)).trans (if_pos (by omega))
                      have hc9 : ∀ r, rpC ce ce2 c k2 r b = ce2 (ce r c) (b - c) := fun r => (if_neg (by omega)).trans (if_pos (by omega))
                      refine WP.iconst dX8_replace_136 ?_
                      refine WP.goto (tgt := 141) dX8_replace_137 (by decide) ?_
                      refine WP.istore (lt := [vR 167, vI ((c : Nat) : Int), vI ((i : Nat) : Int), vI ((k2 : Nat) : Int), vR 169, vI ((261 * (p - 1) : Nat) : Int), vI ((b : Nat) : Int), vI (1 : Int), vU, vU, vU]) dX8_replace_141 (by decide) rfl ?_
                      refine WP.iload dX8_replace_143 rfl ?_
                      refine WP.iload_n dX8_replace_145 rfl ?_
                      refine WP.icmp_ge (tgt := 154) dX8_replace_146 (by decide) (by omega) (by omega) (fun h146 => ?_) (fun h146 => ?_)
                      · skip
                        refine WP.iload dX8_replace_154 rfl ?_
                        refine WP.iload_n dX8_replace_156 rfl ?_
                        refine WP.isub dX8_replace_157 ?_
                        refine WP.iconst dX8_replace_158 ?_
                        refine WP.iadd dX8_replace_159 ?_
                        refine WP.istore (lt := [vR 167, vI ((c : Nat) : Int), vI ((i : Nat) : Int), vI ((k2 : Nat) : Int), vR 169, vI ((261 * (p - 1) : Nat) : Int), vI ((b : Nat) : Int), vI (1 : Int), vI ((((b : Nat) : Int) - ((k2 : Nat) : Int)) + (1 : Int)), vU, vU]) dX8_replace_160 (by decide) rfl ?_
                        refine WP.aload_n dX8_replace_162 rfl ?_
                        refine WP.getR (y := 168) dX8_replace_163 fl_X8_7 (rfl) (by decide) (rfl) ?_
                        refine WP.iconst dX8_replace_166 ?_
                        refine WP.iload dX8_replace_167 rfl ?_
                        refine WP.iadd dX8_replace_169 ?_
                        refine WP.iload dX8_replace_170 rfl ?_
                        refine WP.if_eq (tgt := 189) dX8_replace_172 (by decide) (by omega) (fun h172 => ?_) (fun h172 => ?_)
                        · skip
                          exact absurd h172 (by decide)
                        · skip
                          refine WP.aload_n dX8_replace_175 rfl ?_
                          refine WP.iload_n dX8_replace_176 rfl ?_
                          refine WP.iconst dX8_replace_177 ?_
                          refine WP.iload dX8_replace_178 rfl ?_
                          refine WP.iadd dX8_replace_180 ?_
                          refine WP.iload_n dX8_replace_181 rfl ?_
                          refine WP.isub dX8_replace_182 ?_
                          refine WP.eqs (st' := [vI ((2 + (b - c) : Nat) : Int), vI ((i : Nat) : Int), vR 167, vI ((2 : Int) + ((b : Nat) : Int)), vR 168]) rfl (lc (congrArg vI (by omega)) (lc (rfl) (rfl))) ?_
                          refine WP.callVp (as := [vI ((i : Nat) : Int), vI ((2 + (b - c) : Nat) : Int)]) dX8_replace_183 mv_X8_101 rfl (rfl) (by decide) rfl rfl (w_ofImage (i := i) (j := 2 + (b - c)) (x := ((sz2 (b - c) : Nat) : Int)) (by omega) (by omega) (by rw [hF3 170 (by decide), hR1.1 170 (by decide) (by decide)]; exact hBX.2.2.1 (b - c) (by omega))) rfl (Nat.le_of_ble_eq_true rfl) (by omega) ?_
                          refine WP.goto (tgt := 199) dX8_replace_186 (by decide) ?_
                          refine WP.iastore (y := (2 + b)) dX8_replace_199 (rfl) (by omega) (by omega) rfl ?_
                          obtain ⟨M4, hM4⟩ : ∃ z, z = (mset M3 168 ((2 + b)) ((sz2 (b - c) : Nat) : Int)) := ⟨_, rfl⟩
                          refine WP.eqM hM4.symm ?_
                          have hO4 : ∀ a, a ≠ 168 → M4 a = M3 a := fun a ha => by rw [hM4]; exact mset_o a ha
                          refine WP.iconst dX8_replace_200 ?_
                          refine WP.istore (lt := [vR 167, vI ((c : Nat) : Int), vI ((i : Nat) : Int), vI ((k2 : Nat) : Int), vR 169, vI ((261 * (p - 1) : Nat) : Int), vI ((b : Nat) : Int), vI (1 : Int), vI ((((b : Nat) : Int) - ((k2 : Nat) : Int)) + (1 : Int)), vI (0 : Int), vU]) dX8_replace_201 (by decide) rfl ?_
                          have L203 : ∀ (n9 : Nat) (r : Nat) (M5 : Mem) (hr : r ≤ n) (hF5 : ∀ a, a ≠ 168 → M5 a = M1 a) (h05 : M5 168 0 = (n : Int)) (h15 : M5 168 1 = ((k - 1 + k2 : Nat) : Int)) (hL5 : ∀ e, e < b + 1 → M5 168 (2 + e) = ((rpS sz sz2 c k2 e : Nat) : Int)) (hX5 : ∀ r, r < n → ∀ e, e < b → M5 168 (9 + 7 * r + e) = ((rpC ce ce2 c k2 r e : Nat) : Int)) (hY5 : ∀ q, q < r → M5 168 (9 + 7 * q + b) = ((rpC ce ce2 c k2 q b : Nat) : Int)), n - r < n9 → WP sc0 40 m_X8_replace 203 [vR 167, vI ((c : Nat) : Int), vI ((i : Nat) : Int), vI ((k2 : Nat) : Int), vR 169, vI ((261 * (p - 1) : Nat) : Int), vI ((b : Nat) : Int), vI (1 : Int), vI ((((b : Nat) : Int) - ((k2 : Nat) : Int)) + (1 : Int)), vI ((r : Nat) : Int), vU] [] M5 (PM M (o_replace (mkS n k sz ce h hs im len tx) x y)) := by
                            intro n9
                            induction n9 with
                            | zero =>
                              intro r M5 hr hF5 h05 h15 hL5 hX5 hY5 hm9
                              exact absurd hm9 (Nat.not_lt_zero _)
                            | succ n9 ih203 =>
                              intro r M5 hr hF5 h05 h15 hL5 hX5 hY5 hm9
                              refine WP.iload dX8_replace_203 rfl ?_
                              refine WP.aload_n dX8_replace_205 rfl ?_
                              refine WP.getR (y := 168) dX8_replace_206 fl_X8_7 (rfl) (by decide) (rfl) ?_
                              refine WP.iconst dX8_replace_209 ?_
                              refine WP.iaload (y := 0) (x := ((n : Nat) : Int)) dX8_replace_210 (rfl) (by omega) (by omega) (h05) ?_
                              refine WP.icmp_ge (tgt := 289) dX8_replace_211 (by decide) (by omega) (by omega) (fun h211 => ?_) (fun h211 => ?_)
                              · skip
                                refine WP.iinc (lt := [vR 167, vI ((c : Nat) : Int), vI ((i : Nat) : Int), vI ((k2 : Nat) : Int), vR 169, vI ((261 * (p - 1) : Nat) : Int), vI (((b : Nat) : Int) + 1), vI (1 : Int), vI ((((b : Nat) : Int) - ((k2 : Nat) : Int)) + (1 : Int)), vI ((r : Nat) : Int), vU]) dX8_replace_289 rfl (by decide) rfl ?_
                                refine WP.goto (tgt := 111) dX8_replace_292 (by decide) ?_
                                refine WP.fgt (lt := [vR 167, vI ((c : Nat) : Int), vI ((i : Nat) : Int), vI ((k2 : Nat) : Int), vR 169, vI ((261 * (p - 1) : Nat) : Int), vI (((b + 1) : Nat) : Int), vU, vU, vU, vU]) ⟨Or.inr rfl, Or.inr rfl, Or.inr rfl, Or.inr rfl, Or.inr rfl, Or.inr rfl, Or.inr (congrArg vI (by omega)), Or.inl rfl, Or.inl rfl, Or.inl rfl, Or.inl rfl, trivial⟩ ?_
                                exact ih111 (b + 1) (M5) (by omega) (hF5) (h05) (h15) (hL5) (fun r9 hr9 e he => by
                                  by_cases e9 : e = b
                                  · rw [e9]; exact hY5 r9 (by omega)
                                  · exact hX5 r9 hr9 e (by omega)) (by omega)
                              · skip
                                have vc := hW.2.2.2 r (by omega) c (by omega)
                                refine WP.aload dX8_replace_214 rfl ?_
                                refine WP.iload dX8_replace_216 rfl ?_
                                refine WP.bipush dX8_replace_218 (by decide) ?_
                                refine WP.iadd dX8_replace_220 ?_
                                refine WP.bipush dX8_replace_221 (by decide) ?_
                                refine WP.iload dX8_replace_223 rfl ?_
                                refine WP.imul dX8_replace_225 ?_
                                refine WP.iadd dX8_replace_226 ?_
                                refine WP.iload_n dX8_replace_227 rfl ?_
                                refine WP.iadd dX8_replace_228 ?_
                                refine WP.iaload (y := (261 * (p - 1) + (9 + 7 * r + c))) (x := ((ce r c : Nat) : Int)) dX8_replace_229 (rfl) (by omega) (by omega) (by rw [hF5 169 (by decide)]; exact hpb1.2.2.2 r (by omega) c (by omega)) ?_
                                refine WP.istore (lt := [vR 167, vI ((c : Nat) : Int), vI ((i : Nat) : Int), vI ((k2 : Nat) : Int), vR 169, vI ((261 * (p - 1) : Nat) : Int), vI ((b : Nat) : Int), vI (1 : Int), vI ((((b : Nat) : Int) - ((k2 : Nat) : Int)) + (1 : Int)), vI ((r : Nat) : Int), vI ((ce r c : Nat) : Int)]) dX8_replace_230 (by decide) rfl ?_
                                refine WP.aload_n dX8_replace_232 rfl ?_
                                refine WP.iload dX8_replace_233 rfl ?_
                                refine WP.iload dX8_replace_235 rfl ?_
                                refine WP.iload dX8_replace_237 rfl ?_
                                refine WP.if_eq (tgt := 263) dX8_replace_239 (by decide) (by omega) (fun h239 => ?_) (fun h239 => ?_)
                                · skip
                                  exact absurd h239 (by decide)
                                · skip
                                  refine WP.aload_n dX8_replace_242 rfl ?_
                                  refine WP.iload_n dX8_replace_243 rfl ?_
                                  refine WP.bipush dX8_replace_244 (by decide) ?_
                                  refine WP.bipush dX8_replace_246 (by decide) ?_
                                  refine WP.iload dX8_replace_248 rfl ?_
                                  refine WP.imul dX8_replace_250 ?_
                                  refine WP.iadd dX8_replace_251 ?_
                                  refine WP.iload dX8_replace_252 rfl ?_
                                  refine WP.iadd dX8_replace_254 ?_
                                  refine WP.iload_n dX8_replace_255 rfl ?_
                                  refine WP.isub dX8_replace_256 ?_
                                  refine WP.eqs (st' := [vI ((9 + 7 * ce r c + (b - c) : Nat) : Int), vI ((i : Nat) : Int), vR 167, vI ((b : Nat) : Int), vI ((r : Nat) : Int), vR 167]) rfl (lc (congrArg vI (by omega)) (lc (rfl) (rfl))) ?_
                                  refine WP.callVp (as := [vI ((i : Nat) : Int), vI ((9 + 7 * ce r c + (b - c) : Nat) : Int)]) dX8_replace_257 mv_X8_101 rfl (rfl) (by decide) rfl rfl (w_ofImage (i := i) (j := 9 + 7 * ce r c + (b - c)) (x := ((ce2 (ce r c) (b - c) : Nat) : Int)) (by omega) (by omega) (by rw [hF5 170 (by decide), hR1.1 170 (by decide) (by decide)]; exact hBX.2.2.2 (ce r c) (by omega) (b - c) (by omega))) rfl (Nat.le_of_ble_eq_true rfl) (by omega) ?_
                                  refine WP.goto (tgt := 280) dX8_replace_260 (by decide) ?_
                                  refine WP.callV (as := [vI ((r : Nat) : Int), vI ((b : Nat) : Int), vI ((ce2 (ce r c) (b - c) : Nat) : Int)]) dX8_replace_280 mv_X8_58 rfl (rfl) (by decide) rfl rfl (w_set (r := r) (c := b) (by omega) (by omega)) rfl (Nat.le_of_ble_eq_true rfl) (by omega) (fun r9 M6 h9 => ?_)
                                  obtain ⟨rfl, f6, g6, e6⟩ := h9
                                  show WP sc0 40 m_X8_replace 283 [vR 167, vI ((c : Nat) : Int), vI ((i : Nat) : Int), vI ((k2 : Nat) : Int), vR 169, vI ((261 * (p - 1) : Nat) : Int), vI ((b : Nat) : Int), vI (1 : Int), vI ((((b : Nat) : Int) - ((k2 : Nat) : Int)) + (1 : Int)), vI ((r : Nat) : Int), vI ((ce r c : Nat) : Int)] [] M6 (PM M (o_replace (mkS n k sz ce h hs im len tx) x y))
                                  refine WP.iinc (lt := [vR 167, vI ((c : Nat) : Int), vI ((i : Nat) : Int), vI ((k2 : Nat) : Int), vR 169, vI ((261 * (p - 1) : Nat) : Int), vI ((b : Nat) : Int), vI (1 : Int), vI ((((b : Nat) : Int) - ((k2 : Nat) : Int)) + (1 : Int)), vI (((r : Nat) : Int) + 1), vI ((ce r c : Nat) : Int)]) dX8_replace_283 rfl (by decide) rfl ?_
                                  refine WP.goto (tgt := 203) dX8_replace_286 (by decide) ?_
                                  refine WP.fgt (lt := [vR 167, vI ((c : Nat) : Int), vI ((i : Nat) : Int), vI ((k2 : Nat) : Int), vR 169, vI ((261 * (p - 1) : Nat) : Int), vI ((b : Nat) : Int), vI (1 : Int), vI ((((b : Nat) : Int) - ((k2 : Nat) : Int)) + (1 : Int)), vI (((r + 1) : Nat) : Int), vU]) ⟨Or.inr rfl, Or.inr rfl, Or.inr rfl, Or.inr rfl, Or.inr rfl, Or.inr rfl, Or.inr rfl, Or.inr rfl, Or.inr rfl, Or.inr (congrArg vI (by omega)), Or.inl rfl, trivial⟩ ?_
                                  exact ih203 (r + 1) (M6) (by omega) (fun a ha => (f6 a ha).trans (hF5 a ha)) (by rw [e6 _ (by omega)]; exact h05) (by rw [e6 _ (by omega)]; exact h15) (fun e he => by rw [e6 _ (by omega)]; exact hL5 e he) (fun r9 hr9 e he => by rw [e6 _ (by omega)]; exact hX5 r9 hr9 e he) (fun q hq => by
                                    by_cases e9 : q = r
                                    · rw [e9, hc9]; exact g6
                                    · rw [e6 _ (by omega)]; exact hY5 q (by omega)) (by omega)
                          refine WP.fgt (lt := [vR 167, vI ((c : Nat) : Int), vI ((i : Nat) : Int), vI ((k2 : Nat) : Int), vR 169, vI ((261 * (p - 1) : Nat) : Int), vI ((b : Nat) : Int), vI (1 : Int), vI ((((b : Nat) : Int) - ((k2 : Nat) : Int)) + (1 : Int)), vI ((0 : Nat) : Int), vU]) ⟨Or.inr rfl, Or.inr rfl, Or.inr rfl, Or.inr rfl, Or.inr rfl, Or.inr rfl, Or.inr rfl, Or.inr rfl, Or.inr rfl, Or.inr (congrArg vI (by omega)), Or.inl rfl, trivial⟩ ?_
                          exact L203 _ (0) (M4) (Nat.zero_le _) (fun a ha => (hO4 a ha).trans (hF3 a ha)) (by rw [hM4, mset_n (Or.inr (by omega))]; exact h03) (by rw [hM4, mset_n (Or.inr (by omega))]; exact h13) (fun e he => by
                            rw [hM4]
                            by_cases e9 : e = b
                            · rw [e9, mset_s, hl9]
                            · rw [mset_n (Or.inr (by omega))]; exact hL3 e (by omega)) (fun r9 hr9 e he => by rw [hM4, mset_n (Or.inr (by omega))]; exact hC3 r9 hr9 e he) (fun q hq => absurd hq (Nat.not_lt_zero q)) (Nat.lt_succ_self _)
                      · skip
                        exfalso
                        omega
            refine WP.fgt (lt := [vR 167, vI ((c : Nat) : Int), vI ((i : Nat) : Int), vI ((k2 : Nat) : Int), vR 169, vI ((261 * (p - 1) : Nat) : Int), vI ((0 : Nat) : Int), vU, vU, vU, vU]) ⟨Or.inr rfl, Or.inr rfl, Or.inr rfl, Or.inr rfl, Or.inr rfl, Or.inr rfl, Or.inr (congrArg vI (by omega)), Or.inl rfl, Or.inl rfl, Or.inl rfl, Or.inl rfl, trivial⟩ ?_
            exact L111 _ (0) (M2) (Nat.zero_le _) (hO2) (by rw [hM2, mset_n (Or.inr (by decide))]; exact hA1.1) (by rw [hM2, mset_s]; omega) (fun e he => absurd he (Nat.not_lt_zero e)) (fun r _ e he => absurd he (Nat.not_lt_zero e)) (Nat.lt_succ_self _)
          · skip
            refine WP.bipush dX8_replace_67 (by decide) ?_
            refine WP.iret dX8_replace_69 rfl ?_
            exact PM.same (hrs.trans ((if_neg (show ¬ n2 ≠ sz c by omega)).trans (if_pos (show 7 < k - 1 + k2 by omega)))) hV
        · skip
          have hres : o_replace (mkS n k sz ce h hs im len tx) x y = (-2, (mkS n k sz ce h hs im len tx)) := hrs.trans (if_pos (show n2 ≠ sz c by omega))
          refine WP.bipush dX8_replace_42 (by decide) ?_
          refine WP.iret dX8_replace_44 rfl ?_
          exact PM.same (hres) hV
    · skip
      have q12 := bi_0 h12
      refine WP.iconst dX8_replace_15 ?_
      refine WP.iret dX8_replace_16 rfl ?_
      exact PM.same (cif_f (fun z => q12 z.2)) hV
