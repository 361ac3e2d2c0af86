def dgt (len : Nat) (tx : Nat → Nat) (p : Nat) : Int := if p < len then (tx p : Int) - 48 else -1
theorem dgt_r {len : Nat} {tx : Nat → Nat} {p : Nat} (h : ∀ j, j < len → 32 ≤ tx j ∧ tx j ≤ 126) : -16 ≤ dgt len tx p ∧ dgt len tx p ≤ 78 := by
  unfold dgt
  split
  · next e =>
    have := h p e
    omega
  · omega
theorem dgt_in {len : Nat} {tx : Nat → Nat} {p : Nat} {x y : Int} (hx : 0 ≤ x) : (x ≤ dgt len tx p ∧ dgt len tx p ≤ y) ↔ (p < len ∧ x + 48 ≤ (tx p : Int) ∧ (tx p : Int) ≤ y + 48) := by
  unfold dgt
  split
  · next e => exact ⟨fun z => ⟨e, by omega, by omega⟩, fun z => ⟨by omega, by omega⟩⟩
  · next e => exact ⟨fun z => by omega, fun z => absurd z.1 e⟩
theorem SM.fr {M M' : Mem} {len : Nat} {tx : Nat → Nat} (h : SM M len tx) (h0 : M' 167 = M 167) (h1 : M' 171 = M 171) : SM M' len tx := ⟨h.1, by rw [h0]; exact h.2.1, fun j hj => by rw [h1]; exact h.2.2 j hj⟩
set_option maxHeartbeats 4000000 in
set_option maxRecDepth 20000 in
theorem w_digitAt {M : Mem} {len p : Nat} {tx : Nat → Nat} (hS : SM M len tx) (hp : p < 1000) : CT 1 m_X8_digitAt [vR 167, vI ((p : Nat) : Int)] M (Rt (some (vI (dgt len tx p))) M) := by
  have hl3 := hS.1
  refine CT.ofWP (by decide +kernel) (Nat.le_of_ble_eq_true rfl) ?_
  show WP sc0 1 m_X8_digitAt 0 [vR 167, vI ((p : Nat) : Int)] [] M (Rt (some (vI (dgt len tx p))) M)
  refine WP.iload_n dX8_digitAt_0 rfl ?_
  refine WP.aload_n dX8_digitAt_1 rfl ?_
  refine WP.getI (x := ((len : Nat) : Int)) dX8_digitAt_2 fl_X8_112 (rfl) (by decide) (hS.2.1) ?_
  refine WP.icmp_ge (tgt := 20) dX8_digitAt_5 (by decide) (by omega) (by omega) (fun h5 => ?_) (fun h5 => ?_)
  · skip
    refine WP.iconst dX8_digitAt_20 ?_
    refine WP.iret dX8_digitAt_21 rfl ?_
    exact ⟨congrArg some (congrArg vI (if_neg (by omega)).symm), rfl⟩
  · skip
    refine WP.aload_n dX8_digitAt_8 rfl ?_
    refine WP.getR (y := 171) dX8_digitAt_9 fl_X8_19 (rfl) (by decide) (rfl) ?_
    refine WP.iload_n dX8_digitAt_12 rfl ?_
    refine WP.iaload (y := p) (x := ((tx p : Nat) : Int)) dX8_digitAt_13 (rfl) (by omega) (by omega) ((hS.2.2 p (by omega)).1) ?_
    refine WP.bipush dX8_digitAt_14 (by decide) ?_
    refine WP.isub dX8_digitAt_16 ?_
    refine WP.goto (tgt := 21) dX8_digitAt_17 (by decide) ?_
    refine WP.iret dX8_digitAt_21 rfl ?_
    exact ⟨congrArg some (congrArg vI (if_pos (by omega)).symm), rfl⟩
set_option maxHeartbeats 4000000 in
set_option maxRecDepth 20000 in
theorem w_parse {M : Mem} {len : Nat} {tx : Nat → Nat} (hS : SM M len tx) : CT 3 m_X8_parse [vR 167] M (fun z M' => z = some (vI (flt len tx)) ∧ (∀ a, a ≠ 172 → M' a = M a) ∧ (flt len tx = -9 → BX (M' 172) (ldA len tx).1 (ldA len tx).2.1 (ldA len tx).2.2.1 (ldA len tx).2.2.2)) := by
  have hl3 := hS.1
  have htx : ∀ j, j < len → 32 ≤ tx j ∧ tx j ≤ 126 := fun j hj => (hS.2.2 j hj).2
  refine CT.ofWP (by decide +kernel) (Nat.le_of_ble_eq_true rfl) ?_
  show WP sc0 3 m_X8_parse 0 [vR 167, vU, vU] [] M (fun z M' => z = some (vI (flt len tx)) ∧ (∀ a, a ≠ 172 → M' a = M a) ∧ (flt len tx = -9 → BX (M' 172) (ldA len tx).1 (ldA len tx).2.1 (ldA len tx).2.2.1 (ldA len tx).2.2.2))
  refine WP.iconst dX8_parse_0 ?_
  refine WP.istore_n (lt := [vR 167, vI (0 : Int), vU]) dX8_parse_1 (by decide) rfl ?_
  refine WP.aload_n dX8_parse_2 rfl ?_
  refine WP.getR (y := 172) dX8_parse_3 fl_X8_22 (rfl) (by decide) (rfl) ?_
  refine WP.iconst dX8_parse_6 ?_
  refine WP.iconst dX8_parse_7 ?_
  refine WP.iastore (y := 0) dX8_parse_8 (rfl) (by omega) (by omega) rfl ?_
  refine WP.aload_n dX8_parse_9 rfl ?_
  refine WP.getR (y := 172) dX8_parse_10 fl_X8_22 (rfl) (by decide) (rfl) ?_
  refine WP.iconst dX8_parse_13 ?_
  refine WP.iconst dX8_parse_14 ?_
  refine WP.iastore (y := 1) dX8_parse_15 (rfl) (by omega) (by omega) rfl ?_
  obtain ⟨M1, hM1⟩ : ∃ z, z = (mset (mset M 172 0 (0 : Int)) 172 1 (0 : Int)) := ⟨_, rfl⟩
  refine WP.eqM hM1.symm ?_
  have hO1 : ∀ a, a ≠ 172 → M1 a = M a := fun a ha => by rw [hM1, mset_o a ha, mset_o a ha]
  have h01 : M1 172 0 = 0 := by rw [hM1, mset_n (Or.inr (by decide)), mset_s]
  have L16 : ∀ (n9 : Nat) (i : Nat) (M2 : Mem) (hi : i ≤ 7 ∧ i ≤ len) (hF2 : ∀ a, a ≠ 172 → M2 a = M a) (h02 : M2 172 0 = 0) (hL2 : ∀ b, b < i → M2 172 (2 + b) = ((tx b - 48 : Nat) : Int) ∧ lvc (tx b)) (hh2 : hdF len tx (7 - i) i = hd0 len tx), 7 - i < n9 → WP sc0 3 m_X8_parse 16 [vR 167, vI ((i : Nat) : Int), vU] [] M2 (fun z M' => z = some (vI (flt len tx)) ∧ (∀ a, a ≠ 172 → M' a = M a) ∧ (flt len tx = -9 → BX (M' 172) (ldA len tx).1 (ldA len tx).2.1 (ldA len tx).2.2.1 (ldA len tx).2.2.2)) := by
    intro n9
    induction n9 with
    | zero =>
      intro i M2 hi hF2 h02 hL2 hh2 hm9
      exact absurd hm9 (Nat.not_lt_zero _)
    | succ n9 ih16 =>
      intro i M2 hi hF2 h02 hL2 hh2 hm9
      have hS2 : SM M2 len tx := hS.fr (hF2 _ (by decide)) (hF2 _ (by decide))
      have hdr := dgt_r (p := i) htx
      refine WP.iload_n dX8_parse_16 rfl ?_
      refine WP.bipush dX8_parse_17 (by decide) ?_
      refine WP.icmp_ge (tgt := 52) dX8_parse_19 (by decide) (by omega) (by omega) (fun h19 => ?_) (fun h19 => ?_)
      · skip
        have hi7 : i = 7 := by omega
        have hk0 : hd0 len tx = i := by rw [← hh2, hi7, hdF_7]
        refine WP.aload_n dX8_parse_52 rfl ?_
        refine WP.getR (y := 172) dX8_parse_53 fl_X8_22 (rfl) (by decide) (rfl) ?_
        refine WP.iconst dX8_parse_56 ?_
        refine WP.iload_n dX8_parse_57 rfl ?_
        refine WP.iastore (y := 1) dX8_parse_58 (rfl) (by omega) (by omega) rfl ?_
        obtain ⟨M4, hM4⟩ : ∃ z, z = (mset M2 172 1 ((i : Nat) : Int)) := ⟨_, rfl⟩
        refine WP.eqM hM4.symm ?_
        have hF4 : ∀ a, a ≠ 172 → M4 a = M a := fun a ha => by rw [hM4, mset_o a ha]; exact hF2 a ha
        have h04 : M4 172 0 = ((0 : Nat) : Int) := by rw [hM4, mset_n (Or.inr (by decide))]; exact h02
        have h14 : M4 172 1 = (i : Int) := by rw [hM4, mset_s]
        have hL4 : ∀ b, b < i → M4 172 (2 + b) = ((tx b - 48 : Nat) : Int) ∧ lvc (tx b) := fun b hb => by rw [hM4, mset_n (Or.inr (by omega))]; exact hL2 b hb
        refine WP.iload_n dX8_parse_59 rfl ?_
        refine WP.if_ne (tgt := 65) dX8_parse_60 (by decide) (by omega) (fun h60 => ?_) (fun h60 => ?_)
        · skip
          have hflt : flt len tx = fo len tx i 38 0 := by rw [flt, hk0]; exact cif_f (by omega)
          have L65 : ∀ (n9 : Nat) (row pos : Nat) (M5 : Mem) (hrow : row ≤ 36) (hpos : pos = i + row * (i + 1) ∧ pos ≤ len) (hF5 : ∀ a, a ≠ 172 → M5 a = M a) (h05 : M5 172 0 = (row : Int)) (h15 : M5 172 1 = (i : Int)) (hL5 : ∀ b, b < i → M5 172 (2 + b) = ((tx b - 48 : Nat) : Int) ∧ lvc (tx b)) (hC5 : ∀ r, r < row → ∀ c, c < i → M5 172 (9 + 7 * r + c) = ((tx (i + r * (i + 1) + 1 + c) - 48 : Nat) : Int)) (hfo : fo len tx i (38 - row) row = flt len tx), 37 - row < n9 → WP sc0 3 m_X8_parse 65 [vR 167, vI ((pos : Nat) : Int), vU] [] M5 (fun z M' => z = some (vI (flt len tx)) ∧ (∀ a, a ≠ 172 → M' a = M a) ∧ (flt len tx = -9 → BX (M' 172) (ldA len tx).1 (ldA len tx).2.1 (ldA len tx).2.2.1 (ldA len tx).2.2.2)) := by
            intro n9
            induction n9 with
            | zero =>
              intro row pos M5 hrow hpos hF5 h05 h15 hL5 hC5 hfo hm9
              exact absurd hm9 (Nat.not_lt_zero _)
            | succ n9 ih65 =>
              intro row pos M5 hrow hpos hF5 h05 h15 hL5 hC5 hfo hm9
              have hS5 : SM M5 len tx := hS.fr (hF5 _ (by decide)) (hF5 _ (by decide))
              refine WP.iload_n dX8_parse_65 rfl ?_
              refine WP.aload_n dX8_parse_66 rfl ?_
              refine WP.getI (x := ((len : Nat) : Int)) dX8_parse_67 fl_X8_112 (rfl) (by decide) (hS5.2.1) ?_
              refine WP.icmp_ge (tgt := 182) dX8_parse_70 (by decide) (by omega) (by omega) (fun h70 => ?_) (fun h70 => ?_)
              · skip
                refine WP.bipush dX8_parse_182 (by decide) ?_
                refine WP.iret dX8_parse_184 rfl ?_
                have hf9 : flt len tx = -9 := by rw [← hfo, show 38 - row = (37 - row) + 1 by omega, fo_end (by rw [← hpos.1]; omega)]
                refine ⟨congrArg some (congrArg vI hf9.symm), hF5, fun _ => ?_⟩
                have hrn : (len - i) / (i + 1) = row := by
                  rw [show len - i = row * (i + 1) by omega]
                  exact Nat.mul_div_cancel _ (by omega)
                unfold ldA
                rw [hk0]
                dsimp only
                rw [hrn]
                exact ⟨h05, h15, fun b hb => (hL5 b hb).1, hC5⟩
              · skip
                refine WP.aload_n dX8_parse_73 rfl ?_
                refine WP.getR (y := 171) dX8_parse_74 fl_X8_19 (rfl) (by decide) (rfl) ?_
                refine WP.iload_n dX8_parse_77 rfl ?_
                refine WP.iaload (y := pos) (x := ((tx pos : Nat) : Int)) dX8_parse_78 (rfl) (by omega) (by omega) ((hS5.2.2 pos (by omega)).1) ?_
                have htp := htx pos (by omega)
                refine WP.bipush dX8_parse_79 (by decide) ?_
                refine WP.icmp_ne (tgt := 95) dX8_parse_81 (by decide) (by omega) (by omega) (fun h81 => ?_) (fun h81 => ?_)
                · skip
                  refine WP.iload_n dX8_parse_95 rfl ?_
                  refine WP.iret dX8_parse_96 rfl ?_
                  refine ⟨congrArg some (congrArg vI ?_), hF5, fun z => ?_⟩
                  · rw [← hfo, show 38 - row = (37 - row) + 1 by omega, fo_sl (by rw [← hpos.1]; omega) (by rw [← hpos.1]; omega), ← hpos.1]
                  · rw [← hfo, show 38 - row = (37 - row) + 1 by omega, fo_sl (by rw [← hpos.1]; omega) (by rw [← hpos.1]; omega)] at z
                    omega
                · skip
                  refine WP.aload_n dX8_parse_84 rfl ?_
                  refine WP.getR (y := 172) dX8_parse_85 fl_X8_22 (rfl) (by decide) (rfl) ?_
                  refine WP.iconst dX8_parse_88 ?_
                  refine WP.iaload (y := 0) (x := ((row : Nat) : Int)) dX8_parse_89 (rfl) (by omega) (by omega) (h05) ?_
                  refine WP.bipush dX8_parse_90 (by decide) ?_
                  refine WP.icmp_ne (tgt := 97) dX8_parse_92 (by decide) (by omega) (by omega) (fun h92 => ?_) (fun h92 => ?_)
                  · skip
                    refine WP.iinc (lt := [vR 167, vI (((pos : Nat) : Int) + 1), vU]) dX8_parse_97 rfl (by decide) rfl ?_
                    refine WP.iconst dX8_parse_100 ?_
                    refine WP.istore_n (lt := [vR 167, vI (((pos : Nat) : Int) + 1), vI (0 : Int)]) dX8_parse_101 (by decide) rfl ?_
                    have L102 : ∀ (n9 : Nat) (c : Nat) (M6 : Mem) (hc : c ≤ i) (hF6 : ∀ a, a ≠ 172 → M6 a = M a) (hB6 : ∀ j, j < 9 + 7 * row → M6 172 j = M5 172 j) (hA6 : ∀ b, b < c → M6 172 (9 + 7 * row + b) = ((tx (pos + 1 + b) - 48 : Nat) : Int)) (hln : ∀ b, b < c → pos + 1 + b < len) (hrb : rb len tx (pos + 1) (i - c) c = rb len tx (pos + 1) i 0), i - c < n9 → WP sc0 3 m_X8_parse 102 [vR 167, vI ((pos + 1 + c : Nat) : Int), vI ((c : Nat) : Int)] [] M6 (fun z M' => z = some (vI (flt len tx)) ∧ (∀ a, a ≠ 172 → M' a = M a) ∧ (flt len tx = -9 → BX (M' 172) (ldA len tx).1 (ldA len tx).2.1 (ldA len tx).2.2.1 (ldA len tx).2.2.2)) := by
                      intro n9
                      induction n9 with
                      | zero =>
                        intro c M6 hc hF6 hB6 hA6 hln hrb hm9
                        exact absurd hm9 (Nat.not_lt_zero _)
                      | succ n9 ih102 =>
                        intro c M6 hc hF6 hB6 hA6 hln hrb hm9
                        have hS6 : SM M6 len tx := hS.fr (hF6 _ (by decide)) (hF6 _ (by decide))
                        have hdr := dgt_r (p := pos + 1 + c) htx
                        refine WP.iload_n dX8_parse_102 rfl ?_
                        refine WP.aload_n dX8_parse_103 rfl ?_
                        refine WP.getR (y := 172) dX8_parse_104 fl_X8_22 (rfl) (by decide) (rfl) ?_
                        refine WP.iconst dX8_parse_107 ?_
                        refine WP.iaload (y := 1) (x := ((i : Nat) : Int)) dX8_parse_108 (rfl) (by omega) (by omega) (by rw [hB6 1 (by omega)]; exact h15) ?_
                        refine WP.icmp_ge (tgt := 169) dX8_parse_109 (by decide) (by omega) (by omega) (fun h109 => ?_) (fun h109 => ?_)
                        · skip
                          have hci : c = i := by omega
                          have hrbk : rb len tx (pos + 1) i 0 = i := by rw [← hrb, hci, Nat.sub_self]; rfl
                          refine WP.aload_n dX8_parse_169 rfl ?_
                          refine WP.getR (y := 172) dX8_parse_170 fl_X8_22 (rfl) (by decide) (rfl) ?_
                          refine WP.iconst dX8_parse_173 ?_
                          refine WP.dup2 dX8_parse_174 rfl rfl ?_
                          refine WP.iaload (y := 0) (x := ((row : Nat) : Int)) dX8_parse_175 (rfl) (by omega) (by omega) (by rw [hB6 0 (by omega)]; exact h05) ?_
                          refine WP.iconst dX8_parse_176 ?_
                          refine WP.iadd dX8_parse_177 ?_
                          refine WP.iastore (y := 0) dX8_parse_178 (rfl) (by omega) (by omega) rfl ?_
                          obtain ⟨M8, hM8⟩ : ∃ z, z = (mset M6 172 0 (((row : Nat) : Int) + (1 : Int))) := ⟨_, rfl⟩
                          refine WP.eqM hM8.symm ?_
                          have hO8 : ∀ a, a ≠ 172 → M8 a = M6 a := fun a ha => by rw [hM8]; exact mset_o a ha
                          refine WP.goto (tgt := 65) dX8_parse_179 (by decide) ?_
                          refine WP.fgt (lt := [vR 167, vI (((pos + 1 + i) : Nat) : Int), vU]) ⟨Or.inr rfl, Or.inr (congrArg vI (by omega)), Or.inl rfl, trivial⟩ ?_
                          exact ih65 (row + 1) (pos + 1 + i) (M8) (by omega) (by
                            have := hpos.1
                            rw [Nat.succ_mul]
                            have h9 := hln (i - 1) (by omega)
                            omega) (fun a ha => (hO8 a ha).trans (hF6 a ha)) (by rw [hM8, mset_s]; omega) (by rw [hM8, mset_n (Or.inr (by omega)), hB6 1 (by omega)]; exact h15) (fun b hb => by rw [hM8, mset_n (Or.inr (by omega)), hB6 _ (by omega)]; exact hL5 b hb) (fun r hr b hb => by
                            rw [hM8, mset_n (Or.inr (by omega))]
                            by_cases e9 : r = row
                            · rw [e9, hA6 b (by omega), hpos.1]
                            · rw [hB6 _ (by omega)]; exact hC5 r (by omega) b hb) (by rw [← hfo, show 38 - row = (38 - (row + 1)) + 1 by omega, fo_on (by rw [← hpos.1]; omega) (by rw [← hpos.1]; omega) (by rw [← hpos.1]; omega)]) (by omega)
                        · skip
                          have hlc := hL5 c (by omega)
                          have hlc2 := hlc.2
                          unfold lvc at hlc2
                          refine WP.aload_n dX8_parse_112 rfl ?_
                          refine WP.iload_n dX8_parse_113 rfl ?_
                          refine WP.eqs (st' := [vI ((pos + 1 + c : Nat) : Int), vR 167]) rfl (lc (rfl) (rfl)) ?_
                          refine WP.callVp (as := [vI ((pos + 1 + c : Nat) : Int)]) dX8_parse_114 mv_X8_115 rfl (rfl) (by decide) rfl rfl (w_digitAt (p := pos + 1 + c) hS6 (by omega)) rfl (Nat.le_of_ble_eq_true rfl) (by omega) ?_
                          refine WP.iconst dX8_parse_117 ?_
                          refine WP.aload_n dX8_parse_118 rfl ?_
                          refine WP.getR (y := 172) dX8_parse_119 fl_X8_22 (rfl) (by decide) (rfl) ?_
                          refine WP.iconst dX8_parse_122 ?_
                          refine WP.iload_n dX8_parse_123 rfl ?_
                          refine WP.iadd dX8_parse_124 ?_
                          refine WP.iaload (y := (2 + c)) (x := ((tx c - 48 : Nat) : Int)) dX8_parse_125 (rfl) (by omega) (by omega) (by rw [hB6 _ (by omega)]; exact hlc.1) ?_
                          refine WP.iconst dX8_parse_126 ?_
                          refine WP.isub dX8_parse_127 ?_
                          refine WP.callSp (as := [vI (dgt len tx (pos + 1 + c)), vI (0 : Int), vI (((tx c - 48 : Nat) : Int) - (1 : Int))]) dX8_parse_128 ms_X8_43 rfl (w_isIn (by omega) (by omega) (by omega)) rfl (Nat.le_of_ble_eq_true rfl) (by omega) ?_
                          refine WP.if_ne (tgt := 136) dX8_parse_131 (by decide) (bi_rng) (fun h131 => ?_) (fun h131 => ?_)
                          · skip
                            have q132 := (dgt_in (by decide)).mp (bi_1 h131)
                            have q131 : pos + 1 + c < len ∧ 48 ≤ tx (pos + 1 + c) ∧ tx (pos + 1 + c) < tx c := ⟨q132.1, by omega, by omega⟩
                            refine WP.aload_n dX8_parse_136 rfl ?_
                            refine WP.getR (y := 172) dX8_parse_137 fl_X8_22 (rfl) (by decide) (rfl) ?_
                            refine WP.bipush dX8_parse_140 (by decide) ?_
                            refine WP.bipush dX8_parse_142 (by decide) ?_
                            refine WP.aload_n dX8_parse_144 rfl ?_
                            refine WP.getR (y := 172) dX8_parse_145 fl_X8_22 (rfl) (by decide) (rfl) ?_
                            refine WP.iconst dX8_parse_148 ?_
                            refine WP.iaload (y := 0) (x := ((row : Nat) : Int)) dX8_parse_149 (rfl) (by omega) (by omega) (by rw [hB6 0 (by omega)]; exact h05) ?_
                            refine WP.imul dX8_parse_150 ?_
                            refine WP.iadd dX8_parse_151 ?_
                            refine WP.iload_n dX8_parse_152 rfl ?_
                            refine WP.iadd dX8_parse_153 ?_
                            refine WP.aload_n dX8_parse_154 rfl ?_
                            refine WP.iload_n dX8_parse_155 rfl ?_
                            refine WP.eqs (st' := [vI ((pos + 1 + c : Nat) : Int), vR 167, vI (((9 : Int) + ((7 : Int) * ((row : Nat) : Int))) + ((c : Nat) : Int)), vR 172]) rfl (lc (rfl) (rfl)) ?_
                            refine WP.callVp (as := [vI ((pos + 1 + c : Nat) : Int)]) dX8_parse_156 mv_X8_115 rfl (rfl) (by decide) rfl rfl (w_digitAt (p := pos + 1 + c) hS6 (by omega)) rfl (Nat.le_of_ble_eq_true rfl) (by omega) ?_
                            refine WP.iastore (y := (9 + 7 * row + c)) dX8_parse_159 (rfl) (by omega) (by omega) rfl ?_
                            obtain ⟨M7, hM7⟩ : ∃ z, z = (mset M6 172 ((9 + 7 * row + c)) (dgt len tx (pos + 1 + c))) := ⟨_, rfl⟩
                            refine WP.eqM hM7.symm ?_
                            have hO7 : ∀ a, a ≠ 172 → M7 a = M6 a := fun a ha => by rw [hM7]; exact mset_o a ha
                            refine WP.iinc (lt := [vR 167, vI (((pos + 1 + c : Nat) : Int) + 1), vI ((c : Nat) : Int)]) dX8_parse_160 rfl (by decide) rfl ?_
                            refine WP.iinc (lt := [vR 167, vI (((pos + 1 + c : Nat) : Int) + 1), vI (((c : Nat) : Int) + 1)]) dX8_parse_163 rfl (by decide) rfl ?_
                            refine WP.goto (tgt := 102) dX8_parse_166 (by decide) ?_
                            refine WP.fgt (lt := [vR 167, vI ((pos + 1 + (c + 1) : Nat) : Int), vI (((c + 1) : Nat) : Int)]) ⟨Or.inr rfl, Or.inr (congrArg vI (by omega)), Or.inr (congrArg vI (by omega)), trivial⟩ ?_
                            exact ih102 (c + 1) (M7) (by omega) (fun a ha => (hO7 a ha).trans (hF6 a ha)) (fun j hj => by rw [hM7, mset_n (Or.inr (by omega))]; exact hB6 j hj) (fun b hb => by
                              rw [hM7]
                              by_cases e9 : b = c
                              · rw [e9, mset_s]; unfold dgt; rw [if_pos q131.1]; omega
                              · rw [mset_n (Or.inr (by omega))]; exact hA6 b (by omega)) (fun b hb => by
                              by_cases e9 : b = c
                              · rw [e9]; exact q131.1
                              · exact hln b (by omega)) (by rw [← hrb, show i - c = (i - (c + 1)) + 1 by omega, rb_t ⟨q131.1, q131.2.1, q131.2.2⟩]) (by omega)
                          · skip
                            have q131 : ¬ (pos + 1 + c < len ∧ 48 ≤ tx (pos + 1 + c) ∧ tx (pos + 1 + c) < tx c) := fun z => bi_0 h131 ((dgt_in (by decide)).mpr ⟨z.1, by omega, by omega⟩)
                            have hrbc : rb len tx (pos + 1) i 0 = c := by rw [← hrb, show i - c = (i - c - 1) + 1 by omega, rb_f q131]
                            refine WP.iload_n dX8_parse_134 rfl ?_
                            refine WP.iret dX8_parse_135 rfl ?_
                            refine ⟨congrArg some (congrArg vI ?_), hF6, fun z => ?_⟩
                            · rw [← hfo, show 38 - row = (37 - row) + 1 by omega, fo_row (by rw [← hpos.1]; omega) (by rw [← hpos.1]; omega) (by rw [← hpos.1, hrbc]; omega), ← hpos.1, hrbc]
                            · rw [← hfo, show 38 - row = (37 - row) + 1 by omega, fo_row (by rw [← hpos.1]; omega) (by rw [← hpos.1]; omega) (by rw [← hpos.1, hrbc]; omega)] at z
                              omega
                    refine WP.fgt (lt := [vR 167, vI ((pos + 1 + 0 : Nat) : Int), vI ((0 : Nat) : Int)]) ⟨Or.inr rfl, Or.inr (congrArg vI (by omega)), Or.inr (congrArg vI (by omega)), trivial⟩ ?_
                    exact L102 _ (0) (M5) (Nat.zero_le _) (hF5) (fun _ _ => rfl) (fun b hb => absurd hb (Nat.not_lt_zero b)) (fun b hb => absurd hb (Nat.not_lt_zero b)) (rfl) (Nat.lt_succ_self _)
                  · skip
                    refine WP.iload_n dX8_parse_95 rfl ?_
                    refine WP.iret dX8_parse_96 rfl ?_
                    refine ⟨congrArg some (congrArg vI ?_), hF5, fun z => ?_⟩
                    · rw [← hfo, show 38 - row = (37 - row) + 1 by omega, fo_sl (by rw [← hpos.1]; omega) (by rw [← hpos.1]; omega), ← hpos.1]
                    · rw [← hfo, show 38 - row = (37 - row) + 1 by omega, fo_sl (by rw [← hpos.1]; omega) (by rw [← hpos.1]; omega)] at z
                      omega
          exact L65 _ (0) (i) (M4) (by omega) (by omega) (hF4) (h04) (h14) (hL4) (fun r hr => absurd hr (Nat.not_lt_zero r)) (hflt.symm) (Nat.lt_succ_self _)
        · skip
          refine WP.iconst dX8_parse_63 ?_
          refine WP.iret dX8_parse_64 rfl ?_
          exact ⟨congrArg some (congrArg vI (cif_t (by omega)).symm), hF4, fun z => by rw [flt, cif_t (by omega)] at z; omega⟩
      · skip
        refine WP.aload_n dX8_parse_22 rfl ?_
        refine WP.iload_n dX8_parse_23 rfl ?_
        refine WP.callVp (as := [vI ((i : Nat) : Int)]) dX8_parse_24 mv_X8_115 rfl (rfl) (by decide) rfl rfl (w_digitAt (p := i) hS2 (by omega)) rfl (Nat.le_of_ble_eq_true rfl) (by omega) ?_
        refine WP.callSp (as := [vI (dgt len tx i)]) dX8_parse_27 ms_X8_54 rfl (w_isLevels (by omega)) rfl (Nat.le_of_ble_eq_true rfl) (by omega) ?_
        refine WP.if_eq (tgt := 52) dX8_parse_30 (by decide) (bi_rng) (fun h30 => ?_) (fun h30 => ?_)
        · skip
          have q30 : ¬ (i < len ∧ i < 7 ∧ lvc (tx i)) := fun z => bi_0 h30 ((dgt_in (by decide)).mpr ⟨z.1, by have := z.2.2; unfold lvc at this; omega, by have := z.2.2; unfold lvc at this; omega⟩)
          have hk0 : hd0 len tx = i := by rw [← hh2, show 7 - i = (6 - i) + 1 by omega, hdF_f q30]
          refine WP.aload_n dX8_parse_52 rfl ?_
          refine WP.getR (y := 172) dX8_parse_53 fl_X8_22 (rfl) (by decide) (rfl) ?_
          refine WP.iconst dX8_parse_56 ?_
          refine WP.iload_n dX8_parse_57 rfl ?_
          refine WP.iastore (y := 1) dX8_parse_58 (rfl) (by omega) (by omega) rfl ?_
          obtain ⟨M4, hM4⟩ : ∃ z, z = (mset M2 172 1 ((i : Nat) : Int)) := ⟨_, rfl⟩
          refine WP.eqM hM4.symm ?_
          have hF4 : ∀ a, a ≠ 172 → M4 a = M a := fun a ha => by rw [hM4, mset_o a ha]; exact hF2 a ha
          have h04 : M4 172 0 = ((0 : Nat) : Int) := by rw [hM4, mset_n (Or.inr (by decide))]; exact h02
          have h14 : M4 172 1 = (i : Int) := by rw [hM4, mset_s]
          have hL4 : ∀ b, b < i → M4 172 (2 + b) = ((tx b - 48 : Nat) : Int) ∧ lvc (tx b) := fun b hb => by rw [hM4, mset_n (Or.inr (by omega))]; exact hL2 b hb
          refine WP.iload_n dX8_parse_59 rfl ?_
          refine WP.if_ne (tgt := 65) dX8_parse_60 (by decide) (by omega) (fun h60 => ?_) (fun h60 => ?_)
          · skip
            have hflt : flt len tx = fo len tx i 38 0 := by rw [flt, hk0]; exact cif_f (by omega)
            have L65 : ∀ (n9 : Nat) (row pos : Nat) (M5 : Mem) (hrow : row ≤ 36) (hpos : pos = i + row * (i + 1) ∧ pos ≤ len) (hF5 : ∀ a, a ≠ 172 → M5 a = M a) (h05 : M5 172 0 = (row : Int)) (h15 : M5 172 1 = (i : Int)) (hL5 : ∀ b, b < i → M5 172 (2 + b) = ((tx b - 48 : Nat) : Int) ∧ lvc (tx b)) (hC5 : ∀ r, r < row → ∀ c, c < i → M5 172 (9 + 7 * r + c) = ((tx (i + r * (i + 1) + 1 + c) - 48 : Nat) : Int)) (hfo : fo len tx i (38 - row) row = flt len tx), 37 - row < n9 → WP sc0 3 m_X8_parse 65 [vR 167, vI ((pos : Nat) : Int), vU] [] M5 (fun z M' => z = some (vI (flt len tx)) ∧ (∀ a, a ≠ 172 → M' a = M a) ∧ (flt len tx = -9 → BX (M' 172) (ldA len tx).1 (ldA len tx).2.1 (ldA len tx).2.2.1 (ldA len tx).2.2.2)) := by
              intro n9
              induction n9 with
              | zero =>
                intro row pos M5 hrow hpos hF5 h05 h15 hL5 hC5 hfo hm9
                exact absurd hm9 (Nat.not_lt_zero _)
              | succ n9 ih65 =>
                intro row pos M5 hrow hpos hF5 h05 h15 hL5 hC5 hfo hm9
                have hS5 : SM M5 len tx := hS.fr (hF5 _ (by decide)) (hF5 _ (by decide))
                refine WP.iload_n dX8_parse_65 rfl ?_
                refine WP.aload_n dX8_parse_66 rfl ?_
                refine WP.getI (x := ((len : Nat) : Int)) dX8_parse_67 fl_X8_112 (rfl) (by decide) (hS5.2.1) ?_
                refine WP.icmp_ge (tgt := 182) dX8_parse_70 (by decide) (by omega) (by omega) (fun h70 => ?_) (fun h70 => ?_)
                · skip
                  refine WP.bipush dX8_parse_182 (by decide) ?_
                  refine WP.iret dX8_parse_184 rfl ?_
                  have hf9 : flt len tx = -9 := by rw [← hfo, show 38 - row = (37 - row) + 1 by omega, fo_end (by rw [← hpos.1]; omega)]
                  refine ⟨congrArg some (congrArg vI hf9.symm), hF5, fun _ => ?_⟩
                  have hrn : (len - i) / (i + 1) = row := by
                    rw [show len - i = row * (i + 1) by omega]
                    exact Nat.mul_div_cancel _ (by omega)
                  unfold ldA
                  rw [hk0]
                  dsimp only
                  rw [hrn]
                  exact ⟨h05, h15, fun b hb => (hL5 b hb).1, hC5⟩
                · skip
                  refine WP.aload_n dX8_parse_73 rfl ?_
                  refine WP.getR (y := 171) dX8_parse_74 fl_X8_19 (rfl) (by decide) (rfl) ?_
                  refine WP.iload_n dX8_parse_77 rfl ?_
                  refine WP.iaload (y := pos) (x := ((tx pos : Nat) : Int)) dX8_parse_78 (rfl) (by omega) (by omega) ((hS5.2.2 pos (by omega)).1) ?_
                  have htp := htx pos (by omega)
                  refine WP.bipush dX8_parse_79 (by decide) ?_
                  refine WP.icmp_ne (tgt := 95) dX8_parse_81 (by decide) (by omega) (by omega) (fun h81 => ?_) (fun h81 => ?_)
                  · skip
                    refine WP.iload_n dX8_parse_95 rfl ?_
                    refine WP.iret dX8_parse_96 rfl ?_
                    refine ⟨congrArg some (congrArg vI ?_), hF5, fun z => ?_⟩
                    · rw [← hfo, show 38 - row = (37 - row) + 1 by omega, fo_sl (by rw [← hpos.1]; omega) (by rw [← hpos.1]; omega), ← hpos.1]
                    · rw [← hfo, show 38 - row = (37 - row) + 1 by omega, fo_sl (by rw [← hpos.1]; omega) (by rw [← hpos.1]; omega)] at z
                      omega
                  · skip
                    refine WP.aload_n dX8_parse_84 rfl ?_
                    refine WP.getR (y := 172) dX8_parse_85 fl_X8_22 (rfl) (by decide) (rfl) ?_
                    refine WP.iconst dX8_parse_88 ?_
                    refine WP.iaload (y := 0) (x := ((row : Nat) : Int)) dX8_parse_89 (rfl) (by omega) (by omega) (h05) ?_
                    refine WP.bipush dX8_parse_90 (by decide) ?_
                    refine WP.icmp_ne (tgt := 97) dX8_parse_92 (by decide) (by omega) (by omega) (fun h92 => ?_) (fun h92 => ?_)
                    · skip
                      refine WP.iinc (lt := [vR 167, vI (((pos : Nat) : Int) + 1), vU]) dX8_parse_97 rfl (by decide) rfl ?_
                      refine WP.iconst dX8_parse_100 ?_
                      refine WP.istore_n (lt := [vR 167, vI (((pos : Nat) : Int) + 1), vI (0 : Int)]) dX8_parse_101 (by decide) rfl ?_
                      have L102 : ∀ (n9 : Nat) (c : Nat) (M6 : Mem) (hc : c ≤ i) (hF6 : ∀ a, a ≠ 172 → M6 a = M a) (hB6 : ∀ j, j < 9 + 7 * row → M6 172 j = M5 172 j) (hA6 : ∀ b, b < c → M6 172 (9 + 7 * row + b) = ((tx (pos + 1 + b) - 48 : Nat) : Int)) (hln : ∀ b, b < c → pos + 1 + b < len) (hrb : rb len tx (pos + 1) (i - c) c = rb len tx (pos + 1) i 0), i - c < n9 → WP sc0 3 m_X8_parse 102 [vR 167, vI ((pos + 1 + c : Nat) : Int), vI ((c : Nat) : Int)] [] M6 (fun z M' => z = some (vI (flt len tx)) ∧ (∀ a, a ≠ 172 → M' a = M a) ∧ (flt len tx = -9 → BX (M' 172) (ldA len tx).1 (ldA len tx).2.1 (ldA len tx).2.2.1 (ldA len tx).2.2.2)) := by
                        intro n9
                        induction n9 with
                        | zero =>
                          intro c M6 hc hF6 hB6 hA6 hln hrb hm9
                          exact absurd hm9 (Nat.not_lt_zero _)
                        | succ n9 ih102 =>
                          intro c M6 hc hF6 hB6 hA6 hln hrb hm9
                          have hS6 : SM M6 len tx := hS.fr (hF6 _ (by decide)) (hF6 _ (by decide))
                          have hdr := dgt_r (p := pos + 1 + c) htx
                          refine WP.iload_n dX8_parse_102 rfl ?_
                          refine WP.aload_n dX8_parse_103 rfl ?_
                          refine WP.getR (y := 172) dX8_parse_104 fl_X8_22 (rfl) (by decide) (rfl) ?_
                          refine WP.iconst dX8_parse_107 ?_
                          refine WP.iaload (y := 1) (x := ((i : Nat) : Int)) dX8_parse_108 (rfl) (by omega) (by omega) (by rw [hB6 1 (by omega)]; exact h15) ?_
                          refine WP.icmp_ge (tgt := 169) dX8_parse_109 (by decide) (by omega) (by omega) (fun h109 => ?_) (fun h109 => ?_)
                          · skip
                            have hci : c = i := by omega
                            have hrbk : rb len tx (pos + 1) i 0 = i := by rw [← hrb, hci, Nat.sub_self]; rfl
                            refine WP.aload_n dX8_parse_169 rfl ?_
                            refine WP.getR (y := 172) dX8_parse_170 fl_X8_22 (rfl) (by decide) (rfl) ?_
                            refine WP.iconst dX8_parse_173 ?_
                            refine WP.dup2 dX8_parse_174 rfl rfl ?_
                            refine WP.iaload (y := 0) (x := ((row : Nat) : Int)) dX8_parse_175 (rfl) (by omega) (by omega) (by rw [hB6 0 (by omega)]; exact h05) ?_
                            refine WP.iconst dX8_parse_176 ?_
                            refine WP.iadd dX8_parse_177 ?_
                            refine WP.iastore (y := 0) dX8_parse_178 (rfl) (by omega) (by omega) rfl ?_
                            obtain ⟨M8, hM8⟩ : ∃ z, z = (mset M6 172 0 (((row : Nat) : Int) + (1 : Int))) := ⟨_, rfl⟩
                            refine WP.eqM hM8.symm ?_
                            have hO8 : ∀ a, a ≠ 172 → M8 a = M6 a := fun a ha => by rw [hM8]; exact mset_o a ha
                            refine WP.goto (tgt := 65) dX8_parse_179 (by decide) ?_
                            refine WP.fgt (lt := [vR 167, vI (((pos + 1 + i) : Nat) : Int), vU]) ⟨Or.inr rfl, Or.inr (congrArg vI (by omega)), Or.inl rfl, trivial⟩ ?_
                            exact ih65 (row + 1) (pos + 1 + i) (M8) (by omega) (by
                              have := hpos.1
                              rw [Nat.succ_mul]
                              have h9 := hln (i - 1) (by omega)
                              omega) (fun a ha => (hO8 a ha).trans (hF6 a ha)) (by rw [hM8, mset_s]; omega) (by rw [hM8, mset_n (Or.inr (by omega)), hB6 1 (by omega)]; exact h15) (fun b hb => by rw [hM8, mset_n (Or.inr (by omega)), hB6 _ (by omega)]; exact hL5 b hb) (fun r hr b hb => by
                              rw [hM8, mset_n (Or.inr (by omega))]
                              by_cases e9 : r = row
                              · rw [e9, hA6 b (by omega), hpos.1]
                              · rw [hB6 _ (by omega)]; exact hC5 r (by omega) b hb) (by rw [← hfo, show 38 - row = (38 - (row + 1)) + 1 by omega, fo_on (by rw [← hpos.1]; omega) (by rw [← hpos.1]; omega) (by rw [← hpos.1]; omega)]) (by omega)
                          · skip
                            have hlc := hL5 c (by omega)
                            have hlc2 := hlc.2
                            unfold lvc at hlc2
                            refine WP.aload_n dX8_parse_112 rfl ?_
                            refine WP.iload_n dX8_parse_113 rfl ?_
                            refine WP.eqs (st' := [vI ((pos + 1 + c : Nat) : Int), vR 167]) rfl (lc (rfl) (rfl)) ?_
                            refine WP.callVp (as := [vI ((pos + 1 + c : Nat) : Int)]) dX8_parse_114 mv_X8_115 rfl (rfl) (by decide) rfl rfl (w_digitAt (p := pos + 1 + c) hS6 (by omega)) rfl (Nat.le_of_ble_eq_true rfl) (by omega) ?_
                            refine WP.iconst dX8_parse_117 ?_
                            refine WP.aload_n dX8_parse_118 rfl ?_
                            refine WP.getR (y := 172) dX8_parse_119 fl_X8_22 (rfl) (by decide) (rfl) ?_
                            refine WP.iconst dX8_parse_122 ?_
                            refine WP.iload_n dX8_parse_123 rfl ?_
                            refine WP.iadd dX8_parse_124 ?_
                            refine WP.iaload (y := (2 + c)) (x := ((tx c - 48 : Nat) : Int)) dX8_parse_125 (rfl) (by omega) (by omega) (by rw [hB6 _ (by omega)]; exact hlc.1) ?_
                            refine WP.iconst dX8_parse_126 ?_
                            refine WP.isub dX8_parse_127 ?_
                            refine WP.callSp (as := [vI (dgt len tx (pos + 1 + c)), vI (0 : Int), vI (((tx c - 48 : Nat) : Int) - (1 : Int))]) dX8_parse_128 ms_X8_43 rfl (w_isIn (by omega) (by omega) (by omega)) rfl (Nat.le_of_ble_eq_true rfl) (by omega) ?_
                            refine WP.if_ne (tgt := 136) dX8_parse_131 (by decide) (bi_rng) (fun h131 => ?_) (fun h131 => ?_)
                            · skip
                              have q132 := (dgt_in (by decide)).mp (bi_1 h131)
                              have q131 : pos + 1 + c < len ∧ 48 ≤ tx (pos + 1 + c) ∧ tx (pos + 1 + c) < tx c := ⟨q132.1, by omega, by omega⟩
                              refine WP.aload_n dX8_parse_136 rfl ?_
                              refine WP.getR (y := 172) dX8_parse_137 fl_X8_22 (rfl) (by decide) (rfl) ?_
                              refine WP.bipush dX8_parse_140 (by decide) ?_
                              refine WP.bipush dX8_parse_142 (by decide) ?_
                              refine WP.aload_n dX8_parse_144 rfl ?_
                              refine WP.getR (y := 172) dX8_parse_145 fl_X8_22 (rfl) (by decide) (rfl) ?_
                              refine WP.iconst dX8_parse_148 ?_
                              refine WP.iaload (y := 0) (x := ((row : Nat) : Int)) dX8_parse_149 (rfl) (by omega) (by omega) (by rw [hB6 0 (by omega)]; exact h05) ?_
                              refine WP.imul dX8_parse_150 ?_
                              refine WP.iadd dX8_parse_151 ?_
                              refine WP.iload_n dX8_parse_152 rfl ?_
                              refine WP.iadd dX8_parse_153 ?_
                              refine WP.aload_n dX8_parse_154 rfl ?_
                              refine WP.iload_n dX8_parse_155 rfl ?_
                              refine WP.eqs (st' := [vI ((pos + 1 + c : Nat) : Int), vR 167, vI (((9 : Int) + ((7 : Int) * ((row : Nat) : Int))) + ((c : Nat) : Int)), vR 172]) rfl (lc (rfl) (rfl)) ?_
                              refine WP.callVp (as := [vI ((pos + 1 + c : Nat) : Int)]) dX8_parse_156 mv_X8_115 rfl (rfl) (by decide) rfl rfl (w_digitAt (p := pos + 1 + c) hS6 (by omega)) rfl (Nat.le_of_ble_eq_true rfl) (by omega) ?_
                              refine WP.iastore (y := (9 + 7 * row + c)) dX8_parse_159 (rfl) (by omega) (by omega) rfl ?_
                              obtain ⟨M7, hM7⟩ : ∃ z, z = (mset M6 172 ((9 + 7 * row + c)) (dgt len tx (pos + 1 + c))) := ⟨_, rfl⟩
                              refine WP.eqM hM7.symm ?_
                              have hO7 : ∀ a, a ≠ 172 → M7 a = M6 a := fun a ha => by rw [hM7]; exact mset_o a ha
                              refine WP.iinc (lt := [vR 167, vI (((pos + 1 + c : Nat) : Int) + 1), vI ((c : Nat) : Int)]) dX8_parse_160 rfl (by decide) rfl ?_
                              refine WP.iinc (lt := [vR 167, vI (((pos + 1 + c : Nat) : Int) + 1), vI (((c : Nat) : Int) + 1)]) dX8_parse_163 rfl (by decide) rfl ?_
                              refine WP.goto (tgt := 102) dX8_parse_166 (by decide) ?_
                              refine WP.fgt (lt := [vR 167, vI ((pos + 1 + (c + 1) : Nat) : Int), vI (((c + 1) : Nat) : Int)]) ⟨Or.inr rfl, Or.inr (congrArg vI (by omega)), Or.inr (congrArg vI (by omega)), trivial⟩ ?_
                              exact ih102 (c + 1) (M7) (by omega) (fun a ha => (hO7 a ha).trans (hF6 a ha)) (fun j hj => by rw [hM7, mset_n (Or.inr (by omega))]; exact hB6 j hj) (fun b hb => by
                                rw [hM7]
                                by_cases e9 : b = c
                                · rw [e9, mset_s]; unfold dgt; rw [if_pos q131.1]; omega
                                · rw [mset_n (Or.inr (by omega))]; exact hA6 b (by omega)) (fun b hb => by
                                by_cases e9 : b = c
                                · rw [e9]; exact q131.1
                                · exact hln b (by omega)) (by rw [← hrb, show i - c = (i - (c + 1)) + 1 by omega, rb_t ⟨q131.1, q131.2.1, q131.2.2⟩]) (by omega)
                            · skip
                              have q131 : ¬ (pos + 1 + c < len ∧ 48 ≤ tx (pos + 1 + c) ∧ tx (pos + 1 + c) < tx c) := fun z => bi_0 h131 ((dgt_in (by decide)).mpr ⟨z.1, by omega, by omega⟩)
                              have hrbc : rb len tx (pos + 1) i 0 = c := by rw [← hrb, show i - c = (i - c - 1) + 1 by omega, rb_f q131]
                              refine WP.iload_n dX8_parse_134 rfl ?_
                              refine WP.iret dX8_parse_135 rfl ?_
                              refine ⟨congrArg some (congrArg vI ?_), hF6, fun z => ?_⟩
                              · rw [← hfo, show 38 - row = (37 - row) + 1 by omega, fo_row (by rw [← hpos.1]; omega) (by rw [← hpos.1]; omega) (by rw [← hpos.1, hrbc]; omega), ← hpos.1, hrbc]
                              · rw [← hfo, show 38 - row = (37 - row) + 1 by omega, fo_row (by rw [← hpos.1]; omega) (by rw [← hpos.1]; omega) (by rw [← hpos.1, hrbc]; omega)] at z
                                omega
                      refine WP.fgt (lt := [vR 167, vI ((pos + 1 + 0 : Nat) : Int), vI ((0 : Nat) : Int)]) ⟨Or.inr rfl, Or.inr (congrArg vI (by omega)), Or.inr (congrArg vI (by omega)), trivial⟩ ?_
                      exact L102 _ (0) (M5) (Nat.zero_le _) (hF5) (fun _ _ => rfl) (fun b hb => absurd hb (Nat.not_lt_zero b)) (fun b hb => absurd hb (Nat.not_lt_zero b)) (rfl) (Nat.lt_succ_self _)
                    · skip
                      refine WP.iload_n dX8_parse_95 rfl ?_
                      refine WP.iret dX8_parse_96 rfl ?_
                      refine ⟨congrArg some (congrArg vI ?_), hF5, fun z => ?_⟩
                      · rw [← hfo, show 38 - row = (37 - row) + 1 by omega, fo_sl (by rw [← hpos.1]; omega) (by rw [← hpos.1]; omega), ← hpos.1]
                      · rw [← hfo, show 38 - row = (37 - row) + 1 by omega, fo_sl (by rw [← hpos.1]; omega) (by rw [← hpos.1]; omega)] at z
                        omega
            exact L65 _ (0) (i) (M4) (by omega) (by omega) (hF4) (h04) (h14) (hL4) (fun r hr => absurd hr (Nat.not_lt_zero r)) (hflt.symm) (Nat.lt_succ_self _)
          · skip
            refine WP.iconst dX8_parse_63 ?_
            refine WP.iret dX8_parse_64 rfl ?_
            exact ⟨congrArg some (congrArg vI (cif_t (by omega)).symm), hF4, fun z => by rw [flt, cif_t (by omega)] at z; omega⟩
        · skip
          have q31 := (dgt_in (by decide)).mp (bi_1 h30)
          have q30 : i < len ∧ lvc (tx i) := ⟨q31.1, by unfold lvc; omega⟩
          refine WP.aload_n dX8_parse_33 rfl ?_
          refine WP.getR (y := 172) dX8_parse_34 fl_X8_22 (rfl) (by decide) (rfl) ?_
          refine WP.iconst dX8_parse_37 ?_
          refine WP.iload_n dX8_parse_38 rfl ?_
          refine WP.iadd dX8_parse_39 ?_
          refine WP.aload_n dX8_parse_40 rfl ?_
          refine WP.iload_n dX8_parse_41 rfl ?_
          refine WP.callVp (as := [vI ((i : Nat) : Int)]) dX8_parse_42 mv_X8_115 rfl (rfl) (by decide) rfl rfl (w_digitAt (p := i) hS2 (by omega)) rfl (Nat.le_of_ble_eq_true rfl) (by omega) ?_
          refine WP.iastore (y := (2 + i)) dX8_parse_45 (rfl) (by omega) (by omega) rfl ?_
          obtain ⟨M3, hM3⟩ : ∃ z, z = (mset M2 172 ((2 + i)) (dgt len tx i)) := ⟨_, rfl⟩
          refine WP.eqM hM3.symm ?_
          have hO3 : ∀ a, a ≠ 172 → M3 a = M2 a := fun a ha => by rw [hM3]; exact mset_o a ha
          refine WP.iinc (lt := [vR 167, vI (((i : Nat) : Int) + 1), vU]) dX8_parse_46 rfl (by decide) rfl ?_
          refine WP.goto (tgt := 16) dX8_parse_49 (by decide) ?_
          refine WP.fgt (lt := [vR 167, vI (((i + 1) : Nat) : Int), vU]) ⟨Or.inr rfl, Or.inr (congrArg vI (by omega)), Or.inl rfl, trivial⟩ ?_
          exact ih16 (i + 1) (M3) (by omega) (fun a ha => by rw [hO3 a ha]; exact hF2 a ha) (by rw [hM3, mset_n (Or.inr (by omega))]; exact h02) (fun b hb => by
            rw [hM3]
            by_cases e9 : b = i
            · rw [e9, mset_s]
              refine ⟨?_, q30.2⟩
              have q9 := q30.2
              unfold lvc at q9
              unfold dgt
              rw [if_pos q30.1]
              omega
            · rw [mset_n (Or.inr (by omega))]; exact hL2 b (by omega)) (by rw [← hh2, show 7 - i = (7 - (i + 1)) + 1 by omega, hdF_t ⟨q30.1, by omega, q30.2⟩]) (by omega)
  refine WP.fgt (lt := [vR 167, vI ((0 : Nat) : Int), vU]) ⟨Or.inr rfl, Or.inr (congrArg vI (by omega)), Or.inl rfl, trivial⟩ ?_
  exact L16 _ (0) (M1) (by omega) (hO1) (h01) (fun b hb => absurd hb (Nat.not_lt_zero b)) (rfl) (Nat.lt_succ_self _)
set_option maxHeartbeats 4000000 in
set_option maxRecDepth 20000 in
theorem y_fault {M : Mem} {n k h len : Nat} {sz tx : Nat → Nat} {ce : Nat → Nat → Nat} {hs : Nat → AR} {im : Nat → Option AR} (hV : InvM M (mkS n k sz ce h hs im len tx))  : CT 40 m_X8_fault [vR 167] M (PM M (o_fault (mkS n k sz ce h hs im len tx) )) := by
  have hA : BX (M 168) n k sz ce := hV.1.1
  have hW : Wf n k sz ce := hV.1.2
  have hH : HM M h hs := hV.2.1
  have hIM : IMm M im := hV.2.2.1
  have hS : SM M len tx := hV.2.2.2
  have b1 := hW.1
  have b2 := hW.2.1
  have hh8 := hH.1
  have hl3 := hS.1
  refine CT.ofWP (by decide +kernel) (Nat.le_of_ble_eq_true rfl) ?_
  show WP sc0 40 m_X8_fault 0 [vR 167] [] M (PM M (o_fault (mkS n k sz ce h hs im len tx) ))
  refine WP.aload_n dX8_fault_0 rfl ?_
  refine WP.callV (as := []) dX8_fault_1 mv_X8_119 rfl (rfl) (by decide) rfl rfl (w_parse hS) rfl (Nat.le_of_ble_eq_true rfl) (by omega) (fun r9 M1 h9 => ?_)
  obtain ⟨rfl, f1, g1⟩ := h9
  show WP sc0 40 m_X8_fault 4 [vR 167] [vI (flt len tx)] M1 (PM M (o_fault (mkS n k sz ce h hs im len tx) ))
  refine WP.iret dX8_fault_4 rfl ?_
  exact PM.cs (rfl) hV (fun a ha _ => f1 a (by omega)) (fun j _ _ => by rw [f1 167 (by decide)])
set_option maxHeartbeats 4000000 in
set_option maxRecDepth 20000 in
theorem y_load {M : Mem} {n k h len : Nat} {sz tx : Nat → Nat} {ce : Nat → Nat → Nat} {hs : Nat → AR} {im : Nat → Option AR} (hV : InvM M (mkS n k sz ce h hs im len tx))  : CT 40 m_X8_load [vR 167] M (PM M (o_load (mkS n k sz ce h hs im len tx) )) := by
  have hA : BX (M 168) n k sz ce := hV.1.1
  have hW : Wf n k sz ce := hV.1.2
  have hH : HM M h hs := hV.2.1
  have hIM : IMm M im := hV.2.2.1
  have hS : SM M len tx := hV.2.2.2
  have b1 := hW.1
  have b2 := hW.2.1
  have hh8 := hH.1
  have hl3 := hS.1
  refine CT.ofWP (by decide +kernel) (Nat.le_of_ble_eq_true rfl) ?_
  show WP sc0 40 m_X8_load 0 [vR 167, vU] [] M (PM M (o_load (mkS n k sz ce h hs im len tx) ))
  refine WP.aload_n dX8_load_0 rfl ?_
  refine WP.callV (as := []) dX8_load_1 mv_X8_119 rfl (rfl) (by decide) rfl rfl (w_parse hS) rfl (Nat.le_of_ble_eq_true rfl) (by omega) (fun r9 M1 h9 => ?_)
  obtain ⟨rfl, f1, g1⟩ := h9
  have hV1 : InvM M1 (mkS n k sz ce h hs im len tx) := hV.cs (fun a i1 i2 => f1 a (by omega)) (fun j _ _ => by rw [f1 167 (by decide)])
  show WP sc0 40 m_X8_load 4 [vR 167, vU] [vI (flt len tx)] M1 (PM M (o_load (mkS n k sz ce h hs im len tx) ))
  refine WP.bipush dX8_load_4 (by decide) ?_
  refine WP.icmp_eq (tgt := 12) dX8_load_6 (by decide) (flt_rng hl3) (by omega) (fun h6 => ?_) (fun h6 => ?_)
  · skip
    refine WP.aload_n dX8_load_12 rfl ?_
    refine WP.callV (as := []) dX8_load_13 mv_X8_51 rfl (rfl) (by decide) rfl rfl (w_remember (A := (n, k, sz, ce)) hV1.2.1 hV1.1) rfl (Nat.le_of_ble_eq_true rfl) (by omega) (fun r9 M2 h9 => ?_)
    obtain ⟨rfl, hR2⟩ := h9
    show WP sc0 40 m_X8_load 16 [vR 167, vU] [] M2 (PM M (o_load (mkS n k sz ce h hs im len tx) ))
    refine WP.iconst dX8_load_16 ?_
    refine WP.istore_n (lt := [vR 167, vI (0 : Int)]) dX8_load_17 (by decide) rfl ?_
    have L18 : ∀ (n9 : Nat) (j : Nat) (M3 : Mem) (hj : j ≤ 261) (hF3 : ∀ a, a ≠ 168 → M3 a = M2 a) (hA3 : ∀ q, q < j → M3 168 q = M1 172 q), 261 - j < n9 → WP sc0 40 m_X8_load 18 [vR 167, vI ((j : Nat) : Int)] [] M3 (PM M (o_load (mkS n k sz ce h hs im len tx) )) := by
      intro n9
      induction n9 with
      | zero =>
        intro j M3 hj hF3 hA3 hm9
        exact absurd hm9 (Nat.not_lt_zero _)
      | succ n9 ih18 =>
        intro j M3 hj hF3 hA3 hm9
        refine WP.iload_n dX8_load_18 rfl ?_
        refine WP.sipush dX8_load_19 (by decide) ?_
        refine WP.icmp_ge (tgt := 43) dX8_load_22 (by decide) (by omega) (by omega) (fun h22 => ?_) (fun h22 => ?_)
        · skip
          have hok := ldA_ok h6
          have hB3 : BX (M3 168) (ldA len tx).1 (ldA len tx).2.1 (ldA len tx).2.2.1 (ldA len tx).2.2.2 := (g1 h6).mv hok.2.2.2.1 hok.2.2.2.2.1 (fun q hq => hA3 q (by omega))
          refine WP.aload_n dX8_load_43 rfl ?_
          refine WP.getR (y := 168) dX8_load_44 fl_X8_7 (rfl) (by decide) (rfl) ?_
          refine WP.iconst dX8_load_47 ?_
          refine WP.iaload (y := 0) (x := (((ldA len tx).1 : Nat) : Int)) dX8_load_48 (rfl) (by omega) (by omega) (hB3.1) ?_
          refine WP.iret dX8_load_49 rfl ?_
          have hp := PM.ch (A' := ldA len tx) (q := o_load (mkS n k sz ce h hs im len tx)) (cif_t h6) hV1 hR2 hF3 hB3 hok.2.2.2
          exact ⟨hp.1, hp.2.1, fun a ha => by rw [hp.2.2 a ha, f1 a (by omega)]⟩
        · skip
          refine WP.aload_n dX8_load_25 rfl ?_
          refine WP.getR (y := 168) dX8_load_26 fl_X8_7 (rfl) (by decide) (rfl) ?_
          refine WP.iload_n dX8_load_29 rfl ?_
          refine WP.aload_n dX8_load_30 rfl ?_
          refine WP.getR (y := 172) dX8_load_31 fl_X8_22 (rfl) (by decide) (rfl) ?_
          refine WP.iload_n dX8_load_34 rfl ?_
          refine WP.iaload (y := j) (x := (M1 172 j)) dX8_load_35 (rfl) (by omega) (by omega) (by rw [hF3 172 (by decide), hR2.1 172 (by decide) (by decide)]) ?_
          refine WP.iastore (y := j) dX8_load_36 (rfl) (by omega) (by omega) rfl ?_
          obtain ⟨M4, hM4⟩ : ∃ z, z = (mset M3 168 j (M1 172 j)) := ⟨_, rfl⟩
          refine WP.eqM hM4.symm ?_
          have hO4 : ∀ a, a ≠ 168 → M4 a = M3 a := fun a ha => by rw [hM4]; exact mset_o a ha
          refine WP.iinc (lt := [vR 167, vI (((j : Nat) : Int) + 1)]) dX8_load_37 rfl (by decide) rfl ?_
          refine WP.goto (tgt := 18) dX8_load_40 (by decide) ?_
          refine WP.fgt (lt := [vR 167, vI (((j + 1) : Nat) : Int)]) ⟨Or.inr rfl, Or.inr (congrArg vI (by omega)), trivial⟩ ?_
          exact ih18 (j + 1) (M4) (by omega) (fun a ha => (hO4 a ha).trans (hF3 a ha)) (fun q hq => by
            rw [hM4]
            by_cases e9 : q = j
            · rw [e9, mset_s]
            · rw [mset_n (Or.inr e9)]; exact hA3 q (by omega)) (by omega)
    refine WP.fgt (lt := [vR 167, vI ((0 : Nat) : Int)]) ⟨Or.inr rfl, Or.inr (congrArg vI (by omega)), trivial⟩ ?_
    exact L18 _ (0) (M2) (by omega) (fun _ _ => rfl) (fun q hq => absurd hq (Nat.not_lt_zero q)) (Nat.lt_succ_self _)
  · skip
    refine WP.bipush dX8_load_9 (by decide) ?_
    refine WP.iret dX8_load_11 rfl ?_
    exact PM.cs (cif_f h6) hV (fun a ha _ => f1 a (by omega)) (fun j _ _ => by rw [f1 167 (by decide)])
