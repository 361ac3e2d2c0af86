def cC (v : Int) (sh : Int) (w : Nat) : Int := if w = 0 then 0 else lw (shI v sh) (w : Int)
theorem cC_rng {v sh : Int} {w : Nat} (h : w ≤ 36) : 0 ≤ cC v sh w ∧ cC v sh w < 36 := by
  unfold cC
  by_cases e : w = 0
  · rw [if_pos e]; omega
  · rw [if_neg e]
    have := lw_rng (v := shI v sh) (n := (w : Int)) (by omega)
    omega
theorem cC_0 {v sh : Int} {w : Nat} (h : (w : Int) = 0) : (0 : Int) = cC v sh w := by
  unfold cC
  rw [if_pos (by omega)]
theorem cC_1 {v sh : Int} {w : Nat} (h : (w : Int) ≠ 0) : lw (shI v sh) (w : Int) = cC v sh w := by
  unfold cC
  rw [if_neg (by omega)]
noncomputable def o_change (S : ST) (v m : Int) : Int × ST :=
  if lw v 16 = 0 then (if lw m 4 = 0 then o_begin S (lw (shI m 3) 17) else o_undo S)
  else if lw v 16 = 1 then o_addColumn S (2 + lw m 3)
  else if lw v 16 = 2 then (if lw m 3 = 0 then o_dropColumn S (cC v 4 S.1.2.1) else (-1, S))
  else if lw v 16 = 3 then o_put S (cC v 10 S.1.1) (cC v 4 S.1.2.1) (lw m 4)
  else if lw v 16 = 4 then o_put S (cC v 10 S.1.1) (cC v 4 S.1.2.1) (lw m 4)
  else if lw v 16 = 5 then o_dropRow S (cC v 10 S.1.1)
  else if lw v 16 = 6 then (if lw m 2 = 0 then o_dropCopies S else o_sort S)
  else if lw v 16 = 7 then o_factorial S (22 + 10 * lw m 2 + lw (shI m 2) 3)
  else if lw v 16 = 8 then o_factorial S 222
  else if lw v 16 = 9 then o_addSum S (cC v 4 S.1.2.1) (lw m 6) (cC v 7 S.1.2.1) (lw (shI m 4) 6)
  else if lw v 16 = 10 then o_addSum S (cC v 4 S.1.2.1) 1 (cC v 7 S.1.2.1) 1
  else if lw v 16 = 11 then o_develop S
  else if lw v 16 = 12 then o_keep S (lw m 2)
  else if lw v 16 = 13 then (if lw m 3 = 0 then o_back S (lw (shI m 2) 2) else o_replace S (cC v 4 S.1.2.1) (lw (shI m 2) 2))
  else if lw v 16 = 14 then o_extend S (2 + lw m 2)
  else o_undo S
theorem PX.of {M M1 : Mem} {p q : Int × ST} {x : Int} (hx : x = q.1) (hq : p = q) (hA : AT M q.2 M1) : PX M p (some (vI x)) M1 := by
  subst hq; subst hx
  exact ⟨rfl, hA⟩
set_option maxHeartbeats 4000000 in
set_option maxRecDepth 20000 in
theorem c_L_change {M : Mem} {S : ST} {v m : Int} (hX : InvX M S) : CT 41 m_L_change [vR 42, vI v, vI m] M (PX M (o_change S v m)) := by
  have hA := AT.start hX
  have b1 := hX.1.2.1
  have b2 := hX.1.2.2.1
  refine CT.ofWP (by decide +kernel) (Nat.le_of_ble_eq_true rfl) ?_
  show WP sc0 41 m_L_change 0 [vR 42, vI v, vI m, vU, vU, vU, vU, vU] [] M (PX M (o_change S v m))
  refine WP.aload_n dL_change_0 rfl ?_
  refine WP.iconst dL_change_1 ?_
  refine WP.callV (as := [vI (0 : Int)]) dL_change_2 mv_L_9 rfl (rfl) (by decide) rfl rfl (z_told0 hA) rfl (Nat.le_of_ble_eq_true rfl) (by omega) (fun r9 M1 h9 => ?_)
  obtain ⟨rfl, hA1⟩ := h9
  show WP sc0 41 m_L_change 5 [vR 42, vI v, vI m, vU, vU, vU, vU, vU] [vI ((S.1.1 : Nat) : Int)] M1 (PX M (o_change S v m))
  refine WP.istore_n (lt := [vR 42, vI v, vI m, vI ((S.1.1 : Nat) : Int), vU, vU, vU, vU]) dL_change_5 (by decide) rfl ?_
  refine WP.aload_n dL_change_6 rfl ?_
  refine WP.iconst dL_change_7 ?_
  refine WP.callV (as := [vI (1 : Int)]) dL_change_8 mv_L_9 rfl (rfl) (by decide) rfl rfl (z_told1 hA1) rfl (Nat.le_of_ble_eq_true rfl) (by omega) (fun r9 M2 h9 => ?_)
  obtain ⟨rfl, hA2⟩ := h9
  show WP sc0 41 m_L_change 11 [vR 42, vI v, vI m, vI ((S.1.1 : Nat) : Int), vU, vU, vU, vU] [vI ((S.1.2.1 : Nat) : Int)] M2 (PX M (o_change S v m))
  refine WP.istore (lt := [vR 42, vI v, vI m, vI ((S.1.1 : Nat) : Int), vI ((S.1.2.1 : Nat) : Int), vU, vU, vU]) dL_change_11 (by decide) rfl ?_
  have J30 : WP sc0 41 m_L_change 30 [vR 42, vI v, vI m, vI ((S.1.1 : Nat) : Int), vI ((S.1.2.1 : Nat) : Int), vU, vU, vU] [vI (cC v 4 S.1.2.1)] M2 (PX M (o_change S v m)) := by
    refine WP.istore (lt := [vR 42, vI v, vI m, vI ((S.1.1 : Nat) : Int), vI ((S.1.2.1 : Nat) : Int), vI (cC v 4 S.1.2.1), vU, vU]) dL_change_30 (by decide) rfl ?_
    have J50 : WP sc0 41 m_L_change 50 [vR 42, vI v, vI m, vI ((S.1.1 : Nat) : Int), vI ((S.1.2.1 : Nat) : Int), vI (cC v 4 S.1.2.1), vU, vU] [vI (cC v 7 S.1.2.1)] M2 (PX M (o_change S v m)) := by
      refine WP.istore (lt := [vR 42, vI v, vI m, vI ((S.1.1 : Nat) : Int), vI ((S.1.2.1 : Nat) : Int), vI (cC v 4 S.1.2.1), vI (cC v 7 S.1.2.1), vU]) dL_change_50 (by decide) rfl ?_
      have J68 : WP sc0 41 m_L_change 68 [vR 42, vI v, vI m, vI ((S.1.1 : Nat) : Int), vI ((S.1.2.1 : Nat) : Int), vI (cC v 4 S.1.2.1), vI (cC v 7 S.1.2.1), vU] [vI (cC v 10 S.1.1)] M2 (PX M (o_change S v m)) := by
        refine WP.istore (lt := [vR 42, vI v, vI m, vI ((S.1.1 : Nat) : Int), vI ((S.1.2.1 : Nat) : Int), vI (cC v 4 S.1.2.1), vI (cC v 7 S.1.2.1), vI (cC v 10 S.1.1)]) dL_change_68 (by decide) rfl ?_
        have r1 := cC_rng (v := v) (sh := 4) (w := S.1.2.1) (by omega)
        have r2 := cC_rng (v := v) (sh := 7) (w := S.1.2.1) (by omega)
        have r3 := cC_rng (v := v) (sh := 10) (w := S.1.1) (by omega)
        have q2 := lw_rng (v := m) (n := 2) (by decide)
        have q3 := lw_rng (v := m) (n := 3) (by decide)
        have q4 := lw_rng (v := m) (n := 4) (by decide)
        have q6 := lw_rng (v := m) (n := 6) (by decide)
        have p317 := lw_rng (v := shI m 3) (n := 17) (by decide)
        have p23 := lw_rng (v := shI m 2) (n := 3) (by decide)
        have p46 := lw_rng (v := shI m 4) (n := 6) (by decide)
        have p22 := lw_rng (v := shI m 2) (n := 2) (by decide)
        have t16 := lw_rng (v := v) (n := 16) (by decide)
        refine WP.iload_n dL_change_70 rfl ?_
        refine WP.bipush dL_change_71 (by decide) ?_
        refine WP.callSp (as := [vI v, vI (16 : Int)]) dL_change_73 ms_L_15 rfl (c_L_low (v := v) (n := (16 : Int)) (by omega)) rfl (Nat.le_of_ble_eq_true rfl) (by omega) ?_
        by_cases h76_0 : (lw v (16 : Int)) = 0
        · skip
          refine WP.tabIn (off := 76) (tgt := 152) dL_change_76 (by omega) (by omega) (by omega) (by rw [h76_0]; rfl) (by decide) ?_
          refine WP.iload_n dL_change_152 rfl ?_
          refine WP.iconst dL_change_153 ?_
          refine WP.callSp (as := [vI m, vI (4 : Int)]) dL_change_154 ms_L_15 rfl (c_L_low (v := m) (n := (4 : Int)) (by omega)) rfl (Nat.le_of_ble_eq_true rfl) (by omega) ?_
          refine WP.if_ne (tgt := 175) dL_change_157 (by decide) (by omega) (fun h157 => ?_) (fun h157 => ?_)
          · skip
            refine WP.aload_n dL_change_175 rfl ?_
            refine WP.callV (as := []) dL_change_176 mv_L_24 rfl (rfl) (by decide) rfl rfl (z_undo hA2) rfl (Nat.le_of_ble_eq_true rfl) (by omega) (fun r9 M3 h9 => ?_)
            obtain ⟨rfl, hA3⟩ := h9
            show WP sc0 41 m_L_change 179 [vR 42, vI v, vI m, vI ((S.1.1 : Nat) : Int), vI ((S.1.2.1 : Nat) : Int), vI (cC v 4 S.1.2.1), vI (cC v 7 S.1.2.1), vI (cC v 10 S.1.1)] [vI ((o_undo S).1)] M3 (PX M (o_change S v m))
            refine WP.iret dL_change_179 rfl ?_
            exact PX.of (q := o_undo S) rfl (by unfold o_change; rw [if_pos h76_0, if_neg h157]) hA3
          · skip
            refine WP.aload_n dL_change_160 rfl ?_
            refine WP.iload_n dL_change_161 rfl ?_
            refine WP.iconst dL_change_162 ?_
            refine WP.ishr (z := (shI m (3 : Int))) dL_change_163 ((Int32.ofInt_toInt _).symm) ?_
            refine WP.bipush dL_change_164 (by decide) ?_
            refine WP.callSp (as := [vI (shI m (3 : Int)), vI (17 : Int)]) dL_change_166 ms_L_15 rfl (c_L_low (v := (shI m (3 : Int))) (n := (17 : Int)) (by omega)) rfl (Nat.le_of_ble_eq_true rfl) (by omega) ?_
            refine WP.callV (as := [vI (lw (shI m (3 : Int)) (17 : Int))]) dL_change_169 mv_L_21 rfl (rfl) (by decide) rfl rfl (z_begin hA2 (by omega)) rfl (Nat.le_of_ble_eq_true rfl) (by omega) (fun r9 M3 h9 => ?_)
            obtain ⟨rfl, hA3⟩ := h9
            show WP sc0 41 m_L_change 172 [vR 42, vI v, vI m, vI ((S.1.1 : Nat) : Int), vI ((S.1.2.1 : Nat) : Int), vI (cC v 4 S.1.2.1), vI (cC v 7 S.1.2.1), vI (cC v 10 S.1.1)] [vI ((o_begin S (lw (shI m (3 : Int)) (17 : Int))).1)] M3 (PX M (o_change S v m))
            refine WP.goto (tgt := 179) dL_change_172 (by decide) ?_
            refine WP.iret dL_change_179 rfl ?_
            exact PX.of (q := o_begin S (lw (shI m (3 : Int)) (17 : Int))) rfl (by unfold o_change; rw [if_pos h76_0, if_pos h157]) hA3
        by_cases h76_1 : (lw v (16 : Int)) = 1
        · skip
          refine WP.tabIn (off := 104) (tgt := 180) dL_change_76 (by omega) (by omega) (by omega) (by rw [h76_1]; rfl) (by decide) ?_
          refine WP.aload_n dL_change_180 rfl ?_
          refine WP.iconst dL_change_181 ?_
          refine WP.iload_n dL_change_182 rfl ?_
          refine WP.iconst dL_change_183 ?_
          refine WP.callSp (as := [vI m, vI (3 : Int)]) dL_change_184 ms_L_15 rfl (c_L_low (v := m) (n := (3 : Int)) (by omega)) rfl (Nat.le_of_ble_eq_true rfl) (by omega) ?_
          refine WP.iadd dL_change_187 ?_
          refine WP.callV (as := [vI ((2 : Int) + (lw m (3 : Int)))]) dL_change_188 mv_L_28 rfl (rfl) (by decide) rfl rfl (z_addColumn hA2 (by omega)) rfl (Nat.le_of_ble_eq_true rfl) (by omega) (fun r9 M3 h9 => ?_)
          obtain ⟨rfl, hA3⟩ := h9
          show WP sc0 41 m_L_change 191 [vR 42, vI v, vI m, vI ((S.1.1 : Nat) : Int), vI ((S.1.2.1 : Nat) : Int), vI (cC v 4 S.1.2.1), vI (cC v 7 S.1.2.1), vI (cC v 10 S.1.1)] [vI ((o_addColumn S ((2 : Int) + (lw m (3 : Int)))).1)] M3 (PX M (o_change S v m))
          refine WP.iret dL_change_191 rfl ?_
          exact PX.of (q := o_addColumn S ((2 : Int) + (lw m (3 : Int)))) rfl (by unfold o_change; rw [if_neg h76_0, if_pos h76_1]) hA3
        by_cases h76_2 : (lw v (16 : Int)) = 2
        · skip
          refine WP.tabIn (off := 116) (tgt := 192) dL_change_76 (by omega) (by omega) (by omega) (by rw [h76_2]; rfl) (by decide) ?_
          refine WP.iload_n dL_change_192 rfl ?_
          refine WP.iconst dL_change_193 ?_
          refine WP.callSp (as := [vI m, vI (3 : Int)]) dL_change_194 ms_L_15 rfl (c_L_low (v := m) (n := (3 : Int)) (by omega)) rfl (Nat.le_of_ble_eq_true rfl) (by omega) ?_
          refine WP.if_ne (tgt := 209) dL_change_197 (by decide) (by omega) (fun h197 => ?_) (fun h197 => ?_)
          · skip
            refine WP.iconst dL_change_209 ?_
            refine WP.iret dL_change_210 rfl ?_
            exact PX.of (q := ((-1 : Int), S)) rfl (by unfold o_change; rw [if_neg h76_0, if_neg h76_1, if_pos h76_2, if_neg h197]) hA2
          · skip
            refine WP.aload_n dL_change_200 rfl ?_
            refine WP.iload dL_change_201 rfl ?_
            refine WP.callV (as := [vI (cC v 4 S.1.2.1)]) dL_change_203 mv_L_31 rfl (rfl) (by decide) rfl rfl (z_dropColumn hA2 (by omega)) rfl (Nat.le_of_ble_eq_true rfl) (by omega) (fun r9 M3 h9 => ?_)
            obtain ⟨rfl, hA3⟩ := h9
            show WP sc0 41 m_L_change 206 [vR 42, vI v, vI m, vI ((S.1.1 : Nat) : Int), vI ((S.1.2.1 : Nat) : Int), vI (cC v 4 S.1.2.1), vI (cC v 7 S.1.2.1), vI (cC v 10 S.1.1)] [vI ((o_dropColumn S (cC v 4 S.1.2.1)).1)] M3 (PX M (o_change S v m))
            refine WP.goto (tgt := 210) dL_change_206 (by decide) ?_
            refine WP.iret dL_change_210 rfl ?_
            exact PX.of (q := o_dropColumn S (cC v 4 S.1.2.1)) rfl (by unfold o_change; rw [if_neg h76_0, if_neg h76_1, if_pos h76_2, if_pos h197]) hA3
        by_cases h76_3 : (lw v (16 : Int)) = 3
        · skip
          refine WP.tabIn (off := 135) (tgt := 211) dL_change_76 (by omega) (by omega) (by omega) (by rw [h76_3]; rfl) (by decide) ?_
          refine WP.aload_n dL_change_211 rfl ?_
          refine WP.iload dL_change_212 rfl ?_
          refine WP.iload dL_change_214 rfl ?_
          refine WP.iload_n dL_change_216 rfl ?_
          refine WP.iconst dL_change_217 ?_
          refine WP.callSp (as := [vI m, vI (4 : Int)]) dL_change_218 ms_L_15 rfl (c_L_low (v := m) (n := (4 : Int)) (by omega)) rfl (Nat.le_of_ble_eq_true rfl) (by omega) ?_
          refine WP.callV (as := [vI (cC v 10 S.1.1), vI (cC v 4 S.1.2.1), vI (lw m (4 : Int))]) dL_change_221 mv_L_34 rfl (rfl) (by decide) rfl rfl (z_put hA2 (by omega) (by omega) (by omega)) rfl (Nat.le_of_ble_eq_true rfl) (by omega) (fun r9 M3 h9 => ?_)
          obtain ⟨rfl, hA3⟩ := h9
          show WP sc0 41 m_L_change 224 [vR 42, vI v, vI m, vI ((S.1.1 : Nat) : Int), vI ((S.1.2.1 : Nat) : Int), vI (cC v 4 S.1.2.1), vI (cC v 7 S.1.2.1), vI (cC v 10 S.1.1)] [vI ((o_put S (cC v 10 S.1.1) (cC v 4 S.1.2.1) (lw m (4 : Int))).1)] M3 (PX M (o_change S v m))
          refine WP.iret dL_change_224 rfl ?_
          exact PX.of (q := o_put S (cC v 10 S.1.1) (cC v 4 S.1.2.1) (lw m (4 : Int))) rfl (by unfold o_change; rw [if_neg h76_0, if_neg h76_1, if_neg h76_2, if_pos h76_3]) hA3
        by_cases h76_4 : (lw v (16 : Int)) = 4
        · skip
          refine WP.tabIn (off := 135) (tgt := 211) dL_change_76 (by omega) (by omega) (by omega) (by rw [h76_4]; rfl) (by decide) ?_
          refine WP.aload_n dL_change_211 rfl ?_
          refine WP.iload dL_change_212 rfl ?_
          refine WP.iload dL_change_214 rfl ?_
          refine WP.iload_n dL_change_216 rfl ?_
          refine WP.iconst dL_change_217 ?_
          refine WP.callSp (as := [vI m, vI (4 : Int)]) dL_change_218 ms_L_15 rfl (c_L_low (v := m) (n := (4 : Int)) (by omega)) rfl (Nat.le_of_ble_eq_true rfl) (by omega) ?_
          refine WP.callV (as := [vI (cC v 10 S.1.1), vI (cC v 4 S.1.2.1), vI (lw m (4 : Int))]) dL_change_221 mv_L_34 rfl (rfl) (by decide) rfl rfl (z_put hA2 (by omega) (by omega) (by omega)) rfl (Nat.le_of_ble_eq_true rfl) (by omega) (fun r9 M3 h9 => ?_)
          obtain ⟨rfl, hA3⟩ := h9
          show WP sc0 41 m_L_change 224 [vR 42, vI v, vI m, vI ((S.1.1 : Nat) : Int), vI ((S.1.2.1 : Nat) : Int), vI (cC v 4 S.1.2.1), vI (cC v 7 S.1.2.1), vI (cC v 10 S.1.1)] [vI ((o_put S (cC v 10 S.1.1) (cC v 4 S.1.2.1) (lw m (4 : Int))).1)] M3 (PX M (o_change S v m))
          refine WP.iret dL_change_224 rfl ?_
          exact PX.of (q := o_put S (cC v 10 S.1.1) (cC v 4 S.1.2.1) (lw m (4 : Int))) rfl (by unfold o_change; rw [if_neg h76_0, if_neg h76_1, if_neg h76_2, if_neg h76_3, if_pos h76_4]) hA3
        by_cases h76_5 : (lw v (16 : Int)) = 5
        · skip
          refine WP.tabIn (off := 149) (tgt := 225) dL_change_76 (by omega) (by omega) (by omega) (by rw [h76_5]; rfl) (by decide) ?_
          refine WP.aload_n dL_change_225 rfl ?_
          refine WP.iload dL_change_226 rfl ?_
          refine WP.callV (as := [vI (cC v 10 S.1.1)]) dL_change_228 mv_L_38 rfl (rfl) (by decide) rfl rfl (z_dropRow hA2 (by omega)) rfl (Nat.le_of_ble_eq_true rfl) (by omega) (fun r9 M3 h9 => ?_)
          obtain ⟨rfl, hA3⟩ := h9
          show WP sc0 41 m_L_change 231 [vR 42, vI v, vI m, vI ((S.1.1 : Nat) : Int), vI ((S.1.2.1 : Nat) : Int), vI (cC v 4 S.1.2.1), vI (cC v 7 S.1.2.1), vI (cC v 10 S.1.1)] [vI ((o_dropRow S (cC v 10 S.1.1)).1)] M3 (PX M (o_change S v m))
          refine WP.iret dL_change_231 rfl ?_
          exact PX.of (q := o_dropRow S (cC v 10 S.1.1)) rfl (by unfold o_change; rw [if_neg h76_0, if_neg h76_1, if_neg h76_2, if_neg h76_3, if_neg h76_4, if_pos h76_5]) hA3
        by_cases h76_6 : (lw v (16 : Int)) = 6
        · skip
          refine WP.tabIn (off := 156) (tgt := 232) dL_change_76 (by omega) (by omega) (by omega) (by rw [h76_6]; rfl) (by decide) ?_
          refine WP.iload_n dL_change_232 rfl ?_
          refine WP.iconst dL_change_233 ?_
          refine WP.callSp (as := [vI m, vI (2 : Int)]) dL_change_234 ms_L_15 rfl (c_L_low (v := m) (n := (2 : Int)) (by omega)) rfl (Nat.le_of_ble_eq_true rfl) (by omega) ?_
          refine WP.if_ne (tgt := 247) dL_change_237 (by decide) (by omega) (fun h237 => ?_) (fun h237 => ?_)
          · skip
            refine WP.aload_n dL_change_247 rfl ?_
            refine WP.callV (as := []) dL_change_248 mv_L_44 rfl (rfl) (by decide) rfl rfl (z_sort hA2) rfl (Nat.le_of_ble_eq_true rfl) (by omega) (fun r9 M3 h9 => ?_)
            obtain ⟨rfl, hA3⟩ := h9
            show WP sc0 41 m_L_change 251 [vR 42, vI v, vI m, vI ((S.1.1 : Nat) : Int), vI ((S.1.2.1 : Nat) : Int), vI (cC v 4 S.1.2.1), vI (cC v 7 S.1.2.1), vI (cC v 10 S.1.1)] [vI ((o_sort S).1)] M3 (PX M (o_change S v m))
            refine WP.iret dL_change_251 rfl ?_
            exact PX.of (q := o_sort S) rfl (by unfold o_change; rw [if_neg h76_0, if_neg h76_1, if_neg h76_2, if_neg h76_3, if_neg h76_4, if_neg h76_5, if_pos h76_6, if_neg h237]) hA3
          · skip
            refine WP.aload_n dL_change_240 rfl ?_
            refine WP.callV (as := []) dL_change_241 mv_L_41 rfl (rfl) (by decide) rfl rfl (z_dropCopies hA2) rfl (Nat.le_of_ble_eq_true rfl) (by omega) (fun r9 M3 h9 => ?_)
            obtain ⟨rfl, hA3⟩ := h9
            show WP sc0 41 m_L_change 244 [vR 42, vI v, vI m, vI ((S.1.1 : Nat) : Int), vI ((S.1.2.1 : Nat) : Int), vI (cC v 4 S.1.2.1), vI (cC v 7 S.1.2.1), vI (cC v 10 S.1.1)] [vI ((o_dropCopies S).1)] M3 (PX M (o_change S v m))
            refine WP.goto (tgt := 251) dL_change_244 (by decide) ?_
            refine WP.iret dL_change_251 rfl ?_
            exact PX.of (q := o_dropCopies S) rfl (by unfold o_change; rw [if_neg h76_0, if_neg h76_1, if_neg h76_2, if_neg h76_3, if_neg h76_4, if_neg h76_5, if_pos h76_6, if_pos h237]) hA3
        by_cases h76_7 : (lw v (16 : Int)) = 7
        · skip
          refine WP.tabIn (off := 176) (tgt := 252) dL_change_76 (by omega) (by omega) (by omega) (by rw [h76_7]; rfl) (by decide) ?_
          refine WP.aload_n dL_change_252 rfl ?_
          refine WP.bipush dL_change_253 (by decide) ?_
          refine WP.bipush dL_change_255 (by decide) ?_
          refine WP.iload_n dL_change_257 rfl ?_
          refine WP.iconst dL_change_258 ?_
          refine WP.callSp (as := [vI m, vI (2 : Int)]) dL_change_259 ms_L_15 rfl (c_L_low (v := m) (n := (2 : Int)) (by omega)) rfl (Nat.le_of_ble_eq_true rfl) (by omega) ?_
          refine WP.imul dL_change_262 ?_
          refine WP.iadd dL_change_263 ?_
          refine WP.iload_n dL_change_264 rfl ?_
          refine WP.iconst dL_change_265 ?_
          refine WP.ishr (z := (shI m (2 : Int))) dL_change_266 ((Int32.ofInt_toInt _).symm) ?_
          refine WP.iconst dL_change_267 ?_
          refine WP.callSp (as := [vI (shI m (2 : Int)), vI (3 : Int)]) dL_change_268 ms_L_15 rfl (c_L_low (v := (shI m (2 : Int))) (n := (3 : Int)) (by omega)) rfl (Nat.le_of_ble_eq_true rfl) (by omega) ?_
          refine WP.iadd dL_change_271 ?_
          refine WP.callV (as := [vI (((22 : Int) + ((10 : Int) * (lw m (2 : Int)))) + (lw (shI m (2 : Int)) (3 : Int)))]) dL_change_272 mv_L_47 rfl (rfl) (by decide) rfl rfl (z_factorial hA2 (by omega)) rfl (Nat.le_of_ble_eq_true rfl) (by omega) (fun r9 M3 h9 => ?_)
          obtain ⟨rfl, hA3⟩ := h9
          show WP sc0 41 m_L_change 275 [vR 42, vI v, vI m, vI ((S.1.1 : Nat) : Int), vI ((S.1.2.1 : Nat) : Int), vI (cC v 4 S.1.2.1), vI (cC v 7 S.1.2.1), vI (cC v 10 S.1.1)] [vI ((o_factorial S (((22 : Int) + ((10 : Int) * (lw m (2 : Int)))) + (lw (shI m (2 : Int)) (3 : Int)))).1)] M3 (PX M (o_change S v m))
          refine WP.iret dL_change_275 rfl ?_
          exact PX.of (q := o_factorial S (((22 : Int) + ((10 : Int) * (lw m (2 : Int)))) + (lw (shI m (2 : Int)) (3 : Int)))) rfl (by unfold o_change; rw [if_neg h76_0, if_neg h76_1, if_neg h76_2, if_neg h76_3, if_neg h76_4, if_neg h76_5, if_neg h76_6, if_pos h76_7]) hA3
        by_cases h76_8 : (lw v (16 : Int)) = 8
        · skip
          refine WP.tabIn (off := 200) (tgt := 276) dL_change_76 (by omega) (by omega) (by omega) (by rw [h76_8]; rfl) (by decide) ?_
          refine WP.aload_n dL_change_276 rfl ?_
          refine WP.sipush dL_change_277 (by decide) ?_
          refine WP.callV (as := [vI (222 : Int)]) dL_change_280 mv_L_47 rfl (rfl) (by decide) rfl rfl (z_factorial hA2 (by omega)) rfl (Nat.le_of_ble_eq_true rfl) (by omega) (fun r9 M3 h9 => ?_)
          obtain ⟨rfl, hA3⟩ := h9
          show WP sc0 41 m_L_change 283 [vR 42, vI v, vI m, vI ((S.1.1 : Nat) : Int), vI ((S.1.2.1 : Nat) : Int), vI (cC v 4 S.1.2.1), vI (cC v 7 S.1.2.1), vI (cC v 10 S.1.1)] [vI ((o_factorial S (222 : Int)).1)] M3 (PX M (o_change S v m))
          refine WP.iret dL_change_283 rfl ?_
          exact PX.of (q := o_factorial S (222 : Int)) rfl (by unfold o_change; rw [if_neg h76_0, if_neg h76_1, if_neg h76_2, if_neg h76_3, if_neg h76_4, if_neg h76_5, if_neg h76_6, if_neg h76_7, if_pos h76_8]) hA3
        by_cases h76_9 : (lw v (16 : Int)) = 9
        · skip
          refine WP.tabIn (off := 208) (tgt := 284) dL_change_76 (by omega) (by omega) (by omega) (by rw [h76_9]; rfl) (by decide) ?_
          refine WP.aload_n dL_change_284 rfl ?_
          refine WP.iload dL_change_285 rfl ?_
          refine WP.iload_n dL_change_287 rfl ?_
          refine WP.bipush dL_change_288 (by decide) ?_
          refine WP.callSp (as := [vI m, vI (6 : Int)]) dL_change_290 ms_L_15 rfl (c_L_low (v := m) (n := (6 : Int)) (by omega)) rfl (Nat.le_of_ble_eq_true rfl) (by omega) ?_
          refine WP.iload dL_change_293 rfl ?_
          refine WP.iload_n dL_change_295 rfl ?_
          refine WP.iconst dL_change_296 ?_
          refine WP.ishr (z := (shI m (4 : Int))) dL_change_297 ((Int32.ofInt_toInt _).symm) ?_
          refine WP.bipush dL_change_298 (by decide) ?_
          refine WP.callSp (as := [vI (shI m (4 : Int)), vI (6 : Int)]) dL_change_300 ms_L_15 rfl (c_L_low (v := (shI m (4 : Int))) (n := (6 : Int)) (by omega)) rfl (Nat.le_of_ble_eq_true rfl) (by omega) ?_
          refine WP.callV (as := [vI (cC v 4 S.1.2.1), vI (lw m (6 : Int)), vI (cC v 7 S.1.2.1), vI (lw (shI m (4 : Int)) (6 : Int))]) dL_change_303 mv_L_50 rfl (rfl) (by decide) rfl rfl (z_addSum hA2 (by omega) (by omega) (by omega) (by omega)) rfl (Nat.le_of_ble_eq_true rfl) (by omega) (fun r9 M3 h9 => ?_)
          obtain ⟨rfl, hA3⟩ := h9
          show WP sc0 41 m_L_change 306 [vR 42, vI v, vI m, vI ((S.1.1 : Nat) : Int), vI ((S.1.2.1 : Nat) : Int), vI (cC v 4 S.1.2.1), vI (cC v 7 S.1.2.1), vI (cC v 10 S.1.1)] [vI ((o_addSum S (cC v 4 S.1.2.1) (lw m (6 : Int)) (cC v 7 S.1.2.1) (lw (shI m (4 : Int)) (6 : Int))).1)] M3 (PX M (o_change S v m))
          refine WP.iret dL_change_306 rfl ?_
          exact PX.of (q := o_addSum S (cC v 4 S.1.2.1) (lw m (6 : Int)) (cC v 7 S.1.2.1) (lw (shI m (4 : Int)) (6 : Int))) rfl (by unfold o_change; rw [if_neg h76_0, if_neg h76_1, if_neg h76_2, if_neg h76_3, if_neg h76_4, if_neg h76_5, if_neg h76_6, if_neg h76_7, if_neg h76_8, if_pos h76_9]) hA3
        by_cases h76_10 : (lw v (16 : Int)) = 10
        · skip
          refine WP.tabIn (off := 231) (tgt := 307) dL_change_76 (by omega) (by omega) (by omega) (by rw [h76_10]; rfl) (by decide) ?_
          refine WP.aload_n dL_change_307 rfl ?_
          refine WP.iload dL_change_308 rfl ?_
          refine WP.iconst dL_change_310 ?_
          refine WP.iload dL_change_311 rfl ?_
          refine WP.iconst dL_change_313 ?_
          refine WP.callV (as := [vI (cC v 4 S.1.2.1), vI (1 : Int), vI (cC v 7 S.1.2.1), vI (1 : Int)]) dL_change_314 mv_L_50 rfl (rfl) (by decide) rfl rfl (z_addSum hA2 (by omega) (by omega) (by omega) (by omega)) rfl (Nat.le_of_ble_eq_true rfl) (by omega) (fun r9 M3 h9 => ?_)
          obtain ⟨rfl, hA3⟩ := h9
          show WP sc0 41 m_L_change 317 [vR 42, vI v, vI m, vI ((S.1.1 : Nat) : Int), vI ((S.1.2.1 : Nat) : Int), vI (cC v 4 S.1.2.1), vI (cC v 7 S.1.2.1), vI (cC v 10 S.1.1)] [vI ((o_addSum S (cC v 4 S.1.2.1) (1 : Int) (cC v 7 S.1.2.1) (1 : Int)).1)] M3 (PX M (o_change S v m))
          refine WP.iret dL_change_317 rfl ?_
          exact PX.of (q := o_addSum S (cC v 4 S.1.2.1) (1 : Int) (cC v 7 S.1.2.1) (1 : Int)) rfl (by unfold o_change; rw [if_neg h76_0, if_neg h76_1, if_neg h76_2, if_neg h76_3, if_neg h76_4, if_neg h76_5, if_neg h76_6, if_neg h76_7, if_neg h76_8, if_neg h76_9, if_pos h76_10]) hA3
        by_cases h76_11 : (lw v (16 : Int)) = 11
        · skip
          refine WP.tabIn (off := 242) (tgt := 318) dL_change_76 (by omega) (by omega) (by omega) (by rw [h76_11]; rfl) (by decide) ?_
          refine WP.aload_n dL_change_318 rfl ?_
          refine WP.callV (as := []) dL_change_319 mv_L_54 rfl (rfl) (by decide) rfl rfl (z_develop hA2) rfl (Nat.le_of_ble_eq_true rfl) (by omega) (fun r9 M3 h9 => ?_)
          obtain ⟨rfl, hA3⟩ := h9
          show WP sc0 41 m_L_change 322 [vR 42, vI v, vI m, vI ((S.1.1 : Nat) : Int), vI ((S.1.2.1 : Nat) : Int), vI (cC v 4 S.1.2.1), vI (cC v 7 S.1.2.1), vI (cC v 10 S.1.1)] [vI ((o_develop S).1)] M3 (PX M (o_change S v m))
          refine WP.iret dL_change_322 rfl ?_
          exact PX.of (q := o_develop S) rfl (by unfold o_change; rw [if_neg h76_0, if_neg h76_1, if_neg h76_2, if_neg h76_3, if_neg h76_4, if_neg h76_5, if_neg h76_6, if_neg h76_7, if_neg h76_8, if_neg h76_9, if_neg h76_10, if_pos h76_11]) hA3
        by_cases h76_12 : (lw v (16 : Int)) = 12
        · skip
          refine WP.tabIn (off := 247) (tgt := 323) dL_change_76 (by omega) (by omega) (by omega) (by rw [h76_12]; rfl) (by decide) ?_
          refine WP.aload_n dL_change_323 rfl ?_
          refine WP.iload_n dL_change_324 rfl ?_
          refine WP.iconst dL_change_325 ?_
          refine WP.callSp (as := [vI m, vI (2 : Int)]) dL_change_326 ms_L_15 rfl (c_L_low (v := m) (n := (2 : Int)) (by omega)) rfl (Nat.le_of_ble_eq_true rfl) (by omega) ?_
          refine WP.callV (as := [vI (lw m (2 : Int))]) dL_change_329 mv_L_57 rfl (rfl) (by decide) rfl rfl (z_keep hA2 (by omega)) rfl (Nat.le_of_ble_eq_true rfl) (by omega) (fun r9 M3 h9 => ?_)
          obtain ⟨rfl, hA3⟩ := h9
          show WP sc0 41 m_L_change 332 [vR 42, vI v, vI m, vI ((S.1.1 : Nat) : Int), vI ((S.1.2.1 : Nat) : Int), vI (cC v 4 S.1.2.1), vI (cC v 7 S.1.2.1), vI (cC v 10 S.1.1)] [vI ((o_keep S (lw m (2 : Int))).1)] M3 (PX M (o_change S v m))
          refine WP.iret dL_change_332 rfl ?_
          exact PX.of (q := o_keep S (lw m (2 : Int))) rfl (by unfold o_change; rw [if_neg h76_0, if_neg h76_1, if_neg h76_2, if_neg h76_3, if_neg h76_4, if_neg h76_5, if_neg h76_6, if_neg h76_7, if_neg h76_8, if_neg h76_9, if_neg h76_10, if_neg h76_11, if_pos h76_12]) hA3
        by_cases h76_13 : (lw v (16 : Int)) = 13
        · skip
          refine WP.tabIn (off := 257) (tgt := 333) dL_change_76 (by omega) (by omega) (by omega) (by rw [h76_13]; rfl) (by decide) ?_
          refine WP.iload_n dL_change_333 rfl ?_
          refine WP.iconst dL_change_334 ?_
          refine WP.callSp (as := [vI m, vI (3 : Int)]) dL_change_335 ms_L_15 rfl (c_L_low (v := m) (n := (3 : Int)) (by omega)) rfl (Nat.le_of_ble_eq_true rfl) (by omega) ?_
          refine WP.if_ne (tgt := 355) dL_change_338 (by decide) (by omega) (fun h338 => ?_) (fun h338 => ?_)
          · skip
            refine WP.aload_n dL_change_355 rfl ?_
            refine WP.iload dL_change_356 rfl ?_
            refine WP.iload_n dL_change_358 rfl ?_
            refine WP.iconst dL_change_359 ?_
            refine WP.ishr (z := (shI m (2 : Int))) dL_change_360 ((Int32.ofInt_toInt _).symm) ?_
            refine WP.iconst dL_change_361 ?_
            refine WP.callSp (as := [vI (shI m (2 : Int)), vI (2 : Int)]) dL_change_362 ms_L_15 rfl (c_L_low (v := (shI m (2 : Int))) (n := (2 : Int)) (by omega)) rfl (Nat.le_of_ble_eq_true rfl) (by omega) ?_
            refine WP.callV (as := [vI (cC v 4 S.1.2.1), vI (lw (shI m (2 : Int)) (2 : Int))]) dL_change_365 mv_L_63 rfl (rfl) (by decide) rfl rfl (z_replace hA2 (by omega) (by omega)) rfl (Nat.le_of_ble_eq_true rfl) (by omega) (fun r9 M3 h9 => ?_)
            obtain ⟨rfl, hA3⟩ := h9
            show WP sc0 41 m_L_change 368 [vR 42, vI v, vI m, vI ((S.1.1 : Nat) : Int), vI ((S.1.2.1 : Nat) : Int), vI (cC v 4 S.1.2.1), vI (cC v 7 S.1.2.1), vI (cC v 10 S.1.1)] [vI ((o_replace S (cC v 4 S.1.2.1) (lw (shI m (2 : Int)) (2 : Int))).1)] M3 (PX M (o_change S v m))
            refine WP.iret dL_change_368 rfl ?_
            exact PX.of (q := o_replace S (cC v 4 S.1.2.1) (lw (shI m (2 : Int)) (2 : Int))) rfl (by unfold o_change; rw [if_neg h76_0, if_neg h76_1, if_neg h76_2, if_neg h76_3, if_neg h76_4, if_neg h76_5, if_neg h76_6, if_neg h76_7, if_neg h76_8, if_neg h76_9, if_neg h76_10, if_neg h76_11, if_neg h76_12, if_pos h76_13, if_neg h338]) hA3
          · skip
            refine WP.aload_n dL_change_341 rfl ?_
            refine WP.iload_n dL_change_342 rfl ?_
            refine WP.iconst dL_change_343 ?_
            refine WP.ishr (z := (shI m (2 : Int))) dL_change_344 ((Int32.ofInt_toInt _).symm) ?_
            refine WP.iconst dL_change_345 ?_
            refine WP.callSp (as := [vI (shI m (2 : Int)), vI (2 : Int)]) dL_change_346 ms_L_15 rfl (c_L_low (v := (shI m (2 : Int))) (n := (2 : Int)) (by omega)) rfl (Nat.le_of_ble_eq_true rfl) (by omega) ?_
            refine WP.callV (as := [vI (lw (shI m (2 : Int)) (2 : Int))]) dL_change_349 mv_L_60 rfl (rfl) (by decide) rfl rfl (z_back hA2 (by omega)) rfl (Nat.le_of_ble_eq_true rfl) (by omega) (fun r9 M3 h9 => ?_)
            obtain ⟨rfl, hA3⟩ := h9
            show WP sc0 41 m_L_change 352 [vR 42, vI v, vI m, vI ((S.1.1 : Nat) : Int), vI ((S.1.2.1 : Nat) : Int), vI (cC v 4 S.1.2.1), vI (cC v 7 S.1.2.1), vI (cC v 10 S.1.1)] [vI ((o_back S (lw (shI m (2 : Int)) (2 : Int))).1)] M3 (PX M (o_change S v m))
            refine WP.goto (tgt := 368) dL_change_352 (by decide) ?_
            refine WP.iret dL_change_368 rfl ?_
            exact PX.of (q := o_back S (lw (shI m (2 : Int)) (2 : Int))) rfl (by unfold o_change; rw [if_neg h76_0, if_neg h76_1, if_neg h76_2, if_neg h76_3, if_neg h76_4, if_neg h76_5, if_neg h76_6, if_neg h76_7, if_neg h76_8, if_neg h76_9, if_neg h76_10, if_neg h76_11, if_neg h76_12, if_pos h76_13, if_pos h338]) hA3
        by_cases h76_14 : (lw v (16 : Int)) = 14
        · skip
          refine WP.tabIn (off := 293) (tgt := 369) dL_change_76 (by omega) (by omega) (by omega) (by rw [h76_14]; rfl) (by decide) ?_
          refine WP.aload_n dL_change_369 rfl ?_
          refine WP.iconst dL_change_370 ?_
          refine WP.iload_n dL_change_371 rfl ?_
          refine WP.iconst dL_change_372 ?_
          refine WP.callSp (as := [vI m, vI (2 : Int)]) dL_change_373 ms_L_15 rfl (c_L_low (v := m) (n := (2 : Int)) (by omega)) rfl (Nat.le_of_ble_eq_true rfl) (by omega) ?_
          refine WP.iadd dL_change_376 ?_
          refine WP.callV (as := [vI ((2 : Int) + (lw m (2 : Int)))]) dL_change_377 mv_L_66 rfl (rfl) (by decide) rfl rfl (z_extend hA2 (by omega)) rfl (Nat.le_of_ble_eq_true rfl) (by omega) (fun r9 M3 h9 => ?_)
          obtain ⟨rfl, hA3⟩ := h9
          show WP sc0 41 m_L_change 380 [vR 42, vI v, vI m, vI ((S.1.1 : Nat) : Int), vI ((S.1.2.1 : Nat) : Int), vI (cC v 4 S.1.2.1), vI (cC v 7 S.1.2.1), vI (cC v 10 S.1.1)] [vI ((o_extend S ((2 : Int) + (lw m (2 : Int)))).1)] M3 (PX M (o_change S v m))
          refine WP.iret dL_change_380 rfl ?_
          exact PX.of (q := o_extend S ((2 : Int) + (lw m (2 : Int)))) rfl (by unfold o_change; rw [if_neg h76_0, if_neg h76_1, if_neg h76_2, if_neg h76_3, if_neg h76_4, if_neg h76_5, if_neg h76_6, if_neg h76_7, if_neg h76_8, if_neg h76_9, if_neg h76_10, if_neg h76_11, if_neg h76_12, if_neg h76_13, if_pos h76_14]) hA3
        refine WP.tabOut (tgt := 381) dL_change_76 (by omega) (by omega) (by decide) ?_
        refine WP.aload_n dL_change_381 rfl ?_
        refine WP.callV (as := []) dL_change_382 mv_L_24 rfl (rfl) (by decide) rfl rfl (z_undo hA2) rfl (Nat.le_of_ble_eq_true rfl) (by omega) (fun r9 M3 h9 => ?_)
        obtain ⟨rfl, hA3⟩ := h9
        show WP sc0 41 m_L_change 385 [vR 42, vI v, vI m, vI ((S.1.1 : Nat) : Int), vI ((S.1.2.1 : Nat) : Int), vI (cC v 4 S.1.2.1), vI (cC v 7 S.1.2.1), vI (cC v 10 S.1.1)] [vI ((o_undo S).1)] M3 (PX M (o_change S v m))
        refine WP.iret dL_change_385 rfl ?_
        exact PX.of (q := o_undo S) rfl (by unfold o_change; rw [if_neg h76_0, if_neg h76_1, if_neg h76_2, if_neg h76_3, if_neg h76_4, if_neg h76_5, if_neg h76_6, if_neg h76_7, if_neg h76_8, if_neg h76_9, if_neg h76_10, if_neg h76_11, if_neg h76_12, if_neg h76_13, if_neg h76_14]) hA3
      refine WP.iload_n dL_change_52 rfl ?_
      refine WP.if_ne (tgt := 60) dL_change_53 (by decide) (by omega) (fun h53 => ?_) (fun h53 => ?_)
      · skip
        refine WP.iload_n dL_change_60 rfl ?_
        refine WP.bipush dL_change_61 (by decide) ?_
        refine WP.ishr (z := (shI v (10 : Int))) dL_change_63 ((Int32.ofInt_toInt _).symm) ?_
        refine WP.iload_n dL_change_64 rfl ?_
        refine WP.callSp (as := [vI (shI v (10 : Int)), vI ((S.1.1 : Nat) : Int)]) dL_change_65 ms_L_15 rfl (c_L_low (v := (shI v (10 : Int))) (n := ((S.1.1 : Nat) : Int)) (by omega)) rfl (Nat.le_of_ble_eq_true rfl) (by omega) ?_
        refine WP.eqs (st' := [vI (cC v 10 S.1.1)]) rfl (lc (congrArg vI (cC_1 h53)) rfl) ?_
        exact J68
      · skip
        refine WP.iconst dL_change_56 ?_
        refine WP.goto (tgt := 68) dL_change_57 (by decide) ?_
        refine WP.eqs (st' := [vI (cC v 10 S.1.1)]) rfl (lc (congrArg vI (cC_0 h53)) rfl) ?_
        exact J68
    refine WP.iload dL_change_32 rfl ?_
    refine WP.if_ne (tgt := 41) dL_change_34 (by decide) (by omega) (fun h34 => ?_) (fun h34 => ?_)
    · skip
      refine WP.iload_n dL_change_41 rfl ?_
      refine WP.bipush dL_change_42 (by decide) ?_
      refine WP.ishr (z := (shI v (7 : Int))) dL_change_44 ((Int32.ofInt_toInt _).symm) ?_
      refine WP.iload dL_change_45 rfl ?_
      refine WP.callSp (as := [vI (shI v (7 : Int)), vI ((S.1.2.1 : Nat) : Int)]) dL_change_47 ms_L_15 rfl (c_L_low (v := (shI v (7 : Int))) (n := ((S.1.2.1 : Nat) : Int)) (by omega)) rfl (Nat.le_of_ble_eq_true rfl) (by omega) ?_
      refine WP.eqs (st' := [vI (cC v 7 S.1.2.1)]) rfl (lc (congrArg vI (cC_1 h34)) rfl) ?_
      exact J50
    · skip
      refine WP.iconst dL_change_37 ?_
      refine WP.goto (tgt := 50) dL_change_38 (by decide) ?_
      refine WP.eqs (st' := [vI (cC v 7 S.1.2.1)]) rfl (lc (congrArg vI (cC_0 h34)) rfl) ?_
      exact J50
  refine WP.iload dL_change_13 rfl ?_
  refine WP.if_ne (tgt := 22) dL_change_15 (by decide) (by omega) (fun h15 => ?_) (fun h15 => ?_)
  · skip
    refine WP.iload_n dL_change_22 rfl ?_
    refine WP.iconst dL_change_23 ?_
    refine WP.ishr (z := (shI v (4 : Int))) dL_change_24 ((Int32.ofInt_toInt _).symm) ?_
    refine WP.iload dL_change_25 rfl ?_
    refine WP.callSp (as := [vI (shI v (4 : Int)), vI ((S.1.2.1 : Nat) : Int)]) dL_change_27 ms_L_15 rfl (c_L_low (v := (shI v (4 : Int))) (n := ((S.1.2.1 : Nat) : Int)) (by omega)) rfl (Nat.le_of_ble_eq_true rfl) (by omega) ?_
    refine WP.eqs (st' := [vI (cC v 4 S.1.2.1)]) rfl (lc (congrArg vI (cC_1 h15)) rfl) ?_
    exact J30
  · skip
    refine WP.iconst dL_change_18 ?_
    refine WP.goto (tgt := 30) dL_change_19 (by decide) ?_
    refine WP.eqs (st' := [vI (cC v 4 S.1.2.1)]) rfl (lc (congrArg vI (cC_0 h15)) rfl) ?_
    exact J30
