theorem InvM.tx {M M' : Mem} {A : AR} {H : Nat × (Nat → AR)} {im : Nat → Option AR} {T : Nat × (Nat → Nat)} {len : Nat} {tx : Nat → Nat} (hI : InvM M (A, H, im, T)) (h : ∀ a, a ≠ 167 → a ≠ 171 → M' a = M a) (h7 : ∀ j, j ≠ 6 → M' 167 j = M 167 j) (hS : SM M' len tx) : InvM M' (A, H, im, (len, tx)) := by
  obtain ⟨a1, a2, ⟨f, f1, f2, f3⟩, a4⟩ := hI
  exact ⟨by rw [h 168 (by decide) (by decide)]; exact a1, ⟨a2.1, by rw [h7 2 (by decide)]; exact a2.2.1, fun i hi => by rw [h 169 (by decide) (by decide)]; exact a2.2.2 i hi⟩, ⟨f, f1, by rw [h7 4 (by decide)]; exact f2, fun i hi => by rw [h 170 (by decide) (by decide)]; exact f3 i hi⟩, hS⟩
set_option maxHeartbeats 4000000 in
set_option maxRecDepth 20000 in
theorem y_write {M : Mem} {n k h len : Nat} {sz tx : Nat → Nat} {ce : Nat → Nat → Nat} {hs : Nat → AR} {im : Nat → Option AR} (hV : InvM M (mkS n k sz ce h hs im len tx)) {x : Int} (hx : -2147483648 ≤ x ∧ x < 2147483648) : CT 40 m_X8_write [vR 167, vI x] M (PM M (o_write (mkS n k sz ce h hs im len tx) x)) := by
  have hA : BX (M 168) n k sz ce := hV.1.1
  have hW : Wf n k sz ce := hV.1.2
  have hH : HM M h hs := hV.2.1
  have hIM : IMm M im := hV.2.2.1
  have hS : SM M len tx := hV.2.2.2
  have b1 := hW.1
  have b2 := hW.2.1
  have hh8 := hH.1
  have hl3 := hS.1
  refine CT.ofWP (by decide +kernel) (Nat.le_of_ble_eq_true rfl) ?_
  show WP sc0 40 m_X8_write 0 [vR 167, vI x] [] M (PM M (o_write (mkS n k sz ce h hs im len tx) x))
  refine WP.iload_n dX8_write_0 rfl ?_
  refine WP.bipush dX8_write_1 (by decide) ?_
  refine WP.bipush dX8_write_3 (by decide) ?_
  refine WP.callSp (as := [vI x, vI (32 : Int), vI (126 : Int)]) dX8_write_5 ms_X8_43 rfl (w_isIn (by omega) (by omega) (by omega)) rfl (Nat.le_of_ble_eq_true rfl) (by omega) ?_
  refine WP.if_ne (tgt := 13) dX8_write_8 (by decide) (bi_rng) (fun h8 => ?_) (fun h8 => ?_)
  · skip
    have q8 := bi_1 h8
    refine WP.aload_n dX8_write_13 rfl ?_
    refine WP.getI (x := ((len : Nat) : Int)) dX8_write_14 fl_X8_112 (rfl) (by decide) (hS.2.1) ?_
    refine WP.sipush dX8_write_17 (by decide) ?_
    refine WP.icmp_ne (tgt := 26) dX8_write_20 (by decide) (by omega) (by omega) (fun h20 => ?_) (fun h20 => ?_)
    · skip
      obtain ⟨c, hc0⟩ : ∃ c : Nat, x.toNat = c := ⟨_, rfl⟩
      have hc1 : x = ((c : Nat) : Int) := by omega
      refine WP.fgt (lt := [vR 167, vI ((c : Nat) : Int)]) ⟨Or.inr rfl, Or.inr (congrArg vI (hc1.symm)), trivial⟩ ?_
      refine WP.aload_n dX8_write_26 rfl ?_
      refine WP.getR (y := 171) dX8_write_27 fl_X8_19 (rfl) (by decide) (rfl) ?_
      refine WP.aload_n dX8_write_30 rfl ?_
      refine WP.getI (x := ((len : Nat) : Int)) dX8_write_31 fl_X8_112 (rfl) (by decide) (hS.2.1) ?_
      refine WP.iload_n dX8_write_34 rfl ?_
      refine WP.iastore (y := len) dX8_write_35 (rfl) (by omega) (by omega) rfl ?_
      obtain ⟨M1, hM1⟩ : ∃ z, z = (mset M 171 len ((c : Nat) : Int)) := ⟨_, rfl⟩
      refine WP.eqM hM1.symm ?_
      have hO1 : ∀ a, a ≠ 171 → M1 a = M a := fun a ha => by rw [hM1]; exact mset_o a ha
      refine WP.aload_n dX8_write_36 rfl ?_
      refine WP.dup dX8_write_37 rfl ?_
      refine WP.getI (x := ((len : Nat) : Int)) dX8_write_38 fl_X8_112 (rfl) (by decide) (by rw [hO1 167 (by decide)]; exact hS.2.1) ?_
      refine WP.iconst dX8_write_41 ?_
      refine WP.iadd dX8_write_42 ?_
      refine WP.putI dX8_write_43 fl_X8_112 (rfl) (by decide) rfl ?_
      obtain ⟨M2, hM2⟩ : ∃ z, z = (mset M1 167 6 (((len : Nat) : Int) + (1 : Int))) := ⟨_, rfl⟩
      refine WP.eqM hM2.symm ?_
      have hO2 : ∀ a, a ≠ 167 → M2 a = M1 a := fun a ha => by rw [hM2]; exact mset_o a ha
      refine WP.aload_n dX8_write_46 rfl ?_
      refine WP.getI (x := ((len + 1 : Nat) : Int)) dX8_write_47 fl_X8_112 (rfl) (by decide) (by rw [hM2, mset_s]; omega) ?_
      refine WP.iret dX8_write_50 rfl ?_
      subst hc0
      have hq : o_write (mkS n k sz ce h hs im len tx) x = (((len + 1 : Nat) : Int), _) := (if_pos (by omega)).trans (if_neg (show ¬ len = 300 by omega))
      rw [hq]
      refine ⟨rfl, InvM.tx hV (fun a i1 i2 => by rw [hO2 a i1, hO1 a i2]) (fun j hj => by rw [hM2, mset_n (Or.inr hj), hO1 167 (by decide)]) ⟨(show len + 1 ≤ 300 by omega), by rw [hM2, mset_s]; show _ = ((len + 1 : Nat) : Int); omega, fun j hj => ?_⟩, fun a ha => by rw [hO2 a (by omega), hO1 a (by omega)]⟩
      have hj' : j < len + 1 := hj
      rw [hO2 171 (by decide), hM1]
      show mset M 171 len _ 171 j = (((if j = len then x.toNat else tx j) : Nat) : Int) ∧ 32 ≤ (if j = len then x.toNat else tx j) ∧ (if j = len then x.toNat else tx j) ≤ 126
      by_cases e9 : j = len
      · rw [if_pos e9, e9, mset_s]
        exact ⟨rfl, by omega, by omega⟩
      · rw [if_neg e9, mset_n (Or.inr e9)]
        exact hS.2.2 j (by omega)
    · skip
      refine WP.bipush dX8_write_23 (by decide) ?_
      refine WP.iret dX8_write_25 rfl ?_
      exact PM.same ((if_pos (by omega)).trans (if_pos (show len = 300 by omega))) hV
  · skip
    have q8 := bi_0 h8
    refine WP.iconst dX8_write_11 ?_
    refine WP.iret dX8_write_12 rfl ?_
    exact PM.same (if_neg (fun z => q8 (by omega))) hV
set_option maxHeartbeats 4000000 in
set_option maxRecDepth 20000 in
theorem y_wipe {M : Mem} {n k h len : Nat} {sz tx : Nat → Nat} {ce : Nat → Nat → Nat} {hs : Nat → AR} {im : Nat → Option AR} (hV : InvM M (mkS n k sz ce h hs im len tx))  : CT 40 m_X8_wipe [vR 167] M (PM M (o_wipe (mkS n k sz ce h hs im len tx) )) := by
  have hA : BX (M 168) n k sz ce := hV.1.1
  have hW : Wf n k sz ce := hV.1.2
  have hH : HM M h hs := hV.2.1
  have hIM : IMm M im := hV.2.2.1
  have hS : SM M len tx := hV.2.2.2
  have b1 := hW.1
  have b2 := hW.2.1
  have hh8 := hH.1
  have hl3 := hS.1
  refine CT.ofWP (by decide +kernel) (Nat.le_of_ble_eq_true rfl) ?_
  show WP sc0 40 m_X8_wipe 0 [vR 167, vU] [] M (PM M (o_wipe (mkS n k sz ce h hs im len tx) ))
  refine WP.aload_n dX8_wipe_0 rfl ?_
  refine WP.getI (x := ((len : Nat) : Int)) dX8_wipe_1 fl_X8_112 (rfl) (by decide) (hS.2.1) ?_
  refine WP.istore_n (lt := [vR 167, vI ((len : Nat) : Int)]) dX8_wipe_4 (by decide) rfl ?_
  refine WP.aload_n dX8_wipe_5 rfl ?_
  refine WP.iconst dX8_wipe_6 ?_
  refine WP.putI dX8_wipe_7 fl_X8_112 (rfl) (by decide) rfl ?_
  obtain ⟨M1, hM1⟩ : ∃ z, z = (mset M 167 6 (0 : Int)) := ⟨_, rfl⟩
  refine WP.eqM hM1.symm ?_
  have hO1 : ∀ a, a ≠ 167 → M1 a = M a := fun a ha => by rw [hM1]; exact mset_o a ha
  refine WP.iload_n dX8_wipe_10 rfl ?_
  refine WP.iret dX8_wipe_11 rfl ?_
  exact ⟨rfl, InvM.tx (len := 0) (tx := tx) hV (fun a i1 _ => hO1 a i1) (fun j hj => by rw [hM1, mset_n (Or.inr hj)]) ⟨by decide, by rw [hM1, mset_s]; rfl, fun j hj => absurd hj (Nat.not_lt_zero j)⟩, fun a ha => hO1 a (by omega)⟩
set_option maxHeartbeats 4000000 in
set_option maxRecDepth 20000 in
theorem y_undo {M : Mem} {n k h len : Nat} {sz tx : Nat → Nat} {ce : Nat → Nat → Nat} {hs : Nat → AR} {im : Nat → Option AR} (hV : InvM M (mkS n k sz ce h hs im len tx))  : CT 40 m_X8_undo [vR 167] M (PM M (o_undo (mkS n k sz ce h hs im len tx) )) := by
  have hA : BX (M 168) n k sz ce := hV.1.1
  have hW : Wf n k sz ce := hV.1.2
  have hH : HM M h hs := hV.2.1
  have hIM : IMm M im := hV.2.2.1
  have hS : SM M len tx := hV.2.2.2
  have b1 := hW.1
  have b2 := hW.2.1
  have hh8 := hH.1
  have hl3 := hS.1
  refine CT.ofWP (by decide +kernel) (Nat.le_of_ble_eq_true rfl) ?_
  show WP sc0 40 m_X8_undo 0 [vR 167, vU] [] M (PM M (o_undo (mkS n k sz ce h hs im len tx) ))
  refine WP.aload_n dX8_undo_0 rfl ?_
  refine WP.getI (x := ((h : Nat) : Int)) dX8_undo_1 fl_X8_47 (rfl) (by decide) (hH.2.1) ?_
  refine WP.if_ne (tgt := 10) dX8_undo_4 (by decide) (by omega) (fun h4 => ?_) (fun h4 => ?_)
  · skip
    refine WP.aload_n dX8_undo_10 rfl ?_
    refine WP.dup dX8_undo_11 rfl ?_
    refine WP.getI (x := ((h : Nat) : Int)) dX8_undo_12 fl_X8_47 (rfl) (by decide) (hH.2.1) ?_
    refine WP.iconst dX8_undo_15 ?_
    refine WP.isub dX8_undo_16 ?_
    refine WP.putI dX8_undo_17 fl_X8_47 (rfl) (by decide) rfl ?_
    obtain ⟨M1, hM1⟩ : ∃ z, z = (mset M 167 2 (((h : Nat) : Int) - (1 : Int))) := ⟨_, rfl⟩
    refine WP.eqM hM1.symm ?_
    have hO1 : ∀ a, a ≠ 167 → M1 a = M a := fun a ha => by rw [hM1]; exact mset_o a ha
    refine WP.iconst dX8_undo_20 ?_
    refine WP.istore_n (lt := [vR 167, vI (0 : Int)]) dX8_undo_21 (by decide) rfl ?_
    have L22 : ∀ (n9 : Nat) (i : Nat) (M2 : Mem) (hi : i ≤ 261) (hF2 : ∀ a, a ≠ 168 → M2 a = M1 a) (hA2 : ∀ j, j < i → M2 168 j = M 169 (261 * (h - 1) + j)), 261 - i < n9 → WP sc0 40 m_X8_undo 22 [vR 167, vI ((i : Nat) : Int)] [] M2 (PM M (o_undo (mkS n k sz ce h hs im len tx) )) := by
      intro n9
      induction n9 with
      | zero =>
        intro i M2 hi hF2 hA2 hm9
        exact absurd hm9 (Nat.not_lt_zero _)
      | succ n9 ih22 =>
        intro i M2 hi hF2 hA2 hm9
        refine WP.iload_n dX8_undo_22 rfl ?_
        refine WP.sipush dX8_undo_23 (by decide) ?_
        refine WP.icmp_ge (tgt := 56) dX8_undo_26 (by decide) (by omega) (by omega) (fun h26 => ?_) (fun h26 => ?_)
        · skip
          refine WP.aload_n dX8_undo_56 rfl ?_
          refine WP.getI (x := ((h - 1 : Nat) : Int)) dX8_undo_57 fl_X8_47 (rfl) (by decide) (by rw [hF2 167 (by decide), hM1, mset_s]; omega) ?_
          refine WP.iret dX8_undo_60 rfl ?_
          have hq : o_undo (mkS n k sz ce h hs im len tx) = (((h - 1 : Nat) : Int), (hs (h - 1), (h - 1, hs), im, (len, tx))) := if_neg (show ¬ h = 0 by omega)
          rw [hq]
          obtain ⟨a1, a2, ⟨f, f1, f2, f3⟩, a4⟩ := hV
          refine ⟨rfl, ⟨(hH.2.2 (h - 1) (by omega)).mv (fun j hj => hA2 j (by omega)), ⟨(show h - 1 ≤ 8 by omega), by rw [hF2 167 (by decide), hM1, mset_s]; show _ = ((h - 1 : Nat) : Int); omega, fun j hj => ?_⟩, ⟨f, f1, by rw [hF2 167 (by decide), hM1, mset_n (Or.inr (by decide))]; exact f2, fun j hj => by rw [hF2 170 (by decide), hO1 170 (by decide)]; exact f3 j hj⟩, ⟨a4.1, by rw [hF2 167 (by decide), hM1, mset_n (Or.inr (by decide))]; exact a4.2.1, fun j hj => by rw [hF2 171 (by decide), hO1 171 (by decide)]; exact a4.2.2 j hj⟩⟩, fun a ha => by rw [hF2 a (by omega), hO1 a (by omega)]⟩
          have hj' : j < h - 1 := hj
          rw [hF2 169 (by decide), hO1 169 (by decide)]
          exact hH.2.2 j (by omega)
        · skip
          refine WP.aload_n dX8_undo_29 rfl ?_
          refine WP.getR (y := 168) dX8_undo_30 fl_X8_7 (rfl) (by decide) (rfl) ?_
          refine WP.iload_n dX8_undo_33 rfl ?_
          refine WP.aload_n dX8_undo_34 rfl ?_
          refine WP.getR (y := 169) dX8_undo_35 fl_X8_13 (rfl) (by decide) (rfl) ?_
          refine WP.sipush dX8_undo_38 (by decide) ?_
          refine WP.aload_n dX8_undo_41 rfl ?_
          refine WP.getI (x := ((h - 1 : Nat) : Int)) dX8_undo_42 fl_X8_47 (rfl) (by decide) (by rw [hF2 167 (by decide), hM1, mset_s]; omega) ?_
          refine WP.imul dX8_undo_45 ?_
          refine WP.iload_n dX8_undo_46 rfl ?_
          refine WP.iadd dX8_undo_47 ?_
          refine WP.iaload (y := (261 * (h - 1) + i)) (x := (M 169 (261 * (h - 1) + i))) dX8_undo_48 (rfl) (by omega) (by omega) (by rw [hF2 169 (by decide), hO1 169 (by decide)]) ?_
          refine WP.iastore (y := i) dX8_undo_49 (rfl) (by omega) (by omega) rfl ?_
          obtain ⟨M3, hM3⟩ : ∃ z, z = (mset M2 168 i (M 169 (261 * (h - 1) + i))) := ⟨_, rfl⟩
          refine WP.eqM hM3.symm ?_
          have hO3 : ∀ a, a ≠ 168 → M3 a = M2 a := fun a ha => by rw [hM3]; exact mset_o a ha
          refine WP.iinc (lt := [vR 167, vI (((i : Nat) : Int) + 1)]) dX8_undo_50 rfl (by decide) rfl ?_
          refine WP.goto (tgt := 22) dX8_undo_53 (by decide) ?_
          refine WP.fgt (lt := [vR 167, vI (((i + 1) : Nat) : Int)]) ⟨Or.inr rfl, Or.inr (congrArg vI (by omega)), trivial⟩ ?_
          exact ih22 (i + 1) (M3) (by omega) (fun a ha => by rw [hM3, mset_o a ha]; exact hF2 a ha) (fun j hj => by
            rw [hM3]
            by_cases e9 : j = i
            · rw [e9, mset_s]
            · rw [mset_n (Or.inr e9)]; exact hA2 j (by omega)) (by omega)
    refine WP.fgt (lt := [vR 167, vI ((0 : Nat) : Int)]) ⟨Or.inr rfl, Or.inr (congrArg vI (by omega)), trivial⟩ ?_
    exact L22 _ (0) (M1) (by omega) (fun _ _ => rfl) (fun j hj => absurd hj (Nat.not_lt_zero j)) (Nat.lt_succ_self _)
  · skip
    refine WP.bipush dX8_undo_7 (by decide) ?_
    refine WP.iret dX8_undo_9 rfl ?_
    exact PM.same (if_pos (show h = 0 by omega)) hV
set_option maxHeartbeats 4000000 in
set_option maxRecDepth 20000 in
theorem y_begin {M : Mem} {n k h len : Nat} {sz tx : Nat → Nat} {ce : Nat → Nat → Nat} {hs : Nat → AR} {im : Nat → Option AR} (hV : InvM M (mkS n k sz ce h hs im len tx)) {x : Int} (hx : -2147483648 ≤ x ∧ x < 2147483648) : CT 40 m_X8_begin [vR 167, vI x] M (PM M (o_begin (mkS n k sz ce h hs im len tx) x)) := by
  have hA : BX (M 168) n k sz ce := hV.1.1
  have hW : Wf n k sz ce := hV.1.2
  have hH : HM M h hs := hV.2.1
  have hIM : IMm M im := hV.2.2.1
  have hS : SM M len tx := hV.2.2.2
  have b1 := hW.1
  have b2 := hW.2.1
  have hh8 := hH.1
  have hl3 := hS.1
  refine CT.ofWP (by decide +kernel) (Nat.le_of_ble_eq_true rfl) ?_
  show WP sc0 40 m_X8_begin 0 [vR 167, vI x, vU] [] M (PM M (o_begin (mkS n k sz ce h hs im len tx) x))
  refine WP.iload_n dX8_begin_0 rfl ?_
  refine WP.iconst dX8_begin_1 ?_
  refine WP.bipush dX8_begin_2 (by decide) ?_
  refine WP.callSp (as := [vI x, vI (0 : Int), vI (36 : Int)]) dX8_begin_4 ms_X8_43 rfl (w_isIn (by omega) (by omega) (by omega)) rfl (Nat.le_of_ble_eq_true rfl) (by omega) ?_
  refine WP.if_ne (tgt := 12) dX8_begin_7 (by decide) (bi_rng) (fun h7 => ?_) (fun h7 => ?_)
  · skip
    have q7 := bi_1 h7
    obtain ⟨c, hc0⟩ : ∃ c : Nat, x.toNat = c := ⟨_, rfl⟩
    have hc1 : x = ((c : Nat) : Int) := by omega
    refine WP.fgt (lt := [vR 167, vI ((c : Nat) : Int), vU]) ⟨Or.inr rfl, Or.inr (congrArg vI (hc1.symm)), Or.inl rfl, trivial⟩ ?_
    refine WP.aload_n dX8_begin_12 rfl ?_
    refine WP.callV (as := []) dX8_begin_13 mv_X8_51 rfl (rfl) (by decide) rfl rfl (w_remember (A := (n, k, sz, ce)) hH hV.1) rfl (Nat.le_of_ble_eq_true rfl) (by omega) (fun r9 M1 h9 => ?_)
    obtain ⟨rfl, hR1⟩ := h9
    have hA1 : BX (M1 168) n k sz ce := by rw [hR1.1 168 (by decide) (by decide)]; exact hA
    show WP sc0 40 m_X8_begin 16 [vR 167, vI ((c : Nat) : Int), vU] [] M1 (PM M (o_begin (mkS n k sz ce h hs im len tx) x))
    refine WP.aload_n dX8_begin_16 rfl ?_
    refine WP.getR (y := 168) dX8_begin_17 fl_X8_7 (rfl) (by decide) (rfl) ?_
    refine WP.iconst dX8_begin_20 ?_
    refine WP.iaload (y := 0) (x := ((n : Nat) : Int)) dX8_begin_21 (rfl) (by omega) (by omega) (hA1.1) ?_
    refine WP.istore_n (lt := [vR 167, vI ((c : Nat) : Int), vI ((n : Nat) : Int)]) dX8_begin_22 (by decide) rfl ?_
    refine WP.aload_n dX8_begin_23 rfl ?_
    refine WP.getR (y := 168) dX8_begin_24 fl_X8_7 (rfl) (by decide) (rfl) ?_
    refine WP.iconst dX8_begin_27 ?_
    refine WP.iload_n dX8_begin_28 rfl ?_
    refine WP.iastore (y := 0) dX8_begin_29 (rfl) (by omega) (by omega) rfl ?_
    obtain ⟨M2, hM2⟩ : ∃ z, z = (mset M1 168 0 ((c : Nat) : Int)) := ⟨_, rfl⟩
    refine WP.eqM hM2.symm ?_
    have hO2 : ∀ a, a ≠ 168 → M2 a = M1 a := fun a ha => by rw [hM2]; exact mset_o a ha
    refine WP.aload_n dX8_begin_30 rfl ?_
    refine WP.getR (y := 168) dX8_begin_31 fl_X8_7 (rfl) (by decide) (rfl) ?_
    refine WP.iconst dX8_begin_34 ?_
    refine WP.iconst dX8_begin_35 ?_
    refine WP.iastore (y := 1) dX8_begin_36 (rfl) (by omega) (by omega) rfl ?_
    obtain ⟨M3, hM3⟩ : ∃ z, z = (mset M2 168 1 (0 : Int)) := ⟨_, rfl⟩
    refine WP.eqM hM3.symm ?_
    have hO3 : ∀ a, a ≠ 168 → M3 a = M2 a := fun a ha => by rw [hM3]; exact mset_o a ha
    refine WP.iload_n dX8_begin_37 rfl ?_
    refine WP.iret dX8_begin_38 rfl ?_
    exact PM.ch (A' := (c, 0, sz, ce)) (by subst hc0; exact if_pos (by omega)) hV hR1 (fun a ha => by rw [hO3 a ha, hO2 a ha]) (⟨by rw [hM3, mset_n (Or.inr (by decide)), hM2, mset_s], by rw [hM3, mset_s]; rfl, fun b hb => absurd hb (Nat.not_lt_zero b), fun r _ b hb => absurd hb (Nat.not_lt_zero b)⟩) (⟨(show c ≤ 36 by omega), Nat.zero_le _, fun b hb => absurd hb (Nat.not_lt_zero b), fun r _ b hb => absurd hb (Nat.not_lt_zero b)⟩)
  · skip
    have q7 := bi_0 h7
    refine WP.iconst dX8_begin_10 ?_
    refine WP.iret dX8_begin_11 rfl ?_
    exact PM.same (if_neg q7) hV
/-- a column put behind the last -/
theorem BX_ap {f g : Nat → Int} {n k s : Nat} {sz : Nat → Nat} {ce : Nat → Nat → Nat} {x : Nat → Nat} (h : BX f n k sz ce) (hk : k < 7) (h0 : g 0 = f 0) (h1 : g 1 = ((k + 1 : Nat) : Int)) (h2 : ∀ c, c < k → g (2 + c) = f (2 + c)) (h3 : g (2 + k) = (s : Int)) (h4 : ∀ r, r < n → g (9 + 7 * r + k) = (x r : Int)) (h5 : ∀ r, r < n → ∀ c, c < k → g (9 + 7 * r + c) = f (9 + 7 * r + c)) : BX g n (k + 1) (apS sz k s) (apC ce k x) := by
  refine ⟨by rw [h0]; exact h.1, h1, fun c hc => ?_, fun r hr c hc => ?_⟩
  · unfold apS
    by_cases e : c = k
    · rw [if_pos e, e]; exact h3
    · rw [if_neg e, h2 c (by omega)]; exact h.2.2.1 c (by omega)
  · unfold apC
    by_cases e : c = k
    · rw [if_pos e, e]; exact h4 r hr
    · rw [if_neg e, h5 r hr c (by omega)]; exact h.2.2.2 r hr c (by omega)
set_option maxHeartbeats 4000000 in
set_option maxRecDepth 20000 in
theorem y_addColumn {M : Mem} {n k h len : Nat} {sz tx : Nat → Nat} {ce : Nat → Nat → Nat} {hs : Nat → AR} {im : Nat → Option AR} (hV : InvM M (mkS n k sz ce h hs im len tx)) {x : Int} (hx : -2147483648 ≤ x ∧ x < 2147483648) : CT 40 m_X8_addColumn [vR 167, vI x] M (PM M (o_addColumn (mkS n k sz ce h hs im len tx) x)) := by
  have hA : BX (M 168) n k sz ce := hV.1.1
  have hW : Wf n k sz ce := hV.1.2
  have hH : HM M h hs := hV.2.1
  have hIM : IMm M im := hV.2.2.1
  have hS : SM M len tx := hV.2.2.2
  have b1 := hW.1
  have b2 := hW.2.1
  have hh8 := hH.1
  have hl3 := hS.1
  refine CT.ofWP (by decide +kernel) (Nat.le_of_ble_eq_true rfl) ?_
  show WP sc0 40 m_X8_addColumn 0 [vR 167, vI x, vU, vU] [] M (PM M (o_addColumn (mkS n k sz ce h hs im len tx) x))
  refine WP.iload_n dX8_addColumn_0 rfl ?_
  refine WP.callSp (as := [vI x]) dX8_addColumn_1 ms_X8_54 rfl (w_isLevels (by omega)) rfl (Nat.le_of_ble_eq_true rfl) (by omega) ?_
  refine WP.if_ne (tgt := 9) dX8_addColumn_4 (by decide) (bi_rng) (fun h4 => ?_) (fun h4 => ?_)
  · skip
    have q4 := bi_1 h4
    obtain ⟨c, hc0⟩ : ∃ c : Nat, x.toNat = c := ⟨_, rfl⟩
    have hc1 : x = ((c : Nat) : Int) := by omega
    refine WP.fgt (lt := [vR 167, vI ((c : Nat) : Int), vU, vU]) ⟨Or.inr rfl, Or.inr (congrArg vI (hc1.symm)), Or.inl rfl, Or.inl rfl, trivial⟩ ?_
    refine WP.aload_n dX8_addColumn_9 rfl ?_
    refine WP.getR (y := 168) dX8_addColumn_10 fl_X8_7 (rfl) (by decide) (rfl) ?_
    refine WP.iconst dX8_addColumn_13 ?_
    refine WP.iaload (y := 1) (x := ((k : Nat) : Int)) dX8_addColumn_14 (rfl) (by omega) (by omega) (hA.2.1) ?_
    refine WP.bipush dX8_addColumn_15 (by decide) ?_
    refine WP.icmp_ne (tgt := 23) dX8_addColumn_17 (by decide) (by omega) (by omega) (fun h17 => ?_) (fun h17 => ?_)
    · skip
      refine WP.aload_n dX8_addColumn_23 rfl ?_
      refine WP.callV (as := []) dX8_addColumn_24 mv_X8_51 rfl (rfl) (by decide) rfl rfl (w_remember (A := (n, k, sz, ce)) hH hV.1) rfl (Nat.le_of_ble_eq_true rfl) (by omega) (fun r9 M1 h9 => ?_)
      obtain ⟨rfl, hR1⟩ := h9
      have hA1 : BX (M1 168) n k sz ce := by rw [hR1.1 168 (by decide) (by decide)]; exact hA
      show WP sc0 40 m_X8_addColumn 27 [vR 167, vI ((c : Nat) : Int), vU, vU] [] M1 (PM M (o_addColumn (mkS n k sz ce h hs im len tx) x))
      refine WP.aload_n dX8_addColumn_27 rfl ?_
      refine WP.getR (y := 168) dX8_addColumn_28 fl_X8_7 (rfl) (by decide) (rfl) ?_
      refine WP.iconst dX8_addColumn_31 ?_
      refine WP.iaload (y := 1) (x := ((k : Nat) : Int)) dX8_addColumn_32 (rfl) (by omega) (by omega) (hA1.2.1) ?_
      refine WP.istore_n (lt := [vR 167, vI ((c : Nat) : Int), vI ((k : Nat) : Int), vU]) dX8_addColumn_33 (by decide) rfl ?_
      refine WP.aload_n dX8_addColumn_34 rfl ?_
      refine WP.getR (y := 168) dX8_addColumn_35 fl_X8_7 (rfl) (by decide) (rfl) ?_
      refine WP.iconst dX8_addColumn_38 ?_
      refine WP.iload_n dX8_addColumn_39 rfl ?_
      refine WP.iadd dX8_addColumn_40 ?_
      refine WP.iload_n dX8_addColumn_41 rfl ?_
      refine WP.iastore (y := (2 + k)) dX8_addColumn_42 (rfl) (by omega) (by omega) rfl ?_
      obtain ⟨M2, hM2⟩ : ∃ z, z = (mset M1 168 ((2 + k)) ((c : Nat) : Int)) := ⟨_, rfl⟩
      refine WP.eqM hM2.symm ?_
      have hO2 : ∀ a, a ≠ 168 → M2 a = M1 a := fun a ha => by rw [hM2]; exact mset_o a ha
      refine WP.aload_n dX8_addColumn_43 rfl ?_
      refine WP.getR (y := 168) dX8_addColumn_44 fl_X8_7 (rfl) (by decide) (rfl) ?_
      refine WP.iconst dX8_addColumn_47 ?_
      refine WP.dup2 dX8_addColumn_48 rfl rfl ?_
      refine WP.iaload (y := 1) (x := ((k : Nat) : Int)) dX8_addColumn_49 (rfl) (by omega) (by omega) (by rw [hM2, mset_n (Or.inr (by omega))]; exact hA1.2.1) ?_
      refine WP.iconst dX8_addColumn_50 ?_
      refine WP.iadd dX8_addColumn_51 ?_
      refine WP.iastore (y := 1) dX8_addColumn_52 (rfl) (by omega) (by omega) rfl ?_
      obtain ⟨M3, hM3⟩ : ∃ z, z = (mset M2 168 1 (((k : Nat) : Int) + (1 : Int))) := ⟨_, rfl⟩
      refine WP.eqM hM3.symm ?_
      have hO3 : ∀ a, a ≠ 168 → M3 a = M2 a := fun a ha => by rw [hM3]; exact mset_o a ha
      refine WP.iconst dX8_addColumn_53 ?_
      refine WP.istore_n (lt := [vR 167, vI ((c : Nat) : Int), vI ((k : Nat) : Int), vI (0 : Int)]) dX8_addColumn_54 (by decide) rfl ?_
      have L55 : ∀ (n9 : Nat) (r : Nat) (M4 : Mem) (hr : r ≤ 36) (hF4 : ∀ a, a ≠ 168 → M4 a = M3 a) (hA4 : ∀ q, q < r → M4 168 (9 + 7 * q + k) = 0) (hB4 : ∀ j, (j < 9 ∨ (j - 9) % 7 ≠ k) → M4 168 j = M3 168 j), 36 - r < n9 → WP sc0 40 m_X8_addColumn 55 [vR 167, vI ((c : Nat) : Int), vI ((k : Nat) : Int), vI ((r : Nat) : Int)] [] M4 (PM M (o_addColumn (mkS n k sz ce h hs im len tx) x)) := by
        intro n9
        induction n9 with
        | zero =>
          intro r M4 hr hF4 hA4 hB4 hm9
          exact absurd hm9 (Nat.not_lt_zero _)
        | succ n9 ih55 =>
          intro r M4 hr hF4 hA4 hB4 hm9
          refine WP.iload_n dX8_addColumn_55 rfl ?_
          refine WP.bipush dX8_addColumn_56 (by decide) ?_
          refine WP.icmp_ge (tgt := 74) dX8_addColumn_58 (by decide) (by omega) (by omega) (fun h58 => ?_) (fun h58 => ?_)
          · skip
            refine WP.iload_n dX8_addColumn_74 rfl ?_
            refine WP.iret dX8_addColumn_75 rfl ?_
            exact PM.ch (A' := (n, k + 1, apS sz k c, apC ce k (fun _ => 0))) (by subst hc0; exact (if_pos q4).trans (if_neg (show ¬ k = 7 by omega))) hV hR1 (fun a ha => by rw [hF4 a ha, hO3 a ha, hO2 a ha]) (BX_ap (x := fun _ => 0) hA1 (by omega) (by rw [hB4 0 (by omega), hM3, mset_n (Or.inr (by decide)), hM2, mset_n (Or.inr (by omega))]) (by rw [hB4 1 (by omega), hM3, mset_s]; omega) (fun b hb => by rw [hB4 _ (by omega), hM3, mset_n (Or.inr (by omega)), hM2, mset_n (Or.inr (by omega))]) (by rw [hB4 _ (by omega), hM3, mset_n (Or.inr (by omega)), hM2, mset_s]) (fun r9 hr9 => hA4 r9 (by omega)) (fun r9 hr9 b hb => by rw [hB4 _ (by omega), hM3, mset_n (Or.inr (by omega)), hM2, mset_n (Or.inr (by omega))])) (Wf_ap hW (by omega) (by omega) (fun _ _ => by omega))
          · skip
            refine WP.aload_n dX8_addColumn_61 rfl ?_
            refine WP.iload_n dX8_addColumn_62 rfl ?_
            refine WP.iload_n dX8_addColumn_63 rfl ?_
            refine WP.iconst dX8_addColumn_64 ?_
            refine WP.callV (as := [vI ((r : Nat) : Int), vI ((k : Nat) : Int), vI (0 : Int)]) dX8_addColumn_65 mv_X8_58 rfl (rfl) (by decide) rfl rfl (w_set (r := r) (c := k) (by omega) (by omega)) rfl (Nat.le_of_ble_eq_true rfl) (by omega) (fun r9 M5 h9 => ?_)
            obtain ⟨rfl, f5, g5, e5⟩ := h9
            show WP sc0 40 m_X8_addColumn 68 [vR 167, vI ((c : Nat) : Int), vI ((k : Nat) : Int), vI ((r : Nat) : Int)] [] M5 (PM M (o_addColumn (mkS n k sz ce h hs im len tx) x))
            refine WP.iinc (lt := [vR 167, vI ((c : Nat) : Int), vI ((k : Nat) : Int), vI (((r : Nat) : Int) + 1)]) dX8_addColumn_68 rfl (by decide) rfl ?_
            refine WP.goto (tgt := 55) dX8_addColumn_71 (by decide) ?_
            refine WP.fgt (lt := [vR 167, vI ((c : Nat) : Int), vI ((k : Nat) : Int), vI (((r + 1) : Nat) : Int)]) ⟨Or.inr rfl, Or.inr rfl, Or.inr rfl, Or.inr (congrArg vI (by omega)), trivial⟩ ?_
            exact ih55 (r + 1) (M5) (by omega) (fun a ha => (f5 a ha).trans (hF4 a ha)) (fun q hq => by
              by_cases e9 : q = r
              · rw [e9]; exact g5
              · rw [e5 _ (by omega)]; exact hA4 q (by omega)) (fun j hj => by rw [e5 _ (by omega)]; exact hB4 j hj) (by omega)
      refine WP.fgt (lt := [vR 167, vI ((c : Nat) : Int), vI ((k : Nat) : Int), vI ((0 : Nat) : Int)]) ⟨Or.inr rfl, Or.inr rfl, Or.inr rfl, Or.inr (congrArg vI (by omega)), trivial⟩ ?_
      exact L55 _ (0) (M3) (by omega) (fun _ _ => rfl) (fun q hq => absurd hq (Nat.not_lt_zero q)) (fun _ _ => rfl) (Nat.lt_succ_self _)
    · skip
      refine WP.bipush dX8_addColumn_20 (by decide) ?_
      refine WP.iret dX8_addColumn_22 rfl ?_
      exact PM.same ((if_pos q4).trans (if_pos (show k = 7 by omega))) hV
  · skip
    have q4 := bi_0 h4
    refine WP.iconst dX8_addColumn_7 ?_
    refine WP.iret dX8_addColumn_8 rfl ?_
    exact PM.same (if_neg q4) hV
set_option maxHeartbeats 4000000 in
set_option maxRecDepth 20000 in
theorem w_takeColumnOut {M : Mem} {n k : Nat} {sz : Nat → Nat} {ce : Nat → Nat → Nat} {c : Nat} (hA : BX (M 168) n k sz ce) (hW : Wf n k sz ce) (hc : c < k) : CT 2 m_X8_takeColumnOut [vR 167, vI ((c : Nat) : Int)] M (fun z M' => z = none ∧ (∀ a, a ≠ 168 → M' a = M a) ∧ BX (M' 168) n (k - 1) (rmS sz c) (rmC ce c)) := by
  have b1 := hW.1
  have b2 := hW.2.1
  refine CT.ofWP (by decide +kernel) (Nat.le_of_ble_eq_true rfl) ?_
  show WP sc0 2 m_X8_takeColumnOut 0 [vR 167, vI ((c : Nat) : Int), vU, vU] [] M (fun z M' => z = none ∧ (∀ a, a ≠ 168 → M' a = M a) ∧ BX (M' 168) n (k - 1) (rmS sz c) (rmC ce c))
  refine WP.aload_n dX8_takeColumnOut_0 rfl ?_
  refine WP.getR (y := 168) dX8_takeColumnOut_1 fl_X8_7 (rfl) (by decide) (rfl) ?_
  refine WP.iconst dX8_takeColumnOut_4 ?_
  refine WP.dup2 dX8_takeColumnOut_5 rfl rfl ?_
  refine WP.iaload (y := 1) (x := ((k : Nat) : Int)) dX8_takeColumnOut_6 (rfl) (by omega) (by omega) (hA.2.1) ?_
  refine WP.iconst dX8_takeColumnOut_7 ?_
  refine WP.isub dX8_takeColumnOut_8 ?_
  refine WP.iastore (y := 1) dX8_takeColumnOut_9 (rfl) (by omega) (by omega) rfl ?_
  obtain ⟨M1, hM1⟩ : ∃ z, z = (mset M 168 1 (((k : Nat) : Int) - (1 : Int))) := ⟨_, rfl⟩
  refine WP.eqM hM1.symm ?_
  have hO1 : ∀ a, a ≠ 168 → M1 a = M a := fun a ha => by rw [hM1]; exact mset_o a ha
  refine WP.iload_n dX8_takeColumnOut_10 rfl ?_
  refine WP.istore_n (lt := [vR 167, vI ((c : Nat) : Int), vI ((c : Nat) : Int), vU]) dX8_takeColumnOut_11 (by decide) rfl ?_
  have L12 : ∀ (n9 : Nat) (i : Nat) (M2 : Mem) (hi : c ≤ i ∧ i ≤ k - 1) (hF2 : ∀ a, a ≠ 168 → M2 a = M a) (h02 : M2 168 0 = (n : Int)) (hk2 : M2 168 1 = ((k - 1 : Nat) : Int)) (hL2 : ∀ b, b < 7 → M2 168 (2 + b) = M 168 (2 + (if c ≤ b ∧ b < i then b + 1 else b))) (hC2 : ∀ q b, b < 7 → q < 36 → M2 168 (9 + 7 * q + b) = M 168 (9 + 7 * q + (if c ≤ b ∧ b < i then b + 1 else b))), k - i < n9 → WP sc0 2 m_X8_takeColumnOut 12 [vR 167, vI ((c : Nat) : Int), vI ((i : Nat) : Int), vU] [] M2 (fun z M' => z = none ∧ (∀ a, a ≠ 168 → M' a = M a) ∧ BX (M' 168) n (k - 1) (rmS sz c) (rmC ce c)) := by
    intro n9
    induction n9 with
    | zero =>
      intro i M2 hi hF2 h02 hk2 hL2 hC2 hm9
      exact absurd hm9 (Nat.not_lt_zero _)
    | succ n9 ih12 =>
      intro i M2 hi hF2 h02 hk2 hL2 hC2 hm9
      refine WP.iload_n dX8_takeColumnOut_12 rfl ?_
      refine WP.aload_n dX8_takeColumnOut_13 rfl ?_
      refine WP.getR (y := 168) dX8_takeColumnOut_14 fl_X8_7 (rfl) (by decide) (rfl) ?_
      refine WP.iconst dX8_takeColumnOut_17 ?_
      refine WP.iaload (y := 1) (x := ((k - 1 : Nat) : Int)) dX8_takeColumnOut_18 (rfl) (by omega) (by omega) (hk2) ?_
      refine WP.icmp_ge (tgt := 74) dX8_takeColumnOut_19 (by decide) (by omega) (by omega) (fun h19 => ?_) (fun h19 => ?_)
      · skip
        refine WP.vret dX8_takeColumnOut_74 rfl ?_
        refine ⟨rfl, hF2, h02, hk2, fun b hb => ?_, fun r hr b hb => ?_⟩
        · rw [hL2 b (by omega)]
          unfold rmS
          by_cases e9 : b < c
          · rw [if_pos e9, if_neg (by omega)]; exact hA.2.2.1 b (by omega)
          · rw [if_neg e9, if_pos (by omega)]; exact hA.2.2.1 (b + 1) (by omega)
        · rw [hC2 r b (by omega) (by omega)]
          unfold rmC
          by_cases e9 : b < c
          · rw [if_pos e9, if_neg (by omega)]; exact hA.2.2.2 r hr b (by omega)
          · rw [if_neg e9, if_pos (by omega)]; exact hA.2.2.2 r hr (b + 1) (by omega)
      · skip
        refine WP.aload_n dX8_takeColumnOut_22 rfl ?_
        refine WP.getR (y := 168) dX8_takeColumnOut_23 fl_X8_7 (rfl) (by decide) (rfl) ?_
        refine WP.iconst dX8_takeColumnOut_26 ?_
        refine WP.iload_n dX8_takeColumnOut_27 rfl ?_
        refine WP.iadd dX8_takeColumnOut_28 ?_
        refine WP.aload_n dX8_takeColumnOut_29 rfl ?_
        refine WP.getR (y := 168) dX8_takeColumnOut_30 fl_X8_7 (rfl) (by decide) (rfl) ?_
        refine WP.iconst dX8_takeColumnOut_33 ?_
        refine WP.iload_n dX8_takeColumnOut_34 rfl ?_
        refine WP.iadd dX8_takeColumnOut_35 ?_
        refine WP.iconst dX8_takeColumnOut_36 ?_
        refine WP.iadd dX8_takeColumnOut_37 ?_
        refine WP.iaload (y := (2 + (i + 1))) (x := (M 168 (2 + (i + 1)))) dX8_takeColumnOut_38 (rfl) (by omega) (by omega) (by rw [hL2 (i + 1) (by omega), if_neg (by omega)]) ?_
        refine WP.iastore (y := (2 + i)) dX8_takeColumnOut_39 (rfl) (by omega) (by omega) rfl ?_
        obtain ⟨M3, hM3⟩ : ∃ z, z = (mset M2 168 ((2 + i)) (M 168 (2 + (i + 1)))) := ⟨_, rfl⟩
        refine WP.eqM hM3.symm ?_
        have hO3 : ∀ a, a ≠ 168 → M3 a = M2 a := fun a ha => by rw [hM3]; exact mset_o a ha
        refine WP.iconst dX8_takeColumnOut_40 ?_
        refine WP.istore_n (lt := [vR 167, vI ((c : Nat) : Int), vI ((i : Nat) : Int), vI (0 : Int)]) dX8_takeColumnOut_41 (by decide) rfl ?_
        have L42 : ∀ (n9 : Nat) (r : Nat) (M4 : Mem) (hr : r ≤ 36) (hF4 : ∀ a, a ≠ 168 → M4 a = M a) (h04 : M4 168 0 = (n : Int)) (hk4 : M4 168 1 = ((k - 1 : Nat) : Int)) (hL4 : ∀ b, b < 7 → M4 168 (2 + b) = M 168 (2 + (if c ≤ b ∧ b < i + 1 then b + 1 else b))) (hX4 : ∀ q b, b < 7 → q < 36 → M4 168 (9 + 7 * q + b) = M 168 (9 + 7 * q + (if c ≤ b ∧ (b < i ∨ (b = i ∧ q < r)) then b + 1 else b))), 36 - r < n9 → WP sc0 2 m_X8_takeColumnOut 42 [vR 167, vI ((c : Nat) : Int), vI ((i : Nat) : Int), vI ((r : Nat) : Int)] [] M4 (fun z M' => z = none ∧ (∀ a, a ≠ 168 → M' a = M a) ∧ BX (M' 168) n (k - 1) (rmS sz c) (rmC ce c)) := by
          intro n9
          induction n9 with
          | zero =>
            intro r M4 hr hF4 h04 hk4 hL4 hX4 hm9
            exact absurd hm9 (Nat.not_lt_zero _)
          | succ n9 ih42 =>
            intro r M4 hr hF4 h04 hk4 hL4 hX4 hm9
            refine WP.iload_n dX8_takeColumnOut_42 rfl ?_
            refine WP.bipush dX8_takeColumnOut_43 (by decide) ?_
            refine WP.icmp_ge (tgt := 68) dX8_takeColumnOut_45 (by decide) (by omega) (by omega) (fun h45 => ?_) (fun h45 => ?_)
            · skip
              have hC4 : ∀ q b, b < 7 → q < 36 → M4 168 (9 + 7 * q + b) = M 168 (9 + 7 * q + (if c ≤ b ∧ b < i + 1 then b + 1 else b)) := fun q b hb hq => by
                rw [hX4 q b hb hq]
                by_cases e8 : c ≤ b ∧ (b < i ∨ (b = i ∧ q < r))
                · rw [if_pos e8, if_pos (by omega)]
                · rw [if_neg e8, if_neg (by omega)]
              refine WP.iinc (lt := [vR 167, vI ((c : Nat) : Int), vI (((i : Nat) : Int) + 1), vI ((r : Nat) : Int)]) dX8_takeColumnOut_68 rfl (by decide) rfl ?_
              refine WP.goto (tgt := 12) dX8_takeColumnOut_71 (by decide) ?_
              refine WP.fgt (lt := [vR 167, vI ((c : Nat) : Int), vI (((i + 1) : Nat) : Int), vU]) ⟨Or.inr rfl, Or.inr rfl, Or.inr (congrArg vI (by omega)), Or.inl rfl, trivial⟩ ?_
              exact ih12 (i + 1) (M4) (by omega) (hF4) (h04) (hk4) (hL4) (hC4) (by omega)
            · skip
              refine WP.aload_n dX8_takeColumnOut_48 rfl ?_
              refine WP.iload_n dX8_takeColumnOut_49 rfl ?_
              refine WP.iload_n dX8_takeColumnOut_50 rfl ?_
              refine WP.aload_n dX8_takeColumnOut_51 rfl ?_
              refine WP.iload_n dX8_takeColumnOut_52 rfl ?_
              refine WP.iload_n dX8_takeColumnOut_53 rfl ?_
              refine WP.iconst dX8_takeColumnOut_54 ?_
              refine WP.iadd dX8_takeColumnOut_55 ?_
              refine WP.eqs (st' := [vI ((i + 1 : Nat) : Int), vI ((r : Nat) : Int), vR 167, vI ((i : Nat) : Int), vI ((r : Nat) : Int), vR 167]) rfl (lc (congrArg vI (by omega)) (lc (rfl) (rfl))) ?_
              refine WP.callVp (as := [vI ((r : Nat) : Int), vI ((i + 1 : Nat) : Int)]) dX8_takeColumnOut_56 mv_X8_62 rfl (rfl) (by decide) rfl rfl (w_at (r := r) (c := i + 1) (x := M 168 (9 + 7 * r + (i + 1))) (by omega) (by omega) (by rw [hX4 r (i + 1) (by omega) (by omega), if_neg (by omega)])) rfl (Nat.le_of_ble_eq_true rfl) (by omega) ?_
              refine WP.callV (as := [vI ((r : Nat) : Int), vI ((i : Nat) : Int), vI (M 168 (9 + 7 * r + (i + 1)))]) dX8_takeColumnOut_59 mv_X8_58 rfl (rfl) (by decide) rfl rfl (w_set (r := r) (c := i) (by omega) (by omega)) rfl (Nat.le_of_ble_eq_true rfl) (by omega) (fun r9 M5 h9 => ?_)
              obtain ⟨rfl, f5, g5, e5⟩ := h9
              show WP sc0 2 m_X8_takeColumnOut 62 [vR 167, vI ((c : Nat) : Int), vI ((i : Nat) : Int), vI ((r : Nat) : Int)] [] M5 (fun z M' => z = none ∧ (∀ a, a ≠ 168 → M' a = M a) ∧ BX (M' 168) n (k - 1) (rmS sz c) (rmC ce c))
              refine WP.iinc (lt := [vR 167, vI ((c : Nat) : Int), vI ((i : Nat) : Int), vI (((r : Nat) : Int) + 1)]) dX8_takeColumnOut_62 rfl (by decide) rfl ?_
              refine WP.goto (tgt := 42) dX8_takeColumnOut_65 (by decide) ?_
              refine WP.fgt (lt := [vR 167, vI ((c : Nat) : Int), vI ((i : Nat) : Int), vI (((r + 1) : Nat) : Int)]) ⟨Or.inr rfl, Or.inr rfl, Or.inr rfl, Or.inr (congrArg vI (by omega)), trivial⟩ ?_
              exact ih42 (r + 1) (M5) (by omega) (fun a ha => (f5 a ha).trans (hF4 a ha)) (by rw [e5 _ (by omega)]; exact h04) (by rw [e5 _ (by omega)]; exact hk4) (fun b hb => by rw [e5 _ (by omega)]; exact hL4 b hb) (fun q b hb hq => by
                by_cases e9 : q = r ∧ b = i
                · rw [e9.1, e9.2, g5, if_pos (by omega)]
                · rw [e5 _ (by omega), hX4 q b hb hq]
                  by_cases e8 : c ≤ b ∧ (b < i ∨ (b = i ∧ q < r))
                  · rw [if_pos e8, if_pos (by omega)]
                  · rw [if_neg e8, if_neg (by omega)]) (by omega)
        refine WP.fgt (lt := [vR 167, vI ((c : Nat) : Int), vI ((i : Nat) : Int), vI ((0 : Nat) : Int)]) ⟨Or.inr rfl, Or.inr rfl, Or.inr rfl, Or.inr (congrArg vI (by omega)), trivial⟩ ?_
        exact L42 _ (0) (M3) (by omega) (fun a ha => (hO3 a ha).trans (hF2 a ha)) (by rw [hM3, mset_n (Or.inr (by omega))]; exact h02) (by rw [hM3, mset_n (Or.inr (by omega))]; exact hk2) (fun b hb => by
          rw [hM3]
          by_cases e9 : b = i
          · rw [e9, mset_s, if_pos (by omega)]
          · rw [mset_n (Or.inr (by omega)), hL2 b hb]
            by_cases e8 : c ≤ b ∧ b < i
            · rw [if_pos e8, if_pos (by omega)]
            · rw [if_neg e8, if_neg (by omega)]) (fun q b hb hq => by
          rw [hM3, mset_n (Or.inr (by omega)), hC2 q b hb hq]
          by_cases e8 : c ≤ b ∧ b < i
          · rw [if_pos e8, if_pos (by omega)]
          · rw [if_neg e8, if_neg (by omega)]) (Nat.lt_succ_self _)
  exact L12 _ (c) (M1) (by omega) (hO1) (by rw [hM1, mset_n (Or.inr (by decide))]; exact hA.1) (by rw [hM1, mset_s]; omega) (fun b hb => by rw [if_neg (by omega), hM1, mset_n (Or.inr (by omega))]) (fun q b hb _ => by rw [if_neg (by omega), hM1, mset_n (Or.inr (by omega))]) (Nat.lt_succ_self _)
set_option maxHeartbeats 4000000 in
set_option maxRecDepth 20000 in
theorem y_dropColumn {M : Mem} {n k h len : Nat} {sz tx : Nat → Nat} {ce : Nat → Nat → Nat} {hs : Nat → AR} {im : Nat → Option AR} (hV : InvM M (mkS n k sz ce h hs im len tx)) {x : Int} (hx : -2147483648 ≤ x ∧ x < 2147483648) : CT 40 m_X8_dropColumn [vR 167, vI x] M (PM M (o_dropColumn (mkS n k sz ce h hs im len tx) x)) := by
  have hA : BX (M 168) n k sz ce := hV.1.1
  have hW : Wf n k sz ce := hV.1.2
  have hH : HM M h hs := hV.2.1
  have hIM : IMm M im := hV.2.2.1
  have hS : SM M len tx := hV.2.2.2
  have b1 := hW.1
  have b2 := hW.2.1
  have hh8 := hH.1
  have hl3 := hS.1
  refine CT.ofWP (by decide +kernel) (Nat.le_of_ble_eq_true rfl) ?_
  show WP sc0 40 m_X8_dropColumn 0 [vR 167, vI x] [] M (PM M (o_dropColumn (mkS n k sz ce h hs im len tx) x))
  refine WP.aload_n dX8_dropColumn_0 rfl ?_
  refine WP.iload_n dX8_dropColumn_1 rfl ?_
  refine WP.callVp (as := [vI x]) dX8_dropColumn_2 mv_X8_66 rfl (rfl) (by decide) rfl rfl (w_isColumn hA hW (by omega)) rfl (Nat.le_of_ble_eq_true rfl) (by omega) ?_
  refine WP.if_ne (tgt := 10) dX8_dropColumn_5 (by decide) (bi_rng) (fun h5 => ?_) (fun h5 => ?_)
  · skip
    have q5 := bi_1 h5
    obtain ⟨c, hc0⟩ : ∃ c : Nat, x.toNat = c := ⟨_, rfl⟩
    have hc1 : x = ((c : Nat) : Int) := by omega
    refine WP.fgt (lt := [vR 167, vI ((c : Nat) : Int)]) ⟨Or.inr rfl, Or.inr (congrArg vI (hc1.symm)), trivial⟩ ?_
    refine WP.aload_n dX8_dropColumn_10 rfl ?_
    refine WP.callV (as := []) dX8_dropColumn_11 mv_X8_51 rfl (rfl) (by decide) rfl rfl (w_remember (A := (n, k, sz, ce)) hH hV.1) rfl (Nat.le_of_ble_eq_true rfl) (by omega) (fun r9 M1 h9 => ?_)
    obtain ⟨rfl, hR1⟩ := h9
    have hA1 : BX (M1 168) n k sz ce := by rw [hR1.1 168 (by decide) (by decide)]; exact hA
    show WP sc0 40 m_X8_dropColumn 14 [vR 167, vI ((c : Nat) : Int)] [] M1 (PM M (o_dropColumn (mkS n k sz ce h hs im len tx) x))
    refine WP.aload_n dX8_dropColumn_14 rfl ?_
    refine WP.iload_n dX8_dropColumn_15 rfl ?_
    refine WP.callV (as := [vI ((c : Nat) : Int)]) dX8_dropColumn_16 mv_X8_69 rfl (rfl) (by decide) rfl rfl (w_takeColumnOut hA1 hW (c := c) (by omega)) rfl (Nat.le_of_ble_eq_true rfl) (by omega) (fun r9 M2 h9 => ?_)
    obtain ⟨rfl, e1, e2⟩ := h9
    show WP sc0 40 m_X8_dropColumn 19 [vR 167, vI ((c : Nat) : Int)] [] M2 (PM M (o_dropColumn (mkS n k sz ce h hs im len tx) x))
    refine WP.aload_n dX8_dropColumn_19 rfl ?_
    refine WP.getR (y := 168) dX8_dropColumn_20 fl_X8_7 (rfl) (by decide) (rfl) ?_
    refine WP.iconst dX8_dropColumn_23 ?_
    refine WP.iaload (y := 1) (x := ((k - 1 : Nat) : Int)) dX8_dropColumn_24 (rfl) (by omega) (by omega) (e2.2.1) ?_
    refine WP.iret dX8_dropColumn_25 rfl ?_
    exact PM.ch (A' := (n, k - 1, rmS sz c, rmC ce c)) (by subst hc0; exact cif_t q5) hV hR1 (e1) (e2) (Wf_rm hW (by omega))
  · skip
    have q5 := bi_0 h5
    refine WP.iconst dX8_dropColumn_8 ?_
    refine WP.iret dX8_dropColumn_9 rfl ?_
    exact PM.same (cif_f q5) hV
theorem BX_put {f g : Nat → Int} {n k r c v : Nat} {sz : Nat → Nat} {ce : Nat → Nat → Nat} (h : BX f n k sz ce) (hk : k ≤ 7) (hc : c < 7) (h1 : g (9 + 7 * r + c) = (v : Int)) (h2 : ∀ j, j ≠ 9 + 7 * r + c → g j = f j) : BX g n k sz (fun q b => if q = r ∧ b = c then v else ce q b) := by
  refine ⟨by rw [h2 _ (by omega)]; exact h.1, by rw [h2 _ (by omega)]; exact h.2.1, fun b hb => by rw [h2 _ (by omega)]; exact h.2.2.1 b hb, fun q hq b hb => ?_⟩
  dsimp only
  by_cases e : q = r ∧ b = c
  · rw [if_pos e, e.1, e.2]; exact h1
  · rw [if_neg e, h2 _ (by omega)]; exact h.2.2.2 q hq b hb
set_option maxHeartbeats 4000000 in
set_option maxRecDepth 20000 in
theorem y_put {M : Mem} {n k h len : Nat} {sz tx : Nat → Nat} {ce : Nat → Nat → Nat} {hs : Nat → AR} {im : Nat → Option AR} (hV : InvM M (mkS n k sz ce h hs im len tx)) {x : Int} (hx : -2147483648 ≤ x ∧ x < 2147483648) {y : Int} (hy : -2147483648 ≤ y ∧ y < 2147483648) {z : Int} (hz : -2147483648 ≤ z ∧ z < 2147483648) : CT 40 m_X8_put [vR 167, vI x, vI y, vI z] M (PM M (o_put (mkS n k sz ce h hs im len tx) x y z)) := by
  have hA : BX (M 168) n k sz ce := hV.1.1
  have hW : Wf n k sz ce := hV.1.2
  have hH : HM M h hs := hV.2.1
  have hIM : IMm M im := hV.2.2.1
  have hS : SM M len tx := hV.2.2.2
  have b1 := hW.1
  have b2 := hW.2.1
  have hh8 := hH.1
  have hl3 := hS.1
  refine CT.ofWP (by decide +kernel) (Nat.le_of_ble_eq_true rfl) ?_
  show WP sc0 40 m_X8_put 0 [vR 167, vI x, vI y, vI z, vU] [] M (PM M (o_put (mkS n k sz ce h hs im len tx) x y z))
  refine WP.aload_n dX8_put_0 rfl ?_
  refine WP.iload_n dX8_put_1 rfl ?_
  refine WP.callVp (as := [vI x]) dX8_put_2 mv_X8_73 rfl (rfl) (by decide) rfl rfl (w_isRow hA hW (by omega)) rfl (Nat.le_of_ble_eq_true rfl) (by omega) ?_
  refine WP.if_eq (tgt := 34) dX8_put_5 (by decide) (bi_rng) (fun h5 => ?_) (fun h5 => ?_)
  · skip
    have q5 := bi_0 h5
    refine WP.iconst dX8_put_34 ?_
    refine WP.iret dX8_put_35 rfl ?_
    exact PM.same (cif_f (fun z => q5 z.1)) hV
  · skip
    have q5 := bi_1 h5
    obtain ⟨r, hr0⟩ : ∃ r : Nat, x.toNat = r := ⟨_, rfl⟩
    have hr1 : x = ((r : Nat) : Int) := by omega
    refine WP.fgt (lt := [vR 167, vI ((r : Nat) : Int), vI y, vI z, vU]) ⟨Or.inr rfl, Or.inr (congrArg vI (hr1.symm)), Or.inr rfl, Or.inr rfl, Or.inl rfl, trivial⟩ ?_
    refine WP.aload_n dX8_put_8 rfl ?_
    refine WP.iload_n dX8_put_9 rfl ?_
    refine WP.callVp (as := [vI y]) dX8_put_10 mv_X8_66 rfl (rfl) (by decide) rfl rfl (w_isColumn hA hW (by omega)) rfl (Nat.le_of_ble_eq_true rfl) (by omega) ?_
    refine WP.if_eq (tgt := 34) dX8_put_13 (by decide) (bi_rng) (fun h13 => ?_) (fun h13 => ?_)
    · skip
      have q13 := bi_0 h13
      refine WP.iconst dX8_put_34 ?_
      refine WP.iret dX8_put_35 rfl ?_
      exact PM.same (cif_f (fun z => q13 z.2.1)) hV
    · skip
      have q13 := bi_1 h13
      obtain ⟨c, hc0⟩ : ∃ c : Nat, y.toNat = c := ⟨_, rfl⟩
      have hc1 : y = ((c : Nat) : Int) := by omega
      refine WP.fgt (lt := [vR 167, vI ((r : Nat) : Int), vI ((c : Nat) : Int), vI z, vU]) ⟨Or.inr rfl, Or.inr rfl, Or.inr (congrArg vI (hc1.symm)), Or.inr rfl, Or.inl rfl, trivial⟩ ?_
      have w1 := hW.2.2.1 c (by omega)
      refine WP.iload_n dX8_put_16 rfl ?_
      refine WP.iconst dX8_put_17 ?_
      refine WP.aload_n dX8_put_18 rfl ?_
      refine WP.getR (y := 168) dX8_put_19 fl_X8_7 (rfl) (by decide) (rfl) ?_
      refine WP.iconst dX8_put_22 ?_
      refine WP.iload_n dX8_put_23 rfl ?_
      refine WP.iadd dX8_put_24 ?_
      refine WP.iaload (y := (2 + c)) (x := ((sz c : Nat) : Int)) dX8_put_25 (rfl) (by omega) (by omega) (hA.2.2.1 _ (by omega)) ?_
      refine WP.iconst dX8_put_26 ?_
      refine WP.isub dX8_put_27 ?_
      refine WP.callSp (as := [vI z, vI (0 : Int), vI (((sz c : Nat) : Int) - (1 : Int))]) dX8_put_28 ms_X8_43 rfl (w_isIn (by omega) (by omega) (by omega)) rfl (Nat.le_of_ble_eq_true rfl) (by omega) ?_
      refine WP.if_ne (tgt := 36) dX8_put_31 (by decide) (bi_rng) (fun h31 => ?_) (fun h31 => ?_)
      · skip
        have q31 := bi_1 h31
        obtain ⟨v, hv0⟩ : ∃ v : Nat, z.toNat = v := ⟨_, rfl⟩
        have hv1 : z = ((v : Nat) : Int) := by omega
        refine WP.fgt (lt := [vR 167, vI ((r : Nat) : Int), vI ((c : Nat) : Int), vI ((v : Nat) : Int), vU]) ⟨Or.inr rfl, Or.inr rfl, Or.inr rfl, Or.inr (congrArg vI (hv1.symm)), Or.inl rfl, trivial⟩ ?_
        refine WP.aload_n dX8_put_36 rfl ?_
        refine WP.callV (as := []) dX8_put_37 mv_X8_51 rfl (rfl) (by decide) rfl rfl (w_remember (A := (n, k, sz, ce)) hH hV.1) rfl (Nat.le_of_ble_eq_true rfl) (by omega) (fun r9 M1 h9 => ?_)
        obtain ⟨rfl, hR1⟩ := h9
        have hA1 : BX (M1 168) n k sz ce := by rw [hR1.1 168 (by decide) (by decide)]; exact hA
        show WP sc0 40 m_X8_put 40 [vR 167, vI ((r : Nat) : Int), vI ((c : Nat) : Int), vI ((v : Nat) : Int), vU] [] M1 (PM M (o_put (mkS n k sz ce h hs im len tx) x y z))
        refine WP.aload_n dX8_put_40 rfl ?_
        refine WP.iload_n dX8_put_41 rfl ?_
        refine WP.iload_n dX8_put_42 rfl ?_
        refine WP.callVp (as := [vI ((r : Nat) : Int), vI ((c : Nat) : Int)]) dX8_put_43 mv_X8_62 rfl (rfl) (by decide) rfl rfl (w_at (r := r) (c := c) (by omega) (by omega) (hA1.2.2.2 (r) (by omega) (c) (by omega))) rfl (Nat.le_of_ble_eq_true rfl) (by omega) ?_
        refine WP.istore (lt := [vR 167, vI ((r : Nat) : Int), vI ((c : Nat) : Int), vI ((v : Nat) : Int), vI ((ce r c : Nat) : Int)]) dX8_put_46 (by decide) rfl ?_
        refine WP.aload_n dX8_put_48 rfl ?_
        refine WP.iload_n dX8_put_49 rfl ?_
        refine WP.iload_n dX8_put_50 rfl ?_
        refine WP.iload_n dX8_put_51 rfl ?_
        refine WP.callV (as := [vI ((r : Nat) : Int), vI ((c : Nat) : Int), vI ((v : Nat) : Int)]) dX8_put_52 mv_X8_58 rfl (rfl) (by decide) rfl rfl (w_set (r := r) (c := c) (by omega) (by omega)) rfl (Nat.le_of_ble_eq_true rfl) (by omega) (fun r9 M2 h9 => ?_)
        obtain ⟨rfl, f2, g2, e2⟩ := h9
        show WP sc0 40 m_X8_put 55 [vR 167, vI ((r : Nat) : Int), vI ((c : Nat) : Int), vI ((v : Nat) : Int), vI ((ce r c : Nat) : Int)] [] M2 (PM M (o_put (mkS n k sz ce h hs im len tx) x y z))
        refine WP.iload dX8_put_55 rfl ?_
        refine WP.iret dX8_put_57 rfl ?_
        exact PM.ch (A' := (n, k, sz, fun q b => if q = r ∧ b = c then v else ce q b)) (by subst hr0; subst hc0; subst hv0; exact cif_t ⟨q5, q13, (show 0 ≤ z ∧ z < ((sz y.toNat : Nat) : Int) by omega)⟩) hV hR1 (f2) (BX_put hA1 b2 (by omega) g2 e2) (Wf_put (c := c) (v := v) hW (show v < sz c by omega))
      · skip
        have q31 := bi_0 h31
        refine WP.iconst dX8_put_34 ?_
        refine WP.iret dX8_put_35 rfl ?_
        exact PM.same (cif_f (fun z => by have := z.2.2; dsimp only at this; subst hc0; omega)) hV
set_option maxHeartbeats 4000000 in
set_option maxRecDepth 20000 in
theorem w_copyRow {M : Mem} {p q : Nat} (hp : p < 36) (hq : q < 36) (hpq : p ≠ q) : CT 2 m_X8_copyRow [vR 167, vI ((p : Nat) : Int), vI ((q : Nat) : Int)] M (fun z M' => z = none ∧ (∀ a, a ≠ 168 → M' a = M a) ∧ (∀ b, b < 7 → M' 168 (9 + 7 * q + b) = M 168 (9 + 7 * p + b)) ∧ ∀ j, (j < 9 + 7 * q ∨ 9 + 7 * q + 7 ≤ j) → M' 168 j = M 168 j) := by
  refine CT.ofWP (by decide +kernel) (Nat.le_of_ble_eq_true rfl) ?_
  show WP sc0 2 m_X8_copyRow 0 [vR 167, vI ((p : Nat) : Int), vI ((q : Nat) : Int), vU] [] M (fun z M' => z = none ∧ (∀ a, a ≠ 168 → M' a = M a) ∧ (∀ b, b < 7 → M' 168 (9 + 7 * q + b) = M 168 (9 + 7 * p + b)) ∧ ∀ j, (j < 9 + 7 * q ∨ 9 + 7 * q + 7 ≤ j) → M' 168 j = M 168 j)
  refine WP.iconst dX8_copyRow_0 ?_
  refine WP.istore_n (lt := [vR 167, vI ((p : Nat) : Int), vI ((q : Nat) : Int), vI (0 : Int)]) dX8_copyRow_1 (by decide) rfl ?_
  have L2 : ∀ (n9 : Nat) (c : Nat) (M1 : Mem) (hc : c ≤ 7) (hF : ∀ a, a ≠ 168 → M1 a = M a) (hA1 : ∀ b, b < c → M1 168 (9 + 7 * q + b) = M 168 (9 + 7 * p + b)) (hB1 : ∀ j, (j < 9 + 7 * q ∨ 9 + 7 * q + c ≤ j) → M1 168 j = M 168 j), 7 - c < n9 → WP sc0 2 m_X8_copyRow 2 [vR 167, vI ((p : Nat) : Int), vI ((q : Nat) : Int), vI ((c : Nat) : Int)] [] M1 (fun z M' => z = none ∧ (∀ a, a ≠ 168 → M' a = M a) ∧ (∀ b, b < 7 → M' 168 (9 + 7 * q + b) = M 168 (9 + 7 * p + b)) ∧ ∀ j, (j < 9 + 7 * q ∨ 9 + 7 * q + 7 ≤ j) → M' 168 j = M 168 j) := by
    intro n9
    induction n9 with
    | zero =>
      intro c M1 hc hF hA1 hB1 hm9
      exact absurd hm9 (Nat.not_lt_zero _)
    | succ n9 ih2 =>
      intro c M1 hc hF hA1 hB1 hm9
      refine WP.iload_n dX8_copyRow_2 rfl ?_
      refine WP.bipush dX8_copyRow_3 (by decide) ?_
      refine WP.icmp_ge (tgt := 26) dX8_copyRow_5 (by decide) (by omega) (by omega) (fun h5 => ?_) (fun h5 => ?_)
      · skip
        refine WP.vret dX8_copyRow_26 rfl ?_
        exact ⟨rfl, hF, fun b hb => hA1 b (by omega), fun j hj => hB1 j (by omega)⟩
      · skip
        refine WP.aload_n dX8_copyRow_8 rfl ?_
        refine WP.iload_n dX8_copyRow_9 rfl ?_
        refine WP.iload_n dX8_copyRow_10 rfl ?_
        refine WP.aload_n dX8_copyRow_11 rfl ?_
        refine WP.iload_n dX8_copyRow_12 rfl ?_
        refine WP.iload_n dX8_copyRow_13 rfl ?_
        refine WP.callVp (as := [vI ((p : Nat) : Int), vI ((c : Nat) : Int)]) dX8_copyRow_14 mv_X8_62 rfl (rfl) (by decide) rfl rfl (w_at (r := p) (c := c) (x := M 168 (9 + 7 * p + c)) hp (by omega) (hB1 _ (by omega))) rfl (Nat.le_of_ble_eq_true rfl) (by omega) ?_
        refine WP.callV (as := [vI ((q : Nat) : Int), vI ((c : Nat) : Int), vI (M 168 (9 + 7 * p + c))]) dX8_copyRow_17 mv_X8_58 rfl (rfl) (by decide) rfl rfl (w_set (r := q) (c := c) hq (by omega)) rfl (Nat.le_of_ble_eq_true rfl) (by omega) (fun r9 M2 h9 => ?_)
        obtain ⟨rfl, f2, g2, e2⟩ := h9
        show WP sc0 2 m_X8_copyRow 20 [vR 167, vI ((p : Nat) : Int), vI ((q : Nat) : Int), vI ((c : Nat) : Int)] [] M2 (fun z M' => z = none ∧ (∀ a, a ≠ 168 → M' a = M a) ∧ (∀ b, b < 7 → M' 168 (9 + 7 * q + b) = M 168 (9 + 7 * p + b)) ∧ ∀ j, (j < 9 + 7 * q ∨ 9 + 7 * q + 7 ≤ j) → M' 168 j = M 168 j)
        refine WP.iinc (lt := [vR 167, vI ((p : Nat) : Int), vI ((q : Nat) : Int), vI (((c : Nat) : Int) + 1)]) dX8_copyRow_20 rfl (by decide) rfl ?_
        refine WP.goto (tgt := 2) dX8_copyRow_23 (by decide) ?_
        refine WP.fgt (lt := [vR 167, vI ((p : Nat) : Int), vI ((q : Nat) : Int), vI (((c + 1) : Nat) : Int)]) ⟨Or.inr rfl, Or.inr rfl, Or.inr rfl, Or.inr (congrArg vI (by omega)), trivial⟩ ?_
        exact ih2 (c + 1) (M2) (by omega) (fun a ha => (f2 a ha).trans (hF a ha)) (fun b hb => by
          by_cases e9 : b = c
          · rw [e9]; exact g2
          · rw [e2 _ (by omega)]; exact hA1 b (by omega)) (fun j hj => by rw [e2 _ (by omega)]; exact hB1 j (by omega)) (by omega)
  refine WP.fgt (lt := [vR 167, vI ((p : Nat) : Int), vI ((q : Nat) : Int), vI ((0 : Nat) : Int)]) ⟨Or.inr rfl, Or.inr rfl, Or.inr rfl, Or.inr (congrArg vI (by omega)), trivial⟩ ?_
  exact L2 _ (0) (M) (by omega) (fun _ _ => rfl) (fun b hb => absurd hb (Nat.not_lt_zero b)) (fun _ _ => rfl) (Nat.lt_succ_self _)
set_option maxHeartbeats 4000000 in
set_option maxRecDepth 20000 in
theorem w_takeRowOut {M : Mem} {n k : Nat} {sz : Nat → Nat} {ce : Nat → Nat → Nat} {r : Nat} (hA : BX (M 168) n k sz ce) (hW : Wf n k sz ce) (hr : r < n) : CT 3 m_X8_takeRowOut [vR 167, vI ((r : Nat) : Int)] M (fun z M' => z = none ∧ (∀ a, a ≠ 168 → M' a = M a) ∧ BX (M' 168) (n - 1) k sz (fun p c => if p < r then ce p c else ce (p + 1) c)) := by
  have b1 := hW.1
  have b2 := hW.2.1
  refine CT.ofWP (by decide +kernel) (Nat.le_of_ble_eq_true rfl) ?_
  show WP sc0 3 m_X8_takeRowOut 0 [vR 167, vI ((r : Nat) : Int), vU] [] M (fun z M' => z = none ∧ (∀ a, a ≠ 168 → M' a = M a) ∧ BX (M' 168) (n - 1) k sz (fun p c => if p < r then ce p c else ce (p + 1) c))
  refine WP.aload_n dX8_takeRowOut_0 rfl ?_
  refine WP.getR (y := 168) dX8_takeRowOut_1 fl_X8_7 (rfl) (by decide) (rfl) ?_
  refine WP.iconst dX8_takeRowOut_4 ?_
  refine WP.dup2 dX8_takeRowOut_5 rfl rfl ?_
  refine WP.iaload (y := 0) (x := ((n : Nat) : Int)) dX8_takeRowOut_6 (rfl) (by omega) (by omega) (hA.1) ?_
  refine WP.iconst dX8_takeRowOut_7 ?_
  refine WP.isub dX8_takeRowOut_8 ?_
  refine WP.iastore (y := 0) dX8_takeRowOut_9 (rfl) (by omega) (by omega) rfl ?_
  obtain ⟨M1, hM1⟩ : ∃ z, z = (mset M 168 0 (((n : Nat) : Int) - (1 : Int))) := ⟨_, rfl⟩
  refine WP.eqM hM1.symm ?_
  have hO1 : ∀ a, a ≠ 168 → M1 a = M a := fun a ha => by rw [hM1]; exact mset_o a ha
  refine WP.iload_n dX8_takeRowOut_10 rfl ?_
  refine WP.istore_n (lt := [vR 167, vI ((r : Nat) : Int), vI ((r : Nat) : Int)]) dX8_takeRowOut_11 (by decide) rfl ?_
  have L12 : ∀ (n9 : Nat) (i : Nat) (M2 : Mem) (hi : r ≤ i ∧ i ≤ n - 1) (hF2 : ∀ a, a ≠ 168 → M2 a = M a) (h02 : M2 168 0 = ((n - 1 : Nat) : Int)) (hB2 : ∀ j, 0 < j → j < 9 → M2 168 j = M 168 j) (hC2 : ∀ p, p < n → ∀ c, c < k → M2 168 (9 + 7 * p + c) = (((if r ≤ p ∧ p < i then ce (p + 1) c else ce p c) : Nat) : Int)), n - i < n9 → WP sc0 3 m_X8_takeRowOut 12 [vR 167, vI ((r : Nat) : Int), vI ((i : Nat) : Int)] [] M2 (fun z M' => z = none ∧ (∀ a, a ≠ 168 → M' a = M a) ∧ BX (M' 168) (n - 1) k sz (fun p c => if p < r then ce p c else ce (p + 1) c)) := by
    intro n9
    induction n9 with
    | zero =>
      intro i M2 hi hF2 h02 hB2 hC2 hm9
      exact absurd hm9 (Nat.not_lt_zero _)
    | succ n9 ih12 =>
      intro i M2 hi hF2 h02 hB2 hC2 hm9
      refine WP.iload_n dX8_takeRowOut_12 rfl ?_
      refine WP.aload_n dX8_takeRowOut_13 rfl ?_
      refine WP.getR (y := 168) dX8_takeRowOut_14 fl_X8_7 (rfl) (by decide) (rfl) ?_
      refine WP.iconst dX8_takeRowOut_17 ?_
      refine WP.iaload (y := 0) (x := ((n - 1 : Nat) : Int)) dX8_takeRowOut_18 (rfl) (by omega) (by omega) (h02) ?_
      refine WP.icmp_ge (tgt := 36) dX8_takeRowOut_19 (by decide) (by omega) (by omega) (fun h19 => ?_) (fun h19 => ?_)
      · skip
        refine WP.vret dX8_takeRowOut_36 rfl ?_
        refine ⟨rfl, hF2, h02, by rw [hB2 1 (by omega) (by omega)]; exact hA.2.1, fun b hb => by rw [hB2 _ (by omega) (by omega)]; exact hA.2.2.1 b hb, fun p hp c hc => ?_⟩
        rw [hC2 p (by omega) c hc]
        dsimp only
        by_cases e9 : p < r
        · rw [if_neg (by omega), if_pos e9]
        · rw [if_pos (by omega), if_neg e9]
      · skip
        refine WP.aload_n dX8_takeRowOut_22 rfl ?_
        refine WP.iload_n dX8_takeRowOut_23 rfl ?_
        refine WP.iconst dX8_takeRowOut_24 ?_
        refine WP.iadd dX8_takeRowOut_25 ?_
        refine WP.iload_n dX8_takeRowOut_26 rfl ?_
        refine WP.eqs (st' := [vI ((i : Nat) : Int), vI ((i + 1 : Nat) : Int), vR 167]) rfl (lc (rfl) (lc (congrArg vI (by omega)) (rfl))) ?_
        refine WP.callV (as := [vI ((i + 1 : Nat) : Int), vI ((i : Nat) : Int)]) dX8_takeRowOut_27 mv_X8_76 rfl (rfl) (by decide) rfl rfl (w_copyRow (p := i + 1) (q := i) (by omega) (by omega) (by omega)) rfl (Nat.le_of_ble_eq_true rfl) (by omega) (fun r9 M3 h9 => ?_)
        obtain ⟨rfl, f3, g3, e3⟩ := h9
        show WP sc0 3 m_X8_takeRowOut 30 [vR 167, vI ((r : Nat) : Int), vI ((i : Nat) : Int)] [] M3 (fun z M' => z = none ∧ (∀ a, a ≠ 168 → M' a = M a) ∧ BX (M' 168) (n - 1) k sz (fun p c => if p < r then ce p c else ce (p + 1) c))
        refine WP.iinc (lt := [vR 167, vI ((r : Nat) : Int), vI (((i : Nat) : Int) + 1)]) dX8_takeRowOut_30 rfl (by decide) rfl ?_
        refine WP.goto (tgt := 12) dX8_takeRowOut_33 (by decide) ?_
        refine WP.fgt (lt := [vR 167, vI ((r : Nat) : Int), vI (((i + 1) : Nat) : Int)]) ⟨Or.inr rfl, Or.inr rfl, Or.inr (congrArg vI (by omega)), trivial⟩ ?_
        exact ih12 (i + 1) (M3) (by omega) (fun a ha => (f3 a ha).trans (hF2 a ha)) (by rw [e3 _ (by omega)]; exact h02) (fun j i1 i2 => by rw [e3 _ (by omega)]; exact hB2 j i1 i2) (fun p hp c hc => by
          by_cases e9 : p = i
          · rw [e9, g3 c (by omega), if_pos (by omega), hC2 (i + 1) (by omega) c hc, if_neg (by omega)]
          · rw [e3 _ (by omega), hC2 p hp c hc]
            by_cases e8 : r ≤ p ∧ p < i
            · rw [if_pos e8, if_pos (by omega)]
            · rw [if_neg e8, if_neg (by omega)]) (by omega)
  exact L12 _ (r) (M1) (by omega) (hO1) (by rw [hM1, mset_s]; omega) (fun j i1 _ => by rw [hM1, mset_n (Or.inr (by omega))]) (fun p hp c hc => by rw [if_neg (by omega), hM1, mset_n (Or.inr (by omega))]; exact hA.2.2.2 p hp c hc) (Nat.lt_succ_self _)
set_option maxHeartbeats 4000000 in
set_option maxRecDepth 20000 in
theorem y_dropRow {M : Mem} {n k h len : Nat} {sz tx : Nat → Nat} {ce : Nat → Nat → Nat} {hs : Nat → AR} {im : Nat → Option AR} (hV : InvM M (mkS n k sz ce h hs im len tx)) {x : Int} (hx : -2147483648 ≤ x ∧ x < 2147483648) : CT 40 m_X8_dropRow [vR 167, vI x] M (PM M (o_dropRow (mkS n k sz ce h hs im len tx) x)) := by
  have hA : BX (M 168) n k sz ce := hV.1.1
  have hW : Wf n k sz ce := hV.1.2
  have hH : HM M h hs := hV.2.1
  have hIM : IMm M im := hV.2.2.1
  have hS : SM M len tx := hV.2.2.2
  have b1 := hW.1
  have b2 := hW.2.1
  have hh8 := hH.1
  have hl3 := hS.1
  refine CT.ofWP (by decide +kernel) (Nat.le_of_ble_eq_true rfl) ?_
  show WP sc0 40 m_X8_dropRow 0 [vR 167, vI x] [] M (PM M (o_dropRow (mkS n k sz ce h hs im len tx) x))
  refine WP.aload_n dX8_dropRow_0 rfl ?_
  refine WP.iload_n dX8_dropRow_1 rfl ?_
  refine WP.callVp (as := [vI x]) dX8_dropRow_2 mv_X8_73 rfl (rfl) (by decide) rfl rfl (w_isRow hA hW (by omega)) rfl (Nat.le_of_ble_eq_true rfl) (by omega) ?_
  refine WP.if_ne (tgt := 10) dX8_dropRow_5 (by decide) (bi_rng) (fun h5 => ?_) (fun h5 => ?_)
  · skip
    have q5 := bi_1 h5
    obtain ⟨c, hc0⟩ : ∃ c : Nat, x.toNat = c := ⟨_, rfl⟩
    have hc1 : x = ((c : Nat) : Int) := by omega
    refine WP.fgt (lt := [vR 167, vI ((c : Nat) : Int)]) ⟨Or.inr rfl, Or.inr (congrArg vI (hc1.symm)), trivial⟩ ?_
    refine WP.aload_n dX8_dropRow_10 rfl ?_
    refine WP.callV (as := []) dX8_dropRow_11 mv_X8_51 rfl (rfl) (by decide) rfl rfl (w_remember (A := (n, k, sz, ce)) hH hV.1) rfl (Nat.le_of_ble_eq_true rfl) (by omega) (fun r9 M1 h9 => ?_)
    obtain ⟨rfl, hR1⟩ := h9
    have hA1 : BX (M1 168) n k sz ce := by rw [hR1.1 168 (by decide) (by decide)]; exact hA
    show WP sc0 40 m_X8_dropRow 14 [vR 167, vI ((c : Nat) : Int)] [] M1 (PM M (o_dropRow (mkS n k sz ce h hs im len tx) x))
    refine WP.aload_n dX8_dropRow_14 rfl ?_
    refine WP.iload_n dX8_dropRow_15 rfl ?_
    refine WP.callV (as := [vI ((c : Nat) : Int)]) dX8_dropRow_16 mv_X8_80 rfl (rfl) (by decide) rfl rfl (w_takeRowOut hA1 hW (r := c) (by omega)) rfl (Nat.le_of_ble_eq_true rfl) (by omega) (fun r9 M2 h9 => ?_)
    obtain ⟨rfl, e1, e2⟩ := h9
    show WP sc0 40 m_X8_dropRow 19 [vR 167, vI ((c : Nat) : Int)] [] M2 (PM M (o_dropRow (mkS n k sz ce h hs im len tx) x))
    refine WP.aload_n dX8_dropRow_19 rfl ?_
    refine WP.getR (y := 168) dX8_dropRow_20 fl_X8_7 (rfl) (by decide) (rfl) ?_
    refine WP.iconst dX8_dropRow_23 ?_
    refine WP.iaload (y := 0) (x := ((n - 1 : Nat) : Int)) dX8_dropRow_24 (rfl) (by omega) (by omega) (e2.1) ?_
    refine WP.iret dX8_dropRow_25 rfl ?_
    exact PM.ch (A' := (n - 1, k, sz, fun p b => if p < c then ce p b else ce (p + 1) b)) (by subst hc0; exact cif_t q5) hV hR1 (e1) (e2) (Wf_dr hW (by omega))
  · skip
    have q5 := bi_0 h5
    refine WP.iconst dX8_dropRow_8 ?_
    refine WP.iret dX8_dropRow_9 rfl ?_
    exact PM.same (cif_f q5) hV
