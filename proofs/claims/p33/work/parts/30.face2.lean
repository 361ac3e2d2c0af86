theorem IMx.get {M : Mem} {im : Nat → Option AR} (h : IMx M im) {i : Nat} (hi : i < 2) : (M 46 i = 0 ∧ im i = none) ∨ (M 46 i = 1 ∧ ∃ n2 k2 sz2 ce2, im i = some (n2, k2, sz2, ce2) ∧ TX M (3 + 3 * i) n2 k2 sz2 ce2 ∧ Wf n2 k2 sz2 ce2) := by
  obtain ⟨h1, h2⟩ := h i hi
  cases e : im i with
  | none => exact Or.inl ⟨h1 e, rfl⟩
  | some B =>
    obtain ⟨g1, g2⟩ := h2 B e
    exact Or.inr ⟨g1, B.1, B.2.1, B.2.2.1, B.2.2.2, rfl, g2⟩
theorem isT_im {i : Nat} (h : i < 2) : isT (3 + 3 * i) := ⟨by omega, by omega⟩
theorem o_replace_n {S : ST} {c i : Int} (h : hC S c ∧ hI i) (e : S.2.2.1 i.toNat = none) : o_replace S c i = (-2, S) := by rw [o_replace, cif_t h, e]
theorem o_replace_s {S : ST} {c i : Int} {B : AR} (h : hC S c ∧ hI i) (e : S.2.2.1 i.toNat = some B) : o_replace S c i = o_replaceB S c.toNat B := by rw [o_replace, cif_t h, e]
theorem o_back_n {S : ST} {i : Int} (h : hI i) (e : S.2.2.1 i.toNat = none) : o_back S i = (-2, S) := by rw [o_back, cif_t h, e]
theorem o_back_s {S : ST} {i : Int} {B : AR} (h : hI i) (e : S.2.2.1 i.toNat = some B) : o_back S i = ((B.1 : Int), chg S B) := by rw [o_back, cif_t h, e]
theorem prs_s (n k : Nat) (ce : Nat → Nat → Nat) (m : Nat) : prs (n + 1) k ce m = prs n k ce m + cn (fun q => agr ce n q k = m) n := rfl
theorem fo_rng {len : Nat} {tx : Nat → Nat} {k : Nat} (hl : len ≤ 300) (hk : k ≤ 7) : ∀ (f row : Nat), -9 ≤ fo len tx k f row ∧ fo len tx k f row ≤ 309
  | 0, _ => ⟨by show (-9 : Int) ≤ 0; omega, by show (0 : Int) ≤ 309; omega⟩
  | f + 1, row => by
    by_cases h1 : k + row * (k + 1) < len
    · by_cases h2 : row = 36 ∨ tx (k + row * (k + 1)) ≠ 47
      · rw [fo_sl h1 h2]; omega
      · by_cases h3 : rb len tx (k + row * (k + 1) + 1) k 0 < k
        · rw [fo_row h1 h2 h3]; omega
        · rw [fo_on h1 h2 h3]; exact fo_rng hl hk f (row + 1)
    · rw [fo_end h1]; omega
theorem flt_rng {len : Nat} {tx : Nat → Nat} (hl : len ≤ 300) : -2147483648 ≤ flt len tx ∧ flt len tx < 2147483648 := by
  by_cases e : hd0 len tx = 0
  · rw [flt, cif_t e]; omega
  · rw [flt, cif_f e]
    have := fo_rng (tx := tx) hl (hd0_spec len tx).1 38 0
    omega
theorem prs_le : ∀ (r k : Nat) (ce : Nat → Nat → Nat) (m : Nat), prs r k ce m ≤ r * r
  | 0, _, _, _ => Nat.zero_le _
  | r + 1, k, ce, m => by
    have h1 := prs_le r k ce m
    have h2 := cn_le (fun q => agr ce r q k = m) r
    rw [prs_s, Nat.succ_mul, Nat.mul_succ]
    omega
theorem prs_end {n r k m : Nat} {ce : Nat → Nat → Nat} (h : 1 ≤ r ∧ (r = n ∨ (r = 1 ∧ n ≤ 1))) : prs n k ce m = prs r k ce m := by
  rcases h with ⟨h1, h2 | ⟨h2, h3⟩⟩
  · rw [h2]
  · subst h2
    rcases Nat.eq_zero_or_pos n with h | h
    · subst h; rfl
    · rw [show n = 1 by omega]
set_option maxHeartbeats 4000000 in
set_option maxRecDepth 20000 in
theorem x_undo {M : Mem} {n k h len : Nat} {sz tx : Nat → Nat} {ce : Nat → Nat → Nat} {hs : Nat → AR} {im : Nat → Option AR} (hV : InvX M (mkS n k sz ce h hs im len tx))  : CT 40 m_X7_undo [vR 42] M (PX M (o_undo (mkS n k sz ce h hs im len tx) )) := by
  have hT : TX M 0 n k sz ce := hV.1.1
  have hW : Wf n k sz ce := hV.1.2
  have hH : HX M h hs := hV.2.1
  have hIM : IMx M im := hV.2.2.1
  have hS : SX M len tx := hV.2.2.2.1
  have b1 := hW.1
  have b2 := hW.2.1
  have t0 : isT 0 := ⟨rfl, by decide⟩
  have hh8 := hH.1
  have hl3 := hS.1
  refine CT.ofWP (by decide +kernel) (Nat.le_of_ble_eq_true rfl) ?_
  show WP sc0 40 m_X7_undo 0 [vR 42] [] M (PX M (o_undo (mkS n k sz ce h hs im len tx) ))
  refine WP.aload_n dX7_undo_0 rfl ?_
  refine WP.getR (y := 43) dX7_undo_1 fl_X7_19 (rfl) (by decide) (rfl) ?_
  refine WP.getI (x := ((h : Nat) : Int)) dX7_undo_4 fl_X7_149 (rfl) (by decide) (hH.2.1) ?_
  refine WP.if_ne (tgt := 13) dX7_undo_7 (by decide) (by omega) (fun h7 => ?_) (fun h7 => ?_)
  · skip
    refine WP.aload_n dX7_undo_13 rfl ?_
    refine WP.getR (y := 43) dX7_undo_14 fl_X7_19 (rfl) (by decide) (rfl) ?_
    refine WP.aload_n dX7_undo_17 rfl ?_
    refine WP.getR (y := 0) dX7_undo_18 fl_X7_10 (rfl) (by decide) (rfl) ?_
    refine WP.callV (as := [vR 0]) dX7_undo_21 mv_X7_152 rfl (rfl) (by decide) rfl rfl (c_H_pop hH (by omega)) rfl (Nat.le_of_ble_eq_true rfl) (by omega) (fun r9 M1 h9 => ?_)
    obtain ⟨rfl, e1, e2, e3⟩ := h9
    show WP sc0 40 m_X7_undo 24 [vR 42] [] M1 (PX M (o_undo (mkS n k sz ce h hs im len tx) ))
    refine WP.aload_n dX7_undo_24 rfl ?_
    refine WP.callV (as := []) dX7_undo_25 mv_X7_156 rfl (rfl) (by decide) rfl rfl (c_X_forget) rfl (Nat.le_of_ble_eq_true rfl) (by omega) (fun r9 M2 h9 => ?_)
    obtain ⟨rfl, hM2⟩ := h9
    have hO2 : ∀ a, a ≠ 42 → M2 a = M1 a := fun a ha => by rw [hM2, mset_o a ha, mset_o a ha]
    have m8 : M2 42 8 = 0 := by rw [hM2, mset_n (Or.inr (by decide)), mset_s]
    have m10 : M2 42 10 = -1 := by rw [hM2, mset_s]
    show WP sc0 40 m_X7_undo 28 [vR 42] [] M2 (PX M (o_undo (mkS n k sz ce h hs im len tx) ))
    refine WP.aload_n dX7_undo_28 rfl ?_
    refine WP.getR (y := 43) dX7_undo_29 fl_X7_19 (rfl) (by decide) (rfl) ?_
    refine WP.getI (x := ((h - 1 : Nat) : Int)) dX7_undo_32 fl_X7_149 (rfl) (by decide) (by rw [hO2 43 (by decide)]; exact e3.2.1) ?_
    refine WP.iret dX7_undo_35 rfl ?_
    have hq : o_undo (mkS n k sz ce h hs im len tx) = (((h - 1 : Nat) : Int), (hs (h - 1), (h - 1, hs), im, (len, tx))) := if_neg (show ¬ h = 0 by omega)
    rw [hq]
    exact ⟨rfl, ⟨e2.fr (hO2 _ (by decide)) (hO2 _ (by decide)) (hO2 _ (by decide)), e3.fr (hO2 _ (by decide)) (fun a i1 i2 => hO2 a (by omega)), hIM.fr (by rw [hO2 46 (by decide), e1 46 (by decide) (by decide)]) (fun a i1 i2 => by rw [hO2 a (by omega), e1 a (by omega) (by omega)]), hS.fr (by rw [hO2 47 (by decide), e1 47 (by decide) (by decide)]) (by rw [hO2 48 (by decide), e1 48 (by decide) (by decide)]), Or.inl m8, Or.inl m10⟩, fun a ha => by rw [hO2 a (by omega), e1 a (by omega) (by omega)]⟩
  · skip
    refine WP.bipush dX7_undo_10 (by decide) ?_
    refine WP.iret dX7_undo_12 rfl ?_
    exact PX.same (if_pos (show h = 0 by omega)) hV
set_option maxHeartbeats 4000000 in
set_option maxRecDepth 20000 in
theorem x_count {M : Mem} {n k h len : Nat} {sz tx : Nat → Nat} {ce : Nat → Nat → Nat} {hs : Nat → AR} {im : Nat → Option AR} (hV : InvX M (mkS n k sz ce h hs im len tx)) {x : Int} (hx : -2147483648 ≤ x ∧ x < 2147483648) {y : Int} (hy : -2147483648 ≤ y ∧ y < 2147483648) : CT 40 m_X7_count [vR 42, vI x, vI y] M (PX M (o_count (mkS n k sz ce h hs im len tx) x y)) := by
  have hT : TX M 0 n k sz ce := hV.1.1
  have hW : Wf n k sz ce := hV.1.2
  have hH : HX M h hs := hV.2.1
  have hIM : IMx M im := hV.2.2.1
  have hS : SX M len tx := hV.2.2.2.1
  have b1 := hW.1
  have b2 := hW.2.1
  have t0 : isT 0 := ⟨rfl, by decide⟩
  have hh8 := hH.1
  have hl3 := hS.1
  have hp128 := pw7 b2
  have hp1 : 0 < 2 ^ k := Nat.two_pow_pos k
  refine CT.ofWP (by decide +kernel) (Nat.le_of_ble_eq_true rfl) ?_
  show WP sc0 40 m_X7_count 0 [vR 42, vI x, vI y, vU, vU] [] M (PX M (o_count (mkS n k sz ce h hs im len tx) x y))
  refine WP.iload_n dX7_count_0 rfl ?_
  refine WP.if_lt (tgt := 33) dX7_count_1 (by decide) (by omega) (fun h1 => ?_) (fun h1 => ?_)
  · skip
    refine WP.iconst dX7_count_33 ?_
    refine WP.iret dX7_count_34 rfl ?_
    exact PX.same (congrArg (fun z => (z, _)) (cif_f (fun z => by have := z.1; omega))) hV
  · skip
    obtain ⟨c, hc0⟩ : ∃ c : Nat, x.toNat = c := ⟨_, rfl⟩
    have hc1 : x = ((c : Nat) : Int) := by omega
    refine WP.fgt (lt := [vR 42, vI ((c : Nat) : Int), vI y, vU, vU]) ⟨Or.inr rfl, Or.inr (congrArg vI (hc1.symm)), Or.inr rfl, Or.inl rfl, Or.inl rfl, trivial⟩ ?_
    refine WP.iload_n dX7_count_4 rfl ?_
    refine WP.iconst dX7_count_5 ?_
    refine WP.aload_n dX7_count_6 rfl ?_
    refine WP.getR (y := 0) dX7_count_7 fl_X7_10 (rfl) (by decide) (rfl) ?_
    refine WP.getI (x := ((k : Nat) : Int)) dX7_count_10 fl_X7_88 (rfl) (by decide) (hT.2.1) ?_
    refine WP.ishl (z := ((2 ^ k : Nat) : Int)) dX7_count_13 (shl_ok k (by omega)) ?_
    refine WP.icmp_ge (tgt := 33) dX7_count_14 (by decide) (by omega) (by omega) (fun h14 => ?_) (fun h14 => ?_)
    · skip
      refine WP.iconst dX7_count_33 ?_
      refine WP.iret dX7_count_34 rfl ?_
      exact PX.same (congrArg (fun z => (z, _)) (cif_f (fun z => by have := z.1; have := z.2; dsimp only at *; omega))) hV
    · skip
      refine WP.iload_n dX7_count_17 rfl ?_
      refine WP.if_lt (tgt := 33) dX7_count_18 (by decide) (by omega) (fun h18 => ?_) (fun h18 => ?_)
      · skip
        refine WP.iconst dX7_count_33 ?_
        refine WP.iret dX7_count_34 rfl ?_
        exact PX.same (congrArg (fun z => (z, _)) (cif_f (fun z => by have := z.1; have := z.2; dsimp only at *; omega))) hV
      · skip
        obtain ⟨v, hv0⟩ : ∃ v : Nat, y.toNat = v := ⟨_, rfl⟩
        have hv1 : y = ((v : Nat) : Int) := by omega
        refine WP.fgt (lt := [vR 42, vI ((c : Nat) : Int), vI ((v : Nat) : Int), vU, vU]) ⟨Or.inr rfl, Or.inr rfl, Or.inr (congrArg vI (hv1.symm)), Or.inl rfl, Or.inl rfl, trivial⟩ ?_
        refine WP.iload_n dX7_count_21 rfl ?_
        refine WP.aload_n dX7_count_22 rfl ?_
        refine WP.getR (y := 0) dX7_count_23 fl_X7_10 (rfl) (by decide) (rfl) ?_
        refine WP.iload_n dX7_count_26 rfl ?_
        refine WP.callVp (as := [vI ((c : Nat) : Int)]) dX7_count_27 mv_X7_182 rfl (rfl) (by decide) rfl rfl (c_T_tuples (set := c) t0 hT hW (by omega)) rfl (Nat.le_of_ble_eq_true rfl) (by omega) ?_
        have w1 := tps_b (sz := sz) (set := c) b2 (fun b hb => (hW.2.2.1 b hb).2)
        refine WP.icmp_lt (tgt := 35) dX7_count_30 (by decide) (by omega) (by omega) (fun h30 => ?_) (fun h30 => ?_)
        · skip
          refine WP.iconst dX7_count_35 ?_
          refine WP.istore_n (lt := [vR 42, vI ((c : Nat) : Int), vI ((v : Nat) : Int), vI (0 : Int), vU]) dX7_count_36 (by decide) rfl ?_
          refine WP.iconst dX7_count_37 ?_
          refine WP.istore (lt := [vR 42, vI ((c : Nat) : Int), vI ((v : Nat) : Int), vI (0 : Int), vI (0 : Int)]) dX7_count_38 (by decide) rfl ?_
          have L40 : ∀ (n9 : Nat) (r : Nat) (hr : r ≤ n), n - r < n9 → WP sc0 40 m_X7_count 40 [vR 42, vI ((c : Nat) : Int), vI ((v : Nat) : Int), vI ((cn (fun y9 => tpo sz (ce y9) c k = v) r : Nat) : Int), vI ((r : Nat) : Int)] [] M (PX M (o_count (mkS n k sz ce h hs im len tx) x y)) := by
            intro n9
            induction n9 with
            | zero =>
              intro r hr hm9
              exact absurd hm9 (Nat.not_lt_zero _)
            | succ n9 ih40 =>
              intro r hr hm9
              have hcl := cn_le (fun y9 => tpo sz (ce y9) c k = v) r
              refine WP.iload dX7_count_40 rfl ?_
              refine WP.aload_n dX7_count_42 rfl ?_
              refine WP.getR (y := 0) dX7_count_43 fl_X7_10 (rfl) (by decide) (rfl) ?_
              refine WP.getI (x := ((n : Nat) : Int)) dX7_count_46 fl_X7_73 (rfl) (by decide) (hT.1) ?_
              refine WP.icmp_ge (tgt := 75) dX7_count_49 (by decide) (by omega) (by omega) (fun h49 => ?_) (fun h49 => ?_)
              · skip
                refine WP.iload_n dX7_count_75 rfl ?_
                refine WP.iret dX7_count_76 rfl ?_
                exact PX.same (by subst hc0; subst hv0; rw [show r = n by omega]; exact congrArg (fun z => (z, _)) (cif_t ⟨(show 0 ≤ x ∧ x < ((2 ^ k : Nat) : Int) by omega), (show 0 ≤ y ∧ y < ((tps sz x.toNat k : Nat) : Int) by omega)⟩)) hV
              · skip
                refine WP.aload_n dX7_count_52 rfl ?_
                refine WP.getR (y := 0) dX7_count_53 fl_X7_10 (rfl) (by decide) (rfl) ?_
                refine WP.iload dX7_count_56 rfl ?_
                refine WP.iload_n dX7_count_58 rfl ?_
                refine WP.callVp (as := [vI ((r : Nat) : Int), vI ((c : Nat) : Int)]) dX7_count_59 mv_X7_185 rfl (rfl) (by decide) rfl rfl (c_T_tupleOf (r := r) (set := c) t0 hT hW (by omega) (by omega)) rfl (Nat.le_of_ble_eq_true rfl) (by omega) ?_
                have w2 := tpo_lt (sz := sz) (row := ce r) (set := c) (k := k) (fun b hb => hW.2.2.2 r (by omega) b hb)
                refine WP.iload_n dX7_count_62 rfl ?_
                refine WP.icmp_ne (tgt := 69) dX7_count_63 (by decide) (by omega) (by omega) (fun h63 => ?_) (fun h63 => ?_)
                · skip
                  refine WP.iinc (lt := [vR 42, vI ((c : Nat) : Int), vI ((v : Nat) : Int), vI ((cn (fun y9 => tpo sz (ce y9) c k = v) r : Nat) : Int), vI (((r : Nat) : Int) + 1)]) dX7_count_69 rfl (by decide) rfl ?_
                  refine WP.goto (tgt := 40) dX7_count_72 (by decide) ?_
                  refine WP.fgt (lt := [vR 42, vI ((c : Nat) : Int), vI ((v : Nat) : Int), vI ((cn (fun y9 => tpo sz (ce y9) c k = v) (r + 1) : Nat) : Int), vI (((r + 1) : Nat) : Int)]) ⟨Or.inr rfl, Or.inr rfl, Or.inr rfl, Or.inr (congrArg vI (by rw [cn_f (p := (fun y9 => tpo sz (ce y9) c k = v)) (by omega)])), Or.inr (congrArg vI (by omega)), trivial⟩ ?_
                  exact ih40 (r + 1) (by omega) (by omega)
                · skip
                  refine WP.iinc (lt := [vR 42, vI ((c : Nat) : Int), vI ((v : Nat) : Int), vI (((cn (fun y9 => tpo sz (ce y9) c k = v) r : Nat) : Int) + 1), vI ((r : Nat) : Int)]) dX7_count_66 rfl (by decide) rfl ?_
                  refine WP.iinc (lt := [vR 42, vI ((c : Nat) : Int), vI ((v : Nat) : Int), vI (((cn (fun y9 => tpo sz (ce y9) c k = v) r : Nat) : Int) + 1), vI (((r : Nat) : Int) + 1)]) dX7_count_69 rfl (by decide) rfl ?_
                  refine WP.goto (tgt := 40) dX7_count_72 (by decide) ?_
                  refine WP.fgt (lt := [vR 42, vI ((c : Nat) : Int), vI ((v : Nat) : Int), vI ((cn (fun y9 => tpo sz (ce y9) c k = v) (r + 1) : Nat) : Int), vI (((r + 1) : Nat) : Int)]) ⟨Or.inr rfl, Or.inr rfl, Or.inr rfl, Or.inr (congrArg vI (by rw [cn_t (p := (fun y9 => tpo sz (ce y9) c k = v)) (by omega)]; omega)), Or.inr (congrArg vI (by omega)), trivial⟩ ?_
                  exact ih40 (r + 1) (by omega) (by omega)
          refine WP.fgt (lt := [vR 42, vI ((c : Nat) : Int), vI ((v : Nat) : Int), vI ((cn (fun y9 => tpo sz (ce y9) c k = v) 0 : Nat) : Int), vI ((0 : Nat) : Int)]) ⟨Or.inr rfl, Or.inr rfl, Or.inr rfl, Or.inr (congrArg vI (rfl)), Or.inr (congrArg vI (by omega)), trivial⟩ ?_
          exact L40 _ (0) (Nat.zero_le _) (Nat.lt_succ_self _)
        · skip
          refine WP.iconst dX7_count_33 ?_
          refine WP.iret dX7_count_34 rfl ?_
          exact PX.same (by subst hc0; exact congrArg (fun z => (z, _)) (cif_f (fun z => by have := z.2; dsimp only at this; omega))) hV
set_option maxHeartbeats 4000000 in
set_option maxRecDepth 20000 in
theorem x_pairs {M : Mem} {n k h len : Nat} {sz tx : Nat → Nat} {ce : Nat → Nat → Nat} {hs : Nat → AR} {im : Nat → Option AR} (hV : InvX M (mkS n k sz ce h hs im len tx)) {x : Int} (hx : -2147483648 ≤ x ∧ x < 2147483648) : CT 40 m_X7_pairs [vR 42, vI x] M (PX M (o_pairs (mkS n k sz ce h hs im len tx) x)) := by
  have hT : TX M 0 n k sz ce := hV.1.1
  have hW : Wf n k sz ce := hV.1.2
  have hH : HX M h hs := hV.2.1
  have hIM : IMx M im := hV.2.2.1
  have hS : SX M len tx := hV.2.2.2.1
  have b1 := hW.1
  have b2 := hW.2.1
  have t0 : isT 0 := ⟨rfl, by decide⟩
  have hh8 := hH.1
  have hl3 := hS.1
  refine CT.ofWP (by decide +kernel) (Nat.le_of_ble_eq_true rfl) ?_
  show WP sc0 40 m_X7_pairs 0 [vR 42, vI x, vU, vU, vU] [] M (PX M (o_pairs (mkS n k sz ce h hs im len tx) x))
  refine WP.iload_n dX7_pairs_0 rfl ?_
  refine WP.if_lt (tgt := 10) dX7_pairs_1 (by decide) (by omega) (fun h1 => ?_) (fun h1 => ?_)
  · skip
    refine WP.iconst dX7_pairs_10 ?_
    refine WP.iret dX7_pairs_11 rfl ?_
    exact PX.same (congrArg (fun z => (z, _)) (cif_f (by omega))) hV
  · skip
    refine WP.iload_n dX7_pairs_4 rfl ?_
    refine WP.bipush dX7_pairs_5 (by decide) ?_
    refine WP.icmp_le (tgt := 12) dX7_pairs_7 (by decide) (by omega) (by omega) (fun h7 => ?_) (fun h7 => ?_)
    · skip
      obtain ⟨c, hc0⟩ : ∃ c : Nat, x.toNat = c := ⟨_, rfl⟩
      have hc1 : x = ((c : Nat) : Int) := by omega
      refine WP.fgt (lt := [vR 42, vI ((c : Nat) : Int), vU, vU, vU]) ⟨Or.inr rfl, Or.inr (congrArg vI (hc1.symm)), Or.inl rfl, Or.inl rfl, Or.inl rfl, trivial⟩ ?_
      refine WP.iconst dX7_pairs_12 ?_
      refine WP.istore_n (lt := [vR 42, vI ((c : Nat) : Int), vI (0 : Int), vU, vU]) dX7_pairs_13 (by decide) rfl ?_
      refine WP.iconst dX7_pairs_14 ?_
      refine WP.istore_n (lt := [vR 42, vI ((c : Nat) : Int), vI (0 : Int), vI (1 : Int), vU]) dX7_pairs_15 (by decide) rfl ?_
      have L16 : ∀ (n9 : Nat) (r : Nat) (hr : 1 ≤ r ∧ (r ≤ n ∨ r = 1)), n + 1 - r < n9 → WP sc0 40 m_X7_pairs 16 [vR 42, vI ((c : Nat) : Int), vI ((prs r k ce c : Nat) : Int), vI ((r : Nat) : Int), vU] [] M (PX M (o_pairs (mkS n k sz ce h hs im len tx) x)) := by
        intro n9
        induction n9 with
        | zero =>
          intro r hr hm9
          exact absurd hm9 (Nat.not_lt_zero _)
        | succ n9 ih16 =>
          intro r hr hm9
          have hps := prs_le r k ce c
          refine WP.iload_n dX7_pairs_16 rfl ?_
          refine WP.aload_n dX7_pairs_17 rfl ?_
          refine WP.getR (y := 0) dX7_pairs_18 fl_X7_10 (rfl) (by decide) (rfl) ?_
          refine WP.getI (x := ((n : Nat) : Int)) dX7_pairs_21 fl_X7_73 (rfl) (by decide) (hT.1) ?_
          refine WP.icmp_ge (tgt := 65) dX7_pairs_24 (by decide) (by omega) (by omega) (fun h24 => ?_) (fun h24 => ?_)
          · skip
            refine WP.iload_n dX7_pairs_65 rfl ?_
            refine WP.iret dX7_pairs_66 rfl ?_
            exact PX.same (by subst hc0; exact congrArg (fun z => (z, _)) ((cif_t (show 0 ≤ x ∧ x ≤ 7 by omega)).trans (congrArg (fun z : Nat => (z : Int)) (prs_end (n := n) (r := r) (by omega))))) hV
          · skip
            refine WP.iconst dX7_pairs_27 ?_
            refine WP.istore (lt := [vR 42, vI ((c : Nat) : Int), vI ((prs r k ce c : Nat) : Int), vI ((r : Nat) : Int), vI (0 : Int)]) dX7_pairs_28 (by decide) rfl ?_
            have L30 : ∀ (n9 : Nat) (q : Nat) (hq : q ≤ r), r - q < n9 → WP sc0 40 m_X7_pairs 30 [vR 42, vI ((c : Nat) : Int), vI ((prs r k ce c + cn (fun y9 => agr ce r y9 k = c) q : Nat) : Int), vI ((r : Nat) : Int), vI ((q : Nat) : Int)] [] M (PX M (o_pairs (mkS n k sz ce h hs im len tx) x)) := by
              intro n9
              induction n9 with
              | zero =>
                intro q hq hm9
                exact absurd hm9 (Nat.not_lt_zero _)
              | succ n9 ih30 =>
                intro q hq hm9
                have hcl := cn_le (fun y9 => agr ce r y9 k = c) q
                refine WP.iload dX7_pairs_30 rfl ?_
                refine WP.iload_n dX7_pairs_32 rfl ?_
                refine WP.icmp_ge (tgt := 59) dX7_pairs_33 (by decide) (by omega) (by omega) (fun h33 => ?_) (fun h33 => ?_)
                · skip
                  refine WP.iinc (lt := [vR 42, vI ((c : Nat) : Int), vI ((prs r k ce c + cn (fun y9 => agr ce r y9 k = c) q : Nat) : Int), vI (((r : Nat) : Int) + 1), vI ((q : Nat) : Int)]) dX7_pairs_59 rfl (by decide) rfl ?_
                  refine WP.goto (tgt := 16) dX7_pairs_62 (by decide) ?_
                  refine WP.fgt (lt := [vR 42, vI ((c : Nat) : Int), vI ((prs (r + 1) k ce c : Nat) : Int), vI (((r + 1) : Nat) : Int), vU]) ⟨Or.inr rfl, Or.inr rfl, Or.inr (congrArg vI (by rw [prs_s, show q = r by omega])), Or.inr (congrArg vI (by omega)), Or.inl rfl, trivial⟩ ?_
                  exact ih16 (r + 1) (by omega) (by omega)
                · skip
                  refine WP.aload_n dX7_pairs_36 rfl ?_
                  refine WP.getR (y := 0) dX7_pairs_37 fl_X7_10 (rfl) (by decide) (rfl) ?_
                  refine WP.iload_n dX7_pairs_40 rfl ?_
                  refine WP.iload dX7_pairs_41 rfl ?_
                  refine WP.callVp (as := [vI ((r : Nat) : Int), vI ((q : Nat) : Int)]) dX7_pairs_43 mv_X7_206 rfl (rfl) (by decide) rfl rfl (c_T_agreements (r := r) (q := q) t0 hT hW (by omega) (by omega)) rfl (Nat.le_of_ble_eq_true rfl) (by omega) ?_
                  have w1 := agr_le ce r q k
                  refine WP.iload_n dX7_pairs_46 rfl ?_
                  refine WP.icmp_ne (tgt := 53) dX7_pairs_47 (by decide) (by omega) (by omega) (fun h47 => ?_) (fun h47 => ?_)
                  · skip
                    refine WP.iinc (lt := [vR 42, vI ((c : Nat) : Int), vI ((prs r k ce c + cn (fun y9 => agr ce r y9 k = c) q : Nat) : Int), vI ((r : Nat) : Int), vI (((q : Nat) : Int) + 1)]) dX7_pairs_53 rfl (by decide) rfl ?_
                    refine WP.goto (tgt := 30) dX7_pairs_56 (by decide) ?_
                    refine WP.fgt (lt := [vR 42, vI ((c : Nat) : Int), vI ((prs r k ce c + cn (fun y9 => agr ce r y9 k = c) (q + 1) : Nat) : Int), vI ((r : Nat) : Int), vI (((q + 1) : Nat) : Int)]) ⟨Or.inr rfl, Or.inr rfl, Or.inr (congrArg vI (by rw [cn_f (p := (fun y9 => agr ce r y9 k = c)) (by omega)])), Or.inr rfl, Or.inr (congrArg vI (by omega)), trivial⟩ ?_
                    exact ih30 (q + 1) (by omega) (by omega)
                  · skip
                    refine WP.iinc (lt := [vR 42, vI ((c : Nat) : Int), vI (((prs r k ce c + cn (fun y9 => agr ce r y9 k = c) q : Nat) : Int) + 1), vI ((r : Nat) : Int), vI ((q : Nat) : Int)]) dX7_pairs_50 rfl (by decide) rfl ?_
                    refine WP.iinc (lt := [vR 42, vI ((c : Nat) : Int), vI (((prs r k ce c + cn (fun y9 => agr ce r y9 k = c) q : Nat) : Int) + 1), vI ((r : Nat) : Int), vI (((q : Nat) : Int) + 1)]) dX7_pairs_53 rfl (by decide) rfl ?_
                    refine WP.goto (tgt := 30) dX7_pairs_56 (by decide) ?_
                    refine WP.fgt (lt := [vR 42, vI ((c : Nat) : Int), vI ((prs r k ce c + cn (fun y9 => agr ce r y9 k = c) (q + 1) : Nat) : Int), vI ((r : Nat) : Int), vI (((q + 1) : Nat) : Int)]) ⟨Or.inr rfl, Or.inr rfl, Or.inr (congrArg vI (by rw [cn_t (p := (fun y9 => agr ce r y9 k = c)) (by omega)]; omega)), Or.inr rfl, Or.inr (congrArg vI (by omega)), trivial⟩ ?_
                    exact ih30 (q + 1) (by omega) (by omega)
            refine WP.fgt (lt := [vR 42, vI ((c : Nat) : Int), vI ((prs r k ce c + cn (fun y9 => agr ce r y9 k = c) 0 : Nat) : Int), vI ((r : Nat) : Int), vI ((0 : Nat) : Int)]) ⟨Or.inr rfl, Or.inr rfl, Or.inr (congrArg vI (rfl)), Or.inr rfl, Or.inr (congrArg vI (by omega)), trivial⟩ ?_
            exact L30 _ (0) (Nat.zero_le _) (Nat.lt_succ_self _)
      refine WP.fgt (lt := [vR 42, vI ((c : Nat) : Int), vI ((prs 1 k ce c : Nat) : Int), vI ((1 : Nat) : Int), vU]) ⟨Or.inr rfl, Or.inr rfl, Or.inr (congrArg vI (rfl)), Or.inr (congrArg vI (by omega)), Or.inl rfl, trivial⟩ ?_
      exact L16 _ (1) (by omega) (Nat.lt_succ_self _)
    · skip
      refine WP.iconst dX7_pairs_10 ?_
      refine WP.iret dX7_pairs_11 rfl ?_
      exact PX.same (congrArg (fun z => (z, _)) (cif_f (by omega))) hV
set_option maxHeartbeats 4000000 in
set_option maxRecDepth 20000 in
theorem x_spare {M : Mem} {n k h len : Nat} {sz tx : Nat → Nat} {ce : Nat → Nat → Nat} {hs : Nat → AR} {im : Nat → Option AR} (hV : InvX M (mkS n k sz ce h hs im len tx)) {x : Int} (hx : -2147483648 ≤ x ∧ x < 2147483648) : CT 40 m_X7_spare [vR 42, vI x] M (PX M (o_spare (mkS n k sz ce h hs im len tx) x)) := by
  have hT : TX M 0 n k sz ce := hV.1.1
  have hW : Wf n k sz ce := hV.1.2
  have hH : HX M h hs := hV.2.1
  have hIM : IMx M im := hV.2.2.1
  have hS : SX M len tx := hV.2.2.2.1
  have b1 := hW.1
  have b2 := hW.2.1
  have t0 : isT 0 := ⟨rfl, by decide⟩
  have hh8 := hH.1
  have hl3 := hS.1
  refine CT.ofWP (by decide +kernel) (Nat.le_of_ble_eq_true rfl) ?_
  show WP sc0 40 m_X7_spare 0 [vR 42, vI x] [] M (PX M (o_spare (mkS n k sz ce h hs im len tx) x))
  refine WP.iload_n dX7_spare_0 rfl ?_
  refine WP.iconst dX7_spare_1 ?_
  refine WP.icmp_lt (tgt := 16) dX7_spare_2 (by decide) (by omega) (by omega) (fun h2 => ?_) (fun h2 => ?_)
  · skip
    refine WP.iconst dX7_spare_16 ?_
    refine WP.iret dX7_spare_17 rfl ?_
    exact PX.same (congrArg (fun z => (z, _)) (cif_f (show ¬ (1 ≤ x ∧ x ≤ ((k : Nat) : Int)) by omega))) hV
  · skip
    refine WP.iload_n dX7_spare_5 rfl ?_
    refine WP.aload_n dX7_spare_6 rfl ?_
    refine WP.getR (y := 0) dX7_spare_7 fl_X7_10 (rfl) (by decide) (rfl) ?_
    refine WP.getI (x := ((k : Nat) : Int)) dX7_spare_10 fl_X7_88 (rfl) (by decide) (hT.2.1) ?_
    refine WP.icmp_le (tgt := 18) dX7_spare_13 (by decide) (by omega) (by omega) (fun h13 => ?_) (fun h13 => ?_)
    · skip
      obtain ⟨c, hc0⟩ : ∃ c : Nat, x.toNat = c := ⟨_, rfl⟩
      have hc1 : x = ((c : Nat) : Int) := by omega
      refine WP.fgt (lt := [vR 42, vI ((c : Nat) : Int)]) ⟨Or.inr rfl, Or.inr (congrArg vI (hc1.symm)), trivial⟩ ?_
      refine WP.aload_n dX7_spare_18 rfl ?_
      refine WP.getR (y := 0) dX7_spare_19 fl_X7_10 (rfl) (by decide) (rfl) ?_
      refine WP.getI (x := ((n : Nat) : Int)) dX7_spare_22 fl_X7_73 (rfl) (by decide) (hT.1) ?_
      refine WP.if_eq (tgt := 40) dX7_spare_25 (by decide) (by omega) (fun h25 => ?_) (fun h25 => ?_)
      · skip
        refine WP.bipush dX7_spare_40 (by decide) ?_
        refine WP.iret dX7_spare_42 rfl ?_
        exact PX.same (congrArg (fun z => (z, _)) ((cif_t (show 1 ≤ x ∧ x ≤ ((k : Nat) : Int) by omega)).trans (if_pos (show n = 0 ∨ 12 < n by omega)))) hV
      · skip
        refine WP.aload_n dX7_spare_28 rfl ?_
        refine WP.getR (y := 0) dX7_spare_29 fl_X7_10 (rfl) (by decide) (rfl) ?_
        refine WP.getI (x := ((n : Nat) : Int)) dX7_spare_32 fl_X7_73 (rfl) (by decide) (hT.1) ?_
        refine WP.bipush dX7_spare_35 (by decide) ?_
        refine WP.icmp_le (tgt := 43) dX7_spare_37 (by decide) (by omega) (by omega) (fun h37 => ?_) (fun h37 => ?_)
        · skip
          refine WP.aload_n dX7_spare_43 rfl ?_
          refine WP.getR (y := 49) dX7_spare_44 fl_X7_41 (rfl) (by decide) (rfl) ?_
          refine WP.aload_n dX7_spare_47 rfl ?_
          refine WP.getR (y := 0) dX7_spare_48 fl_X7_10 (rfl) (by decide) (rfl) ?_
          refine WP.iload_n dX7_spare_51 rfl ?_
          refine WP.callV (as := [vR 0, vI ((c : Nat) : Int)]) dX7_spare_52 mv_X7_215 rfl (rfl) (by decide) rfl rfl (c_C_spare (b := c) t0 hT hW (by omega) (by omega)) rfl (Nat.le_of_ble_eq_true rfl) (by omega) (fun r9 M1 h9 => ?_)
          obtain ⟨rfl, e1⟩ := h9
          show WP sc0 40 m_X7_spare 55 [vR 42, vI ((c : Nat) : Int)] [vI (cif (okT n k sz ce c aT) ((spb n k sz ce c (2 ^ n - 1) : Nat) : Int) (-9))] M1 (PX M (o_spare (mkS n k sz ce h hs im len tx) x))
          refine WP.iret dX7_spare_55 rfl ?_
          exact PX.cs (by subst hc0; exact congrArg (fun z => (z, _)) ((cif_t (show 1 ≤ x ∧ x ≤ ((k : Nat) : Int) by omega)).trans (if_neg (show ¬ (n = 0 ∨ 12 < n) by omega)))) hV (fun a i1 _ => e1 a i1)
        · skip
          refine WP.bipush dX7_spare_40 (by decide) ?_
          refine WP.iret dX7_spare_42 rfl ?_
          exact PX.same (congrArg (fun z => (z, _)) ((cif_t (show 1 ≤ x ∧ x ≤ ((k : Nat) : Int) by omega)).trans (if_pos (show n = 0 ∨ 12 < n by omega)))) hV
    · skip
      refine WP.iconst dX7_spare_16 ?_
      refine WP.iret dX7_spare_17 rfl ?_
      exact PX.same (congrArg (fun z => (z, _)) (cif_f (show ¬ (1 ≤ x ∧ x ≤ ((k : Nat) : Int)) by omega))) hV
