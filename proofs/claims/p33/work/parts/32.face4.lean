theorem ndF_le : ∀ (f L i : Nat), L < 10 ^ f → (ndF f L ≤ i ↔ L < 10 ^ i)
  | 0, L, i, h => by
    have h0 : L = 0 := by have : (10 : Nat) ^ 0 = 1 := rfl; omega
    subst h0
    exact ⟨fun _ => Nat.pos_of_ne_zero (fun z => by have := Nat.pow_pos (n := i) (show 0 < 10 by decide); omega), fun _ => Nat.zero_le _⟩
  | f + 1, L, i, h => by
    unfold ndF
    by_cases e : L = 0
    · rw [if_pos e, e]
      exact ⟨fun _ => Nat.pow_pos (by decide), fun _ => Nat.zero_le _⟩
    · rw [if_neg e]
      cases i with
      | zero => exact ⟨fun z => by omega, fun z => by have : (10 : Nat) ^ 0 = 1 := rfl; omega⟩
      | succ i =>
        rw [Nat.pow_succ] at h ⊢
        have ih := ndF_le f (L / 10) i (by omega)
        rw [Nat.add_le_add_iff_right, ih]
        omega
theorem nd_le {L i : Nat} (h : L < 2147483648) : nd L ≤ i ↔ L < 10 ^ i := ndF_le 10 L i (Nat.lt_trans h (by decide))
theorem dv_0 {L i : Nat} (h : L < 2147483648) : L / 10 ^ i = 0 ↔ nd L ≤ i := by
  rw [nd_le h, Nat.div_eq_zero_iff]
  have : 0 < 10 ^ i := Nat.pow_pos (by decide)
  omega
theorem dv_s (L i : Nat) : L / 10 ^ i / 10 = L / 10 ^ (i + 1) := by rw [Nat.div_div_eq_div_mul, Nat.pow_succ]
theorem dv_le (L i : Nat) : L / 10 ^ i ≤ L := Nat.div_le_self _ _
def lvA (L : Nat) : Prop := ∀ j, j < nd L → 2 ≤ dg L j ∧ dg L j ≤ 6
theorem pwd_s (L i : Nat) : pwd L (i + 1) = pwd L i * dg L i := rfl
theorem Wf_fa {L D : Nat} (hD : D ≤ 7) (hd : ∀ j, j < D → 2 ≤ dg L j ∧ dg L j ≤ 6) (hp : pwd L D ≤ 36) : Wf (pwd L D) D (faS L D) (faC L D) := by
  refine ⟨hp, hD, fun c hc => ?_, fun r hr c hc => ?_⟩
  · exact hd _ (by omega)
  · have := hd (D - 1 - c) (by omega)
    exact Nat.mod_lt _ (by omega)
theorem faOK_of {L : Nat} (hL : 2 ≤ L) (h7 : L ≤ 9999999) (h : lvA L) : faOK L := by
  refine ⟨?_, ?_, h⟩
  · rcases Nat.eq_zero_or_pos (nd L) with e | e
    · have := (nd_le (L := L) (i := 0) (by omega)).mp (by omega)
      have h0 : (10 : Nat) ^ 0 = 1 := rfl
      omega
    · exact e
  · exact (nd_le (by omega)).mpr (by have : (10 : Nat) ^ 7 = 10000000 := by decide
                                     omega)
theorem faOK_no {L : Nat} (hL : L < 2147483648) (h : faOK L) : 2 ≤ L ∧ L ≤ 9999999 ∧ lvA L := by
  obtain ⟨h1, h2, h3⟩ := h
  have h4 := (nd_le hL).mp h2
  have h0 := h3 0 (by omega)
  have e7 : (10 : Nat) ^ 7 = 10000000 := by decide
  have h5 := dg
  have h6 : dg L 0 = L % 10 := by unfold dg; rw [Nat.pow_zero, Nat.div_one]
  exact ⟨by omega, by omega, h3⟩
set_option maxHeartbeats 4000000 in
set_option maxRecDepth 20000 in
theorem c_X_areLevelCounts {M : Mem} {L : Nat} (hL : L < 2147483648) : CT 2 m_X7_areLevelCounts [vI ((L : Nat) : Int)] M (Rt (some (vI (bi (lvA L)))) M) := by
  refine CT.ofWP (by decide +kernel) (Nat.le_of_ble_eq_true rfl) ?_
  show WP sc0 2 m_X7_areLevelCounts 0 [vI ((L : Nat) : Int), vU] [] M (Rt (some (vI (bi (lvA L)))) M)
  refine WP.iload_n dX7_areLevelCounts_0 rfl ?_
  refine WP.istore_n (lt := [vI ((L : Nat) : Int), vI ((L : Nat) : Int)]) dX7_areLevelCounts_1 (by decide) rfl ?_
  have L2 : ∀ (n9 : Nat) (i : Nat) (hi : ∀ j, j < i → j < nd L → 2 ≤ dg L j ∧ dg L j ≤ 6) (hin : i ≤ nd L), nd L + 1 - i < n9 → WP sc0 2 m_X7_areLevelCounts 2 [vI ((L : Nat) : Int), vI ((L / 10 ^ i : Nat) : Int)] [] M (Rt (some (vI (bi (lvA L)))) M) := by
    intro n9
    induction n9 with
    | zero =>
      intro i hi hin hm9
      exact absurd hm9 (Nat.not_lt_zero _)
    | succ n9 ih2 =>
      intro i hi hin hm9
      have hle := dv_le L i
      have h0 := dv_0 (i := i) hL
      have hs9 := dv_s L i
      have hnn : (0 : Int) ≤ ((L / 10 ^ i : Nat) : Int) := Int.natCast_nonneg _
      have h10 := dg_lt L i
      refine WP.iload_n dX7_areLevelCounts_2 rfl ?_
      refine WP.if_le (tgt := 26) dX7_areLevelCounts_3 (by decide) (by omega) (fun h3 => ?_) (fun h3 => ?_)
      · skip
        refine WP.iconst dX7_areLevelCounts_26 ?_
        refine WP.zret dX7_areLevelCounts_27 rfl (by decide) ?_
        exact ⟨congrArg some (congrArg vI (bi_t (fun j hj => hi j (by omega) hj)).symm), rfl⟩
      · skip
        refine WP.iload_n dX7_areLevelCounts_6 rfl ?_
        refine WP.bipush dX7_areLevelCounts_7 (by decide) ?_
        refine WP.irem dX7_areLevelCounts_9 (by omega) (by omega) ?_
        refine WP.eqs (st' := [vI ((dg L i : Nat) : Int)]) rfl (lc (congrArg vI (by rw [dg, Int.natCast_emod]; rfl)) rfl) ?_
        refine WP.callSp (as := [vI ((dg L i : Nat) : Int)]) dX7_areLevelCounts_10 ms_X7_84 rfl (c_X_isLevelCount (by omega)) rfl (Nat.le_of_ble_eq_true rfl) (by omega) ?_
        refine WP.if_ne (tgt := 18) dX7_areLevelCounts_13 (by decide) (bi_rng) (fun h13 => ?_) (fun h13 => ?_)
        · skip
          have hok : 2 ≤ dg L i ∧ dg L i ≤ 6 := by
            have := bi_1 h13
            omega
          refine WP.iload_n dX7_areLevelCounts_18 rfl ?_
          refine WP.bipush dX7_areLevelCounts_19 (by decide) ?_
          refine WP.idiv dX7_areLevelCounts_21 (by omega) (by omega) ?_
          refine WP.istore_n (lt := [vI ((L : Nat) : Int), vI (((L / 10 ^ i : Nat) : Int) / (10 : Int))]) dX7_areLevelCounts_22 (by decide) rfl ?_
          refine WP.goto (tgt := 2) dX7_areLevelCounts_23 (by decide) ?_
          refine WP.fgt (lt := [vI ((L : Nat) : Int), vI ((L / 10 ^ (i + 1) : Nat) : Int)]) ⟨Or.inr rfl, Or.inr (congrArg vI (by rw [← hs9, Int.natCast_ediv]; rfl)), trivial⟩ ?_
          exact ih2 (i + 1) (fun j hj hj2 => by
            by_cases e : j = i
            · rw [e]; exact hok
            · exact hi j (by omega) hj2) (by omega) (by omega)
        · skip
          have hnk := bi_0 h13
          refine WP.iconst dX7_areLevelCounts_16 ?_
          refine WP.zret dX7_areLevelCounts_17 rfl (by decide) ?_
          exact ⟨congrArg some (congrArg vI (bi_f (fun z => hnk (by have := z i (by omega); omega))).symm), rfl⟩
  refine WP.fgt (lt := [vI ((L : Nat) : Int), vI ((L / 10 ^ 0 : Nat) : Int)]) ⟨Or.inr rfl, Or.inr (congrArg vI (by rw [Nat.pow_zero, Nat.div_one])), trivial⟩ ?_
  exact L2 _ (0) (fun j hj => absurd hj (Nat.not_lt_zero j)) (Nat.zero_le _) (Nat.lt_succ_self _)
set_option maxHeartbeats 4000000 in
set_option maxRecDepth 20000 in
theorem x_factorial {M : Mem} {n k h len : Nat} {sz tx : Nat → Nat} {ce : Nat → Nat → Nat} {hs : Nat → AR} {im : Nat → Option AR} (hV : InvX M (mkS n k sz ce h hs im len tx)) {x : Int} (hx : -2147483648 ≤ x ∧ x < 2147483648) : CT 40 m_X7_factorial [vR 42, vI x] M (PX M (o_factorial (mkS n k sz ce h hs im len tx) x)) := by
  have hT : TX M 0 n k sz ce := hV.1.1
  have hW : Wf n k sz ce := hV.1.2
  have hH : HX M h hs := hV.2.1
  have hIM : IMx M im := hV.2.2.1
  have hS : SX M len tx := hV.2.2.2.1
  have b1 := hW.1
  have b2 := hW.2.1
  have t0 : isT 0 := ⟨rfl, by decide⟩
  have hh8 := hH.1
  have hl3 := hS.1
  refine CT.ofWP (by decide +kernel) (Nat.le_of_ble_eq_true rfl) ?_
  show WP sc0 40 m_X7_factorial 0 [vR 42, vI x, vU, vU] [] M (PX M (o_factorial (mkS n k sz ce h hs im len tx) x))
  refine WP.iload_n dX7_factorial_0 rfl ?_
  refine WP.iconst dX7_factorial_1 ?_
  refine WP.icmp_lt (tgt := 18) dX7_factorial_2 (by decide) (by omega) (by omega) (fun h2 => ?_) (fun h2 => ?_)
  · skip
    refine WP.iconst dX7_factorial_18 ?_
    refine WP.iret dX7_factorial_19 rfl ?_
    exact PX.same (cif_f (fun z => by have := faOK_no (by omega) z.2; omega)) hV
  · skip
    refine WP.iload_n dX7_factorial_5 rfl ?_
    refine WP.ldc (x := 9999999) dX7_factorial_6 w_k_X7_126 (by decide) ?_
    refine WP.icmp_gt (tgt := 18) dX7_factorial_8 (by decide) (by omega) (by omega) (fun h8 => ?_) (fun h8 => ?_)
    · skip
      refine WP.iconst dX7_factorial_18 ?_
      refine WP.iret dX7_factorial_19 rfl ?_
      exact PX.same (cif_f (fun z => by have := faOK_no (by omega) z.2; omega)) hV
    · skip
      obtain ⟨L, hL0⟩ : ∃ L : Nat, x.toNat = L := ⟨_, rfl⟩
      have hL1 : x = ((L : Nat) : Int) := by omega
      refine WP.fgt (lt := [vR 42, vI ((L : Nat) : Int), vU, vU]) ⟨Or.inr rfl, Or.inr (congrArg vI (hL1.symm)), Or.inl rfl, Or.inl rfl, trivial⟩ ?_
      refine WP.iload_n dX7_factorial_11 rfl ?_
      refine WP.callSp (as := [vI ((L : Nat) : Int)]) dX7_factorial_12 ms_X7_127 rfl (c_X_areLevelCounts (L := L) (by omega)) rfl (Nat.le_of_ble_eq_true rfl) (by omega) ?_
      refine WP.if_ne (tgt := 20) dX7_factorial_15 (by decide) (bi_rng) (fun h15 => ?_) (fun h15 => ?_)
      · skip
        have q15 := bi_1 h15
        have hfa : faOK L := faOK_of (by omega) (by omega) q15
        obtain ⟨hf1, hf2, hf3⟩ := hfa
        refine WP.iconst dX7_factorial_20 ?_
        refine WP.istore_n (lt := [vR 42, vI ((L : Nat) : Int), vI (1 : Int), vU]) dX7_factorial_21 (by decide) rfl ?_
        refine WP.iload_n dX7_factorial_22 rfl ?_
        refine WP.istore_n (lt := [vR 42, vI ((L : Nat) : Int), vI (1 : Int), vI ((L : Nat) : Int)]) dX7_factorial_23 (by decide) rfl ?_
        have L24 : ∀ (n9 : Nat) (i : Nat) (hin : i ≤ nd L), nd L + 1 - i < n9 → WP sc0 40 m_X7_factorial 24 [vR 42, vI ((L : Nat) : Int), vI ((pwd L i : Nat) : Int), vI ((L / 10 ^ i : Nat) : Int)] [] M (PX M (o_factorial (mkS n k sz ce h hs im len tx) x)) := by
          intro n9
          induction n9 with
          | zero =>
            intro i hin hm9
            exact absurd hm9 (Nat.not_lt_zero _)
          | succ n9 ih24 =>
            intro i hin hm9
            have hle := dv_le L i
            have h0 := dv_0 (L := L) (i := i) (by omega)
            have hs9 := dv_s L i
            have hnn : (0 : Int) ≤ ((L / 10 ^ i : Nat) : Int) := Int.natCast_nonneg _
            have h10 := dg_lt L i
            have hpw := pwd_pos hf3 i hin
            have h67 : 6 ^ i ≤ 6 ^ 7 := Nat.pow_le_pow_right (by decide) (by omega)
            have h677 : 6 ^ 7 = 279936 := by decide
            refine WP.iload_n dX7_factorial_24 rfl ?_
            refine WP.if_le (tgt := 43) dX7_factorial_25 (by decide) (by omega) (fun h25 => ?_) (fun h25 => ?_)
            · skip
              have hie : i = nd L := by omega
              refine WP.iload_n dX7_factorial_43 rfl ?_
              refine WP.bipush dX7_factorial_44 (by decide) ?_
              refine WP.icmp_le (tgt := 52) dX7_factorial_46 (by decide) (by omega) (by omega) (fun h46 => ?_) (fun h46 => ?_)
              · skip
                refine WP.aload_n dX7_factorial_52 rfl ?_
                refine WP.callV (as := []) dX7_factorial_53 mv_X7_76 rfl (rfl) (by decide) rfl rfl (c_X_record (A := (n, k, sz, ce)) hH hV.1) rfl (Nat.le_of_ble_eq_true rfl) (by omega) (fun r9 M1 h9 => ?_)
                obtain ⟨y8, rfl, hy, hR1, hA1⟩ := h9
                have hT1 : TX M1 0 n k sz ce := hT.fr (hR1.1 0 (by decide) (by decide) (by decide)) (hR1.1 1 (by decide) (by decide) (by decide)) (hR1.1 2 (by decide) (by decide) (by decide))
                have hA2 : TX M1 y8 n k sz ce := hA1.1
                have hyT : isT y8 := by
                  obtain ⟨i, hi, e⟩ := hy
                  rw [e]
                  exact isT_st i hi
                have hy9 : 9 ≤ y8 ∧ y8 < 33 := by
                  obtain ⟨i, hi, e⟩ := hy
                  omega
                show WP sc0 40 m_X7_factorial 56 [vR 42, vI ((L : Nat) : Int), vI ((pwd L i : Nat) : Int), vI ((L / 10 ^ i : Nat) : Int)] [vR y8] M1 (PX M (o_factorial (mkS n k sz ce h hs im len tx) x))
                refine WP.pop dX7_factorial_56 rfl ?_
                refine WP.aload_n dX7_factorial_57 rfl ?_
                refine WP.getR (y := 0) dX7_factorial_58 fl_X7_10 (rfl) (by decide) (rfl) ?_
                refine WP.iload_n dX7_factorial_61 rfl ?_
                refine WP.iload_n dX7_factorial_62 rfl ?_
                refine WP.callV (as := [vI ((L : Nat) : Int), vI ((pwd L i : Nat) : Int)]) dX7_factorial_63 mv_X7_130 rfl (rfl) (by decide) rfl rfl (c_T_becomeFactorial (n := pwd L i) (D := nd L) t0 (by omega) ((nd_le (by omega)).mp (Nat.le_refl _)) ⟨hf1, hf2⟩ (by omega) hf3) rfl (Nat.le_of_ble_eq_true rfl) (by omega) (fun r9 M2 h9 => ?_)
                obtain ⟨rfl, e1, e2⟩ := h9
                show WP sc0 40 m_X7_factorial 66 [vR 42, vI ((L : Nat) : Int), vI ((pwd L i : Nat) : Int), vI ((L / 10 ^ i : Nat) : Int)] [] M2 (PX M (o_factorial (mkS n k sz ce h hs im len tx) x))
                refine WP.iload_n dX7_factorial_66 rfl ?_
                refine WP.iret dX7_factorial_67 rfl ?_
                exact PX.ch (A' := (pwd L (nd L), nd L, faS L (nd L), faC L (nd L))) (by subst hL0; subst hie; exact (cif_t ⟨by omega, hf1, hf2, hf3⟩).trans (if_neg (by omega))) hV hR1 (fun a ha => e1 a (by omega) (by omega) (by omega)) (⟨by rw [← hie]; rw [← hie] at e2; exact e2, Wf_fa hf2 hf3 (by rw [← hie]; omega)⟩)
              · skip
                refine WP.bipush dX7_factorial_49 (by decide) ?_
                refine WP.iret dX7_factorial_51 rfl ?_
                exact PX.same (by subst hL0; subst hie; exact (cif_t ⟨by omega, hf1, hf2, hf3⟩).trans (if_pos (by omega))) hV
            · skip
              refine WP.iload_n dX7_factorial_28 rfl ?_
              refine WP.iload_n dX7_factorial_29 rfl ?_
              refine WP.bipush dX7_factorial_30 (by decide) ?_
              refine WP.irem dX7_factorial_32 (by omega) (by omega) ?_
              refine WP.eqs (st' := [vI ((dg L i : Nat) : Int), vI ((pwd L i : Nat) : Int)]) rfl (lc (congrArg vI (by rw [dg, Int.natCast_emod]; rfl)) rfl) ?_
              refine WP.imul dX7_factorial_33 ?_
              refine WP.istore_n (lt := [vR 42, vI ((L : Nat) : Int), vI (((pwd L i : Nat) : Int) * ((dg L i : Nat) : Int)), vI ((L / 10 ^ i : Nat) : Int)]) dX7_factorial_34 (by decide) rfl ?_
              refine WP.iload_n dX7_factorial_35 rfl ?_
              refine WP.bipush dX7_factorial_36 (by decide) ?_
              refine WP.idiv dX7_factorial_38 (by omega) (by omega) ?_
              refine WP.istore_n (lt := [vR 42, vI ((L : Nat) : Int), vI (((pwd L i : Nat) : Int) * ((dg L i : Nat) : Int)), vI (((L / 10 ^ i : Nat) : Int) / (10 : Int))]) dX7_factorial_39 (by decide) rfl ?_
              refine WP.goto (tgt := 24) dX7_factorial_40 (by decide) ?_
              refine WP.fgt (lt := [vR 42, vI ((L : Nat) : Int), vI ((pwd L (i + 1) : Nat) : Int), vI ((L / 10 ^ (i + 1) : Nat) : Int)]) ⟨Or.inr rfl, Or.inr rfl, Or.inr (congrArg vI (by rw [pwd_s, Int.natCast_mul])), Or.inr (congrArg vI (by rw [← hs9, Int.natCast_ediv]; rfl)), trivial⟩ ?_
              exact ih24 (i + 1) (by omega) (by omega)
        refine WP.fgt (lt := [vR 42, vI ((L : Nat) : Int), vI ((pwd L 0 : Nat) : Int), vI ((L / 10 ^ 0 : Nat) : Int)]) ⟨Or.inr rfl, Or.inr rfl, Or.inr (congrArg vI (rfl)), Or.inr (congrArg vI (by rw [Nat.pow_zero, Nat.div_one])), trivial⟩ ?_
        exact L24 _ (0) (Nat.zero_le _) (Nat.lt_succ_self _)
      · skip
        have q15 := bi_0 h15
        refine WP.iconst dX7_factorial_18 ?_
        refine WP.iret dX7_factorial_19 rfl ?_
        exact PX.same (by subst hL0; exact cif_f (fun z => q15 (faOK_no (by omega) z.2).2.2)) hV
theorem InvX.ex {M M' : Mem} {n k : Nat} {sz : Nat → Nat} {ce : Nat → Nat → Nat} {H : Nat × (Nat → AR)} {im : Nat → Option AR} {T : Nat × (Nat → Nat)} (hI : InvX M ((n, k, sz, ce), H, im, T)) (h : ∀ a, a ≠ 42 → a ≠ 52 → a ≠ 53 → a ≠ 54 → (a < 56 ∨ 99 ≤ a) → M' a = M a) (h42 : ∀ j, j ≠ 8 → j ≠ 9 → M' 42 j = M 42 j) (hc : CEx M' (n, k, sz, ce)) : InvX M' ((n, k, sz, ce), H, im, T) := by
  obtain ⟨a1, a2, a3, a4, a5, a6⟩ := hI
  refine ⟨a1.fr (h _ (by omega) (by omega) (by omega) (by omega) (by omega)) (h _ (by omega) (by omega) (by omega) (by omega) (by omega)) (h _ (by omega) (by omega) (by omega) (by omega) (by omega)), a2.fr (h _ (by omega) (by omega) (by omega) (by omega) (by omega)) (fun a i1 i2 => h a (by omega) (by omega) (by omega) (by omega) (by omega)), a3.fr (h _ (by omega) (by omega) (by omega) (by omega) (by omega)) (fun a i1 i2 => h a (by omega) (by omega) (by omega) (by omega) (by omega)), a4.fr (h _ (by omega) (by omega) (by omega) (by omega) (by omega)) (h _ (by omega) (by omega) (by omega) (by omega) (by omega)), hc, ?_⟩
  unfold CIx
  rw [h42 10 (by decide) (by decide), h42 11 (by decide) (by decide), h 100 (by omega) (by omega) (by omega) (by omega) (by omega), h 101 (by omega) (by omega) (by omega) (by omega) (by omega)]
  exact a6
set_option maxHeartbeats 4000000 in
set_option maxRecDepth 20000 in
theorem c_X_hasExt {M : Mem} {n k h len : Nat} {sz tx : Nat → Nat} {ce : Nat → Nat → Nat} {hs : Nat → AR} {im : Nat → Option AR} {lv : Nat} (hV : InvX M (mkS n k sz ce h hs im len tx)) (hlv : 2 ≤ lv ∧ lv ≤ 6) (hn : n ≤ 16) : CT 21 m_X7_hasExtension [vR 42, vI ((lv : Nat) : Int)] M (fun z M' => z = some (vI (bi (∃ x, ext n k sz ce lv x))) ∧ InvX M' (mkS n k sz ce h hs im len tx) ∧ ((∃ x, ext n k sz ce lv x) → ∀ q, q < n → M' 53 q = (lxE n k sz ce lv q : Int)) ∧ (∀ a, 167 ≤ a → M' a = M a) ∧ M' 0 = M 0) := by
  have hT : TX M 0 n k sz ce := hV.1.1
  have hW : Wf n k sz ce := hV.1.2
  have hH : HX M h hs := hV.2.1
  have hIM : IMx M im := hV.2.2.1
  have hS : SX M len tx := hV.2.2.2.1
  have b1 := hW.1
  have b2 := hW.2.1
  have t0 : isT 0 := ⟨rfl, by decide⟩
  have hh8 := hH.1
  have hl3 := hS.1
  have h8r : -2147483648 ≤ M 42 8 ∧ M 42 8 < 2147483648 := by
    rcases hV.2.2.2.2.1 with c0 | ⟨lv', c1, c2, c3, c4, c5⟩ <;> omega
  refine CT.ofWP (by decide +kernel) (Nat.le_of_ble_eq_true rfl) ?_
  show WP sc0 21 m_X7_hasExtension 0 [vR 42, vI ((lv : Nat) : Int)] [] M (fun z M' => z = some (vI (bi (∃ x, ext n k sz ce lv x))) ∧ InvX M' (mkS n k sz ce h hs im len tx) ∧ ((∃ x, ext n k sz ce lv x) → ∀ q, q < n → M' 53 q = (lxE n k sz ce lv q : Int)) ∧ (∀ a, 167 ≤ a → M' a = M a) ∧ M' 0 = M 0)
  refine WP.aload_n dX7_hasExtension_0 rfl ?_
  refine WP.getI (x := (M 42 8)) dX7_hasExtension_1 fl_X7_59 (rfl) (by decide) (rfl) ?_
  refine WP.iload_n dX7_hasExtension_4 rfl ?_
  refine WP.icmp_eq (tgt := 29) dX7_hasExtension_5 (by decide) (by omega) (by omega) (fun h5 => ?_) (fun h5 => ?_)
  · skip
    rcases hV.2.2.2.2.1 with c0 | ⟨lv', c1, c2, c3, c4, c5⟩
    · exfalso
      omega
    have c6 : lv' = lv := by omega
    rw [c6] at c3 c4 c5
    refine WP.aload_n dX7_hasExtension_29 rfl ?_
    refine WP.getI (x := bi (∃ x, ext n k sz ce lv x)) dX7_hasExtension_30 fl_X7_63 (rfl) (by decide) (c4) ?_
    refine WP.zret dX7_hasExtension_33 rfl (bi_01) ?_
    exact ⟨rfl, hV, c5, fun _ _ => rfl, rfl⟩
  · skip
    refine WP.aload_n dX7_hasExtension_8 rfl ?_
    refine WP.aload_n dX7_hasExtension_9 rfl ?_
    refine WP.getR (y := 52) dX7_hasExtension_10 fl_X7_48 (rfl) (by decide) (rfl) ?_
    refine WP.aload_n dX7_hasExtension_13 rfl ?_
    refine WP.getR (y := 0) dX7_hasExtension_14 fl_X7_10 (rfl) (by decide) (rfl) ?_
    refine WP.iload_n dX7_hasExtension_17 rfl ?_
    refine WP.callV (as := [vR 0, vI ((lv : Nat) : Int)]) dX7_hasExtension_18 mv_X7_237 rfl (rfl) (by decide) rfl rfl (c_E_find t0 hT hW hlv hn) rfl (Nat.le_of_ble_eq_true rfl) (by omega) (fun r9 M1 h9 => ?_)
    obtain ⟨rfl, e1, e2⟩ := h9
    show WP sc0 21 m_X7_hasExtension 21 [vR 42, vI ((lv : Nat) : Int)] [vI (bi (∃ x, ext n k sz ce lv x)), vR 42] M1 (fun z M' => z = some (vI (bi (∃ x, ext n k sz ce lv x))) ∧ InvX M' (mkS n k sz ce h hs im len tx) ∧ ((∃ x, ext n k sz ce lv x) → ∀ q, q < n → M' 53 q = (lxE n k sz ce lv q : Int)) ∧ (∀ a, 167 ≤ a → M' a = M a) ∧ M' 0 = M 0)
    refine WP.putZ dX7_hasExtension_21 fl_X7_63 (rfl) (by decide) (bi_01) rfl ?_
    refine WP.aload_n dX7_hasExtension_24 rfl ?_
    refine WP.iload_n dX7_hasExtension_25 rfl ?_
    refine WP.putI dX7_hasExtension_26 fl_X7_59 (rfl) (by decide) rfl ?_
    obtain ⟨M2, hM2⟩ : ∃ z, z = mset (mset M1 42 9 (bi (∃ x, ext n k sz ce lv x))) 42 8 ((lv : Nat) : Int) := ⟨_, rfl⟩
    refine WP.eqM hM2.symm ?_
    have hO2 : ∀ a, a ≠ 42 → M2 a = M1 a := fun a ha => by rw [hM2, mset_o a ha, mset_o a ha]
    have hm9 : M2 42 9 = bi (∃ x, ext n k sz ce lv x) := by rw [hM2, mset_n (Or.inr (by decide)), mset_s]
    have hm8 : M2 42 8 = (lv : Int) := by rw [hM2, mset_s]
    have hcx : (∃ x, ext n k sz ce lv x) → ∀ q, q < n → M2 53 q = (lxE n k sz ce lv q : Int) := fun z q hq => by
      obtain ⟨x, x1, x2⟩ := e2 z
      rw [hO2 53 (by decide), x2 q hq, lxE_eq x1 hq]
    have hV2 : InvX M2 (mkS n k sz ce h hs im len tx) := InvX.ex hV (fun a i1 i2 i3 i4 i5 => by rw [hO2 a i1, e1 a i2 i3 i4 (by omega) (by omega)]) (fun j j1 j2 => by rw [hM2, mset_n (Or.inr j1), mset_n (Or.inr j2), e1 42 (by decide) (by decide) (by decide) (by decide) (by decide)]) (Or.inr ⟨lv, hlv, hn, hm8, hm9, hcx⟩)
    refine WP.aload_n dX7_hasExtension_29 rfl ?_
    refine WP.getI (x := bi (∃ x, ext n k sz ce lv x)) dX7_hasExtension_30 fl_X7_63 (rfl) (by decide) (hm9) ?_
    refine WP.zret dX7_hasExtension_33 rfl (bi_01) ?_
    exact ⟨rfl, hV2, hcx, fun a ha => by rw [hO2 a (by omega), e1 a (by omega) (by omega) (by omega) (by omega) (by omega)], by rw [hO2 0 (by decide), e1 0 (by decide) (by decide) (by decide) (by decide) (by decide)]⟩
set_option maxHeartbeats 4000000 in
set_option maxRecDepth 20000 in
theorem x_extension {M : Mem} {n k h len : Nat} {sz tx : Nat → Nat} {ce : Nat → Nat → Nat} {hs : Nat → AR} {im : Nat → Option AR} (hV : InvX M (mkS n k sz ce h hs im len tx)) {x : Int} (hx : -2147483648 ≤ x ∧ x < 2147483648) {y : Int} (hy : -2147483648 ≤ y ∧ y < 2147483648) : CT 40 m_X7_extension [vR 42, vI x, vI y] M (PX M (o_extension (mkS n k sz ce h hs im len tx) x y)) := by
  have hT : TX M 0 n k sz ce := hV.1.1
  have hW : Wf n k sz ce := hV.1.2
  have hH : HX M h hs := hV.2.1
  have hIM : IMx M im := hV.2.2.1
  have hS : SX M len tx := hV.2.2.2.1
  have b1 := hW.1
  have b2 := hW.2.1
  have t0 : isT 0 := ⟨rfl, by decide⟩
  have hh8 := hH.1
  have hl3 := hS.1
  refine CT.ofWP (by decide +kernel) (Nat.le_of_ble_eq_true rfl) ?_
  show WP sc0 40 m_X7_extension 0 [vR 42, vI x, vI y] [] M (PX M (o_extension (mkS n k sz ce h hs im len tx) x y))
  refine WP.iload_n dX7_extension_0 rfl ?_
  refine WP.callSp (as := [vI x]) dX7_extension_1 ms_X7_84 rfl (c_X_isLevelCount (by omega)) rfl (Nat.le_of_ble_eq_true rfl) (by omega) ?_
  refine WP.if_eq (tgt := 23) dX7_extension_4 (by decide) (bi_rng) (fun h4 => ?_) (fun h4 => ?_)
  · skip
    have q4 := bi_0 h4
    refine WP.iconst dX7_extension_23 ?_
    refine WP.iret dX7_extension_24 rfl ?_
    exact PX.same (congrArg (fun z => (z, _)) (cif_f (fun z => by first
      | exact q4 z.1
      | exact z.2.elim h9 q20))) hV
  · skip
    have q4 := bi_1 h4
    refine WP.iload_n dX7_extension_7 rfl ?_
    refine WP.iconst dX7_extension_8 ?_
    refine WP.icmp_eq (tgt := 25) dX7_extension_9 (by decide) (by omega) (by omega) (fun h9 => ?_) (fun h9 => ?_)
    · skip
      have hr8 : y = -1 ∨ (0 ≤ y ∧ y < ((n : Nat) : Int)) := Or.inl h9
      obtain ⟨lv, hlv0⟩ : ∃ lv : Nat, x.toNat = lv := ⟨_, rfl⟩
      have hlv1 : x = ((lv : Nat) : Int) := by omega
      refine WP.fgt (lt := [vR 42, vI ((lv : Nat) : Int), vI y]) ⟨Or.inr rfl, Or.inr (congrArg vI (hlv1.symm)), Or.inr rfl, trivial⟩ ?_
      refine WP.aload_n dX7_extension_25 rfl ?_
      refine WP.getR (y := 0) dX7_extension_26 fl_X7_10 (rfl) (by decide) (rfl) ?_
      refine WP.getI (x := ((n : Nat) : Int)) dX7_extension_29 fl_X7_73 (rfl) (by decide) (hT.1) ?_
      refine WP.if_eq (tgt := 47) dX7_extension_32 (by decide) (by omega) (fun h32 => ?_) (fun h32 => ?_)
      · skip
        refine WP.bipush dX7_extension_47 (by decide) ?_
        refine WP.iret dX7_extension_49 rfl ?_
        exact PX.same (congrArg (fun z => (z, _)) ((cif_t (show (2 ≤ x ∧ x ≤ 6) ∧ (y = -1 ∨ hR (mkS n k sz ce h hs im len tx) y) from ⟨by omega, hr8⟩)).trans (if_pos (show n = 0 ∨ 16 < n by omega)))) hV
      · skip
        refine WP.aload_n dX7_extension_35 rfl ?_
        refine WP.getR (y := 0) dX7_extension_36 fl_X7_10 (rfl) (by decide) (rfl) ?_
        refine WP.getI (x := ((n : Nat) : Int)) dX7_extension_39 fl_X7_73 (rfl) (by decide) (hT.1) ?_
        refine WP.bipush dX7_extension_42 (by decide) ?_
        refine WP.icmp_le (tgt := 50) dX7_extension_44 (by decide) (by omega) (by omega) (fun h44 => ?_) (fun h44 => ?_)
        · skip
          refine WP.aload_n dX7_extension_50 rfl ?_
          refine WP.iload_n dX7_extension_51 rfl ?_
          refine WP.callV (as := [vI ((lv : Nat) : Int)]) dX7_extension_52 mv_X7_209 rfl (rfl) (by decide) rfl rfl (c_X_hasExt hV (lv := lv) (by omega) (by omega)) rfl (Nat.le_of_ble_eq_true rfl) (by omega) (fun r9 M1 h9 => ?_)
          obtain ⟨rfl, hV1, hx1, hf1, hf0⟩ := h9
          have hT1 : TX M1 0 n k sz ce := hV1.1.1
          show WP sc0 40 m_X7_extension 55 [vR 42, vI ((lv : Nat) : Int), vI y] [vI (bi (∃ x, ext n k sz ce lv x))] M1 (PX M (o_extension (mkS n k sz ce h hs im len tx) x y))
          refine WP.if_ne (tgt := 61) dX7_extension_55 (by decide) (bi_rng) (fun h55 => ?_) (fun h55 => ?_)
          · skip
            have q55 := bi_1 h55
            refine WP.iload_n dX7_extension_61 rfl ?_
            refine WP.iconst dX7_extension_62 ?_
            refine WP.icmp_ne (tgt := 76) dX7_extension_63 (by decide) (by omega) (by omega) (fun h63 => ?_) (fun h63 => ?_)
            · skip
              obtain ⟨r, hr0⟩ : ∃ r : Nat, y.toNat = r := ⟨_, rfl⟩
              have hr1 : y = ((r : Nat) : Int) := by omega
              refine WP.fgt (lt := [vR 42, vI ((lv : Nat) : Int), vI ((r : Nat) : Int)]) ⟨Or.inr rfl, Or.inr rfl, Or.inr (congrArg vI (hr1.symm)), trivial⟩ ?_
              refine WP.aload_n dX7_extension_76 rfl ?_
              refine WP.getR (y := 52) dX7_extension_77 fl_X7_48 (rfl) (by decide) (rfl) ?_
              refine WP.getR (y := 53) dX7_extension_80 fl_X7_212 (rfl) (by decide) (rfl) ?_
              refine WP.iload_n dX7_extension_83 rfl ?_
              refine WP.iaload (y := r) (x := ((lxE n k sz ce lv r : Nat) : Int)) dX7_extension_84 (rfl) (by omega) (by omega) (hx1 q55 r (by omega)) ?_
              refine WP.iret dX7_extension_85 rfl ?_
              subst hlv0
              have hq : o_extension (mkS n k sz ce h hs im len tx) x y = (_, _) := congrArg (fun z => (z, (mkS n k sz ce h hs im len tx))) ((cif_t (show (2 ≤ x ∧ x ≤ 6) ∧ (y = -1 ∨ hR (mkS n k sz ce h hs im len tx) y) from ⟨by omega, hr8⟩)).trans ((if_neg (show ¬ (n = 0 ∨ 16 < n) by omega)).trans ((cif_t q55).trans ((if_neg h63).trans (by rw [hr0])))))
              rw [hq]
              exact ⟨rfl, hV1, hf1⟩
            · skip
              refine WP.aload_n dX7_extension_66 rfl ?_
              refine WP.getR (y := 0) dX7_extension_67 fl_X7_10 (rfl) (by decide) (rfl) ?_
              refine WP.getI (x := ((n : Nat) : Int)) dX7_extension_70 fl_X7_73 (rfl) (by decide) (hT1.1) ?_
              refine WP.goto (tgt := 85) dX7_extension_73 (by decide) ?_
              refine WP.iret dX7_extension_85 rfl ?_
              subst hlv0
              have hq : o_extension (mkS n k sz ce h hs im len tx) x y = (_, _) := congrArg (fun z => (z, (mkS n k sz ce h hs im len tx))) ((cif_t (show (2 ≤ x ∧ x ≤ 6) ∧ (y = -1 ∨ hR (mkS n k sz ce h hs im len tx) y) from ⟨by omega, hr8⟩)).trans ((if_neg (show ¬ (n = 0 ∨ 16 < n) by omega)).trans ((cif_t q55).trans (if_pos h63))))
              rw [hq]
              exact ⟨rfl, hV1, hf1⟩
          · skip
            have q55 := bi_0 h55
            refine WP.bipush dX7_extension_58 (by decide) ?_
            refine WP.iret dX7_extension_60 rfl ?_
            subst hlv0
            have hq : o_extension (mkS n k sz ce h hs im len tx) x y = (_, _) := congrArg (fun z => (z, (mkS n k sz ce h hs im len tx))) ((cif_t (show (2 ≤ x ∧ x ≤ 6) ∧ (y = -1 ∨ hR (mkS n k sz ce h hs im len tx) y) from ⟨by omega, hr8⟩)).trans ((if_neg (show ¬ (n = 0 ∨ 16 < n) by omega)).trans (cif_f q55)))
            rw [hq]
            exact ⟨rfl, hV1, hf1⟩
        · skip
          refine WP.bipush dX7_extension_47 (by decide) ?_
          refine WP.iret dX7_extension_49 rfl ?_
          exact PX.same (congrArg (fun z => (z, _)) ((cif_t (show (2 ≤ x ∧ x ≤ 6) ∧ (y = -1 ∨ hR (mkS n k sz ce h hs im len tx) y) from ⟨by omega, hr8⟩)).trans (if_pos (show n = 0 ∨ 16 < n by omega)))) hV
    · skip
      refine WP.aload_n dX7_extension_12 rfl ?_
      refine WP.getR (y := 0) dX7_extension_13 fl_X7_10 (rfl) (by decide) (rfl) ?_
      refine WP.iload_n dX7_extension_16 rfl ?_
      refine WP.callVp (as := [vI y]) dX7_extension_17 mv_X7_101 rfl (rfl) (by decide) rfl rfl (c_T_hasRow t0 hT.1 (by omega) (by omega)) rfl (Nat.le_of_ble_eq_true rfl) (by omega) ?_
      refine WP.if_ne (tgt := 25) dX7_extension_20 (by decide) (bi_rng) (fun h20 => ?_) (fun h20 => ?_)
      · skip
        have q20 := bi_1 h20
        have hr8 : y = -1 ∨ (0 ≤ y ∧ y < ((n : Nat) : Int)) := Or.inr q20
        obtain ⟨lv, hlv0⟩ : ∃ lv : Nat, x.toNat = lv := ⟨_, rfl⟩
        have hlv1 : x = ((lv : Nat) : Int) := by omega
        refine WP.fgt (lt := [vR 42, vI ((lv : Nat) : Int), vI y]) ⟨Or.inr rfl, Or.inr (congrArg vI (hlv1.symm)), Or.inr rfl, trivial⟩ ?_
        refine WP.aload_n dX7_extension_25 rfl ?_
        refine WP.getR (y := 0) dX7_extension_26 fl_X7_10 (rfl) (by decide) (rfl) ?_
        refine WP.getI (x := ((n : Nat) : Int)) dX7_extension_29 fl_X7_73 (rfl) (by decide) (hT.1) ?_
        refine WP.if_eq (tgt := 47) dX7_extension_32 (by decide) (by omega) (fun h32 => ?_) (fun h32 => ?_)
        · skip
          refine WP.bipush dX7_extension_47 (by decide) ?_
          refine WP.iret dX7_extension_49 rfl ?_
          exact PX.same (congrArg (fun z => (z, _)) ((cif_t (show (2 ≤ x ∧ x ≤ 6) ∧ (y = -1 ∨ hR (mkS n k sz ce h hs im len tx) y) from ⟨by omega, hr8⟩)).trans (if_pos (show n = 0 ∨ 16 < n by omega)))) hV
        · skip
          refine WP.aload_n dX7_extension_35 rfl ?_
          refine WP.getR (y := 0) dX7_extension_36 fl_X7_10 (rfl) (by decide) (rfl) ?_
          refine WP.getI (x := ((n : Nat) : Int)) dX7_extension_39 fl_X7_73 (rfl) (by decide) (hT.1) ?_
          refine WP.bipush dX7_extension_42 (by decide) ?_
          refine WP.icmp_le (tgt := 50) dX7_extension_44 (by decide) (by omega) (by omega) (fun h44 => ?_) (fun h44 => ?_)
          · skip
            refine WP.aload_n dX7_extension_50 rfl ?_
            refine WP.iload_n dX7_extension_51 rfl ?_
            refine WP.callV (as := [vI ((lv : Nat) : Int)]) dX7_extension_52 mv_X7_209 rfl (rfl) (by decide) rfl rfl (c_X_hasExt hV (lv := lv) (by omega) (by omega)) rfl (Nat.le_of_ble_eq_true rfl) (by omega) (fun r9 M1 h9 => ?_)
            obtain ⟨rfl, hV1, hx1, hf1, hf0⟩ := h9
            have hT1 : TX M1 0 n k sz ce := hV1.1.1
            show WP sc0 40 m_X7_extension 55 [vR 42, vI ((lv : Nat) : Int), vI y] [vI (bi (∃ x, ext n k sz ce lv x))] M1 (PX M (o_extension (mkS n k sz ce h hs im len tx) x y))
            refine WP.if_ne (tgt := 61) dX7_extension_55 (by decide) (bi_rng) (fun h55 => ?_) (fun h55 => ?_)
            · skip
              have q55 := bi_1 h55
              refine WP.iload_n dX7_extension_61 rfl ?_
              refine WP.iconst dX7_extension_62 ?_
              refine WP.icmp_ne (tgt := 76) dX7_extension_63 (by decide) (by omega) (by omega) (fun h63 => ?_) (fun h63 => ?_)
              · skip
                obtain ⟨r, hr0⟩ : ∃ r : Nat, y.toNat = r := ⟨_, rfl⟩
                have hr1 : y = ((r : Nat) : Int) := by omega
                refine WP.fgt (lt := [vR 42, vI ((lv : Nat) : Int), vI ((r : Nat) : Int)]) ⟨Or.inr rfl, Or.inr rfl, Or.inr (congrArg vI (hr1.symm)), trivial⟩ ?_
                refine WP.aload_n dX7_extension_76 rfl ?_
                refine WP.getR (y := 52) dX7_extension_77 fl_X7_48 (rfl) (by decide) (rfl) ?_
                refine WP.getR (y := 53) dX7_extension_80 fl_X7_212 (rfl) (by decide) (rfl) ?_
                refine WP.iload_n dX7_extension_83 rfl ?_
                refine WP.iaload (y := r) (x := ((lxE n k sz ce lv r : Nat) : Int)) dX7_extension_84 (rfl) (by omega) (by omega) (hx1 q55 r (by omega)) ?_
                refine WP.iret dX7_extension_85 rfl ?_
                subst hlv0
                have hq : o_extension (mkS n k sz ce h hs im len tx) x y = (_, _) := congrArg (fun z => (z, (mkS n k sz ce h hs im len tx))) ((cif_t (show (2 ≤ x ∧ x ≤ 6) ∧ (y = -1 ∨ hR (mkS n k sz ce h hs im len tx) y) from ⟨by omega, hr8⟩)).trans ((if_neg (show ¬ (n = 0 ∨ 16 < n) by omega)).trans ((cif_t q55).trans ((if_neg h63).trans (by rw [hr0])))))
                rw [hq]
                exact ⟨rfl, hV1, hf1⟩
              · skip
                refine WP.aload_n dX7_extension_66 rfl ?_
                refine WP.getR (y := 0) dX7_extension_67 fl_X7_10 (rfl) (by decide) (rfl) ?_
                refine WP.getI (x := ((n : Nat) : Int)) dX7_extension_70 fl_X7_73 (rfl) (by decide) (hT1.1) ?_
                refine WP.goto (tgt := 85) dX7_extension_73 (by decide) ?_
                refine WP.iret dX7_extension_85 rfl ?_
                subst hlv0
                have hq : o_extension (mkS n k sz ce h hs im len tx) x y = (_, _) := congrArg (fun z => (z, (mkS n k sz ce h hs im len tx))) ((cif_t (show (2 ≤ x ∧ x ≤ 6) ∧ (y = -1 ∨ hR (mkS n k sz ce h hs im len tx) y) from ⟨by omega, hr8⟩)).trans ((if_neg (show ¬ (n = 0 ∨ 16 < n) by omega)).trans ((cif_t q55).trans (if_pos h63))))
                rw [hq]
                exact ⟨rfl, hV1, hf1⟩
            · skip
              have q55 := bi_0 h55
              refine WP.bipush dX7_extension_58 (by decide) ?_
              refine WP.iret dX7_extension_60 rfl ?_
              subst hlv0
              have hq : o_extension (mkS n k sz ce h hs im len tx) x y = (_, _) := congrArg (fun z => (z, (mkS n k sz ce h hs im len tx))) ((cif_t (show (2 ≤ x ∧ x ≤ 6) ∧ (y = -1 ∨ hR (mkS n k sz ce h hs im len tx) y) from ⟨by omega, hr8⟩)).trans ((if_neg (show ¬ (n = 0 ∨ 16 < n) by omega)).trans (cif_f q55)))
              rw [hq]
              exact ⟨rfl, hV1, hf1⟩
          · skip
            refine WP.bipush dX7_extension_47 (by decide) ?_
            refine WP.iret dX7_extension_49 rfl ?_
            exact PX.same (congrArg (fun z => (z, _)) ((cif_t (show (2 ≤ x ∧ x ≤ 6) ∧ (y = -1 ∨ hR (mkS n k sz ce h hs im len tx) y) from ⟨by omega, hr8⟩)).trans (if_pos (show n = 0 ∨ 16 < n by omega)))) hV
      · skip
        have q20 := bi_0 h20
        refine WP.iconst dX7_extension_23 ?_
        refine WP.iret dX7_extension_24 rfl ?_
        exact PX.same (congrArg (fun z => (z, _)) (cif_f (fun z => by first
          | exact q4 z.1
          | exact z.2.elim h9 q20))) hV
set_option maxHeartbeats 4000000 in
set_option maxRecDepth 20000 in
theorem x_extend {M : Mem} {n k h len : Nat} {sz tx : Nat → Nat} {ce : Nat → Nat → Nat} {hs : Nat → AR} {im : Nat → Option AR} (hV : InvX M (mkS n k sz ce h hs im len tx)) {x : Int} (hx : -2147483648 ≤ x ∧ x < 2147483648) : CT 40 m_X7_extend [vR 42, vI x] M (PX M (o_extend (mkS n k sz ce h hs im len tx) x)) := by
  have hT : TX M 0 n k sz ce := hV.1.1
  have hW : Wf n k sz ce := hV.1.2
  have hH : HX M h hs := hV.2.1
  have hIM : IMx M im := hV.2.2.1
  have hS : SX M len tx := hV.2.2.2.1
  have b1 := hW.1
  have b2 := hW.2.1
  have t0 : isT 0 := ⟨rfl, by decide⟩
  have hh8 := hH.1
  have hl3 := hS.1
  refine CT.ofWP (by decide +kernel) (Nat.le_of_ble_eq_true rfl) ?_
  show WP sc0 40 m_X7_extend 0 [vR 42, vI x, vU, vU] [] M (PX M (o_extend (mkS n k sz ce h hs im len tx) x))
  refine WP.iload_n dX7_extend_0 rfl ?_
  refine WP.callSp (as := [vI x]) dX7_extend_1 ms_X7_84 rfl (c_X_isLevelCount (by omega)) rfl (Nat.le_of_ble_eq_true rfl) (by omega) ?_
  refine WP.if_ne (tgt := 9) dX7_extend_4 (by decide) (bi_rng) (fun h4 => ?_) (fun h4 => ?_)
  · skip
    have q4 := bi_1 h4
    obtain ⟨lv, hlv0⟩ : ∃ lv : Nat, x.toNat = lv := ⟨_, rfl⟩
    have hlv1 : x = ((lv : Nat) : Int) := by omega
    refine WP.fgt (lt := [vR 42, vI ((lv : Nat) : Int), vU, vU]) ⟨Or.inr rfl, Or.inr (congrArg vI (hlv1.symm)), Or.inl rfl, Or.inl rfl, trivial⟩ ?_
    refine WP.aload_n dX7_extend_9 rfl ?_
    refine WP.getR (y := 0) dX7_extend_10 fl_X7_10 (rfl) (by decide) (rfl) ?_
    refine WP.getI (x := ((n : Nat) : Int)) dX7_extend_13 fl_X7_73 (rfl) (by decide) (hT.1) ?_
    refine WP.if_eq (tgt := 31) dX7_extend_16 (by decide) (by omega) (fun h16 => ?_) (fun h16 => ?_)
    · skip
      refine WP.bipush dX7_extend_31 (by decide) ?_
      refine WP.iret dX7_extend_33 rfl ?_
      exact PX.same ((cif_t q4).trans (if_pos (show n = 0 ∨ 16 < n by omega))) hV
    · skip
      refine WP.aload_n dX7_extend_19 rfl ?_
      refine WP.getR (y := 0) dX7_extend_20 fl_X7_10 (rfl) (by decide) (rfl) ?_
      refine WP.getI (x := ((n : Nat) : Int)) dX7_extend_23 fl_X7_73 (rfl) (by decide) (hT.1) ?_
      refine WP.bipush dX7_extend_26 (by decide) ?_
      refine WP.icmp_le (tgt := 34) dX7_extend_28 (by decide) (by omega) (by omega) (fun h28 => ?_) (fun h28 => ?_)
      · skip
        refine WP.aload_n dX7_extend_34 rfl ?_
        refine WP.getR (y := 0) dX7_extend_35 fl_X7_10 (rfl) (by decide) (rfl) ?_
        refine WP.getI (x := ((k : Nat) : Int)) dX7_extend_38 fl_X7_88 (rfl) (by decide) (hT.2.1) ?_
        refine WP.bipush dX7_extend_41 (by decide) ?_
        refine WP.icmp_lt (tgt := 49) dX7_extend_43 (by decide) (by omega) (by omega) (fun h43 => ?_) (fun h43 => ?_)
        · skip
          refine WP.aload_n dX7_extend_49 rfl ?_
          refine WP.iload_n dX7_extend_50 rfl ?_
          refine WP.callV (as := [vI ((lv : Nat) : Int)]) dX7_extend_51 mv_X7_209 rfl (rfl) (by decide) rfl rfl (c_X_hasExt hV (lv := lv) (by omega) (by omega)) rfl (Nat.le_of_ble_eq_true rfl) (by omega) (fun r9 M1 h9 => ?_)
          obtain ⟨rfl, hV1, hx1, hf1, hf0⟩ := h9
          have hT1 : TX M1 0 n k sz ce := hV1.1.1
          show WP sc0 40 m_X7_extend 54 [vR 42, vI ((lv : Nat) : Int), vU, vU] [vI (bi (∃ x, ext n k sz ce lv x))] M1 (PX M (o_extend (mkS n k sz ce h hs im len tx) x))
          refine WP.if_ne (tgt := 60) dX7_extend_54 (by decide) (bi_rng) (fun h54 => ?_) (fun h54 => ?_)
          · skip
            have q54 := bi_1 h54
            refine WP.aload_n dX7_extend_60 rfl ?_
            refine WP.callV (as := []) dX7_extend_61 mv_X7_76 rfl (rfl) (by decide) rfl rfl (c_X_record (A := (n, k, sz, ce)) hV1.2.1 hV1.1) rfl (Nat.le_of_ble_eq_true rfl) (by omega) (fun r9 M2 h9 => ?_)
            obtain ⟨y8, rfl, hy, hR1, hA1⟩ := h9
            have hT2 : TX M2 0 n k sz ce := hT1.fr (hR1.1 0 (by decide) (by decide) (by decide)) (hR1.1 1 (by decide) (by decide) (by decide)) (hR1.1 2 (by decide) (by decide) (by decide))
            show WP sc0 40 m_X7_extend 64 [vR 42, vI ((lv : Nat) : Int), vU, vU] [vR y8] M2 (PX M (o_extend (mkS n k sz ce h hs im len tx) x))
            refine WP.pop dX7_extend_64 rfl ?_
            refine WP.aload_n dX7_extend_65 rfl ?_
            refine WP.getR (y := 0) dX7_extend_66 fl_X7_10 (rfl) (by decide) (rfl) ?_
            refine WP.iload_n dX7_extend_69 rfl ?_
            refine WP.callV (as := [vI ((lv : Nat) : Int)]) dX7_extend_70 mv_X7_91 rfl (rfl) (by decide) rfl rfl (c_T_append (s := lv) t0 hT2 b1 (by omega)) rfl (Nat.le_of_ble_eq_true rfl) (by omega) (fun r9 M3 h9 => ?_)
            obtain ⟨rfl, e1, e2⟩ := h9
            have hcol : ∀ q, q < n → M3 53 q = (lxE n k sz ce lv q : Int) := fun q hq => by rw [e1 53 (by decide) (by decide) (by decide), hR1.1 53 (by decide) (by decide) (by decide)]; exact hx1 q54 q hq
            show WP sc0 40 m_X7_extend 73 [vR 42, vI ((lv : Nat) : Int), vU, vU] [vI ((k : Nat) : Int)] M3 (PX M (o_extend (mkS n k sz ce h hs im len tx) x))
            refine WP.istore_n (lt := [vR 42, vI ((lv : Nat) : Int), vI ((k : Nat) : Int), vU]) dX7_extend_73 (by decide) rfl ?_
            refine WP.iconst dX7_extend_74 ?_
            refine WP.istore_n (lt := [vR 42, vI ((lv : Nat) : Int), vI ((k : Nat) : Int), vI (0 : Int)]) dX7_extend_75 (by decide) rfl ?_
            have L76 : ∀ (n9 : Nat) (r : Nat) (M4 : Mem) (hr : r ≤ n) (g1 : ∀ a, 3 ≤ a → M4 a = M2 a) (g2 : TX M4 0 n (k + 1) (apS sz k lv) (fil (apC ce k (fun _ => 0)) k (lxE n k sz ce lv) r)) (g3 : M4 53 = M3 53), n - r < n9 → WP sc0 40 m_X7_extend 76 [vR 42, vI ((lv : Nat) : Int), vI ((k : Nat) : Int), vI ((r : Nat) : Int)] [] M4 (PX M (o_extend (mkS n k sz ce h hs im len tx) x)) := by
              intro n9
              induction n9 with
              | zero =>
                intro r M4 hr g1 g2 g3 hm9
                exact absurd hm9 (Nat.not_lt_zero _)
              | succ n9 ih76 =>
                intro r M4 hr g1 g2 g3 hm9
                refine WP.iload_n dX7_extend_76 rfl ?_
                refine WP.aload_n dX7_extend_77 rfl ?_
                refine WP.getR (y := 0) dX7_extend_78 fl_X7_10 (rfl) (by decide) (rfl) ?_
                refine WP.getI (x := ((n : Nat) : Int)) dX7_extend_81 fl_X7_73 (rfl) (by decide) (g2.1) ?_
                refine WP.icmp_ge (tgt := 111) dX7_extend_84 (by decide) (by omega) (by omega) (fun h84 => ?_) (fun h84 => ?_)
                · skip
                  refine WP.iload_n dX7_extend_111 rfl ?_
                  refine WP.iret dX7_extend_112 rfl ?_
                  have hwf : ∀ r, r < n → lxE n k sz ce lv r < lv := fun r hr => by
                    obtain ⟨x, hx⟩ := q54
                    obtain ⟨x2, hx2⟩ := lext_ex (by omega) ⟨x, hx⟩
                    exact (lxE_of hx2).1.1 r hr
                  have g4 : TA M4 0 (n, k + 1, apS sz k lv, apC ce k (lxE n k sz ce lv)) := ⟨g2.cg (fun _ _ => rfl) (fun r9 hr9 c9 hc9 => fil_ap (by omega)), Wf_ap hW (by omega) (by omega) hwf⟩
                  have hp := PX.ch (x := ((k : Nat) : Int)) (A' := (n, k + 1, apS sz k lv, apC ce k (lxE n k sz ce lv))) (q := o_extend (mkS n k sz ce h hs im len tx) x) (by subst hlv0; exact (cif_t q4).trans ((if_neg (show ¬ (n = 0 ∨ 16 < n) by omega)).trans ((if_neg (show ¬ k = 7 by omega)).trans (cif_t q54)))) hV1 hR1 g1 g4
                  exact ⟨hp.1, hp.2.1, fun a ha => by rw [hp.2.2 a ha, hf1 a ha]⟩
                · skip
                  refine WP.aload_n dX7_extend_87 rfl ?_
                  refine WP.getR (y := 0) dX7_extend_88 fl_X7_10 (rfl) (by decide) (rfl) ?_
                  refine WP.iload_n dX7_extend_91 rfl ?_
                  refine WP.iload_n dX7_extend_92 rfl ?_
                  refine WP.aload_n dX7_extend_93 rfl ?_
                  refine WP.getR (y := 52) dX7_extend_94 fl_X7_48 (rfl) (by decide) (rfl) ?_
                  refine WP.getR (y := 53) dX7_extend_97 fl_X7_212 (rfl) (by decide) (rfl) ?_
                  refine WP.iload_n dX7_extend_100 rfl ?_
                  refine WP.iaload (y := r) (x := ((lxE n k sz ce lv r : Nat) : Int)) dX7_extend_101 (rfl) (by omega) (by omega) (by rw [g3]; exact hcol r (by omega)) ?_
                  refine WP.callV (as := [vI ((r : Nat) : Int), vI ((k : Nat) : Int), vI ((lxE n k sz ce lv r : Nat) : Int)]) dX7_extend_102 mv_X7_112 rfl (rfl) (by decide) rfl rfl (c_T_setX (r := r) (c := k) (v := lxE n k sz ce lv r) t0 g2 (by omega) (by omega) (by omega)) rfl (Nat.le_of_ble_eq_true rfl) (by omega) (fun r9 M5 h9 => ?_)
                  obtain ⟨rfl, j1, j2⟩ := h9
                  show WP sc0 40 m_X7_extend 105 [vR 42, vI ((lv : Nat) : Int), vI ((k : Nat) : Int), vI ((r : Nat) : Int)] [] M5 (PX M (o_extend (mkS n k sz ce h hs im len tx) x))
                  refine WP.iinc (lt := [vR 42, vI ((lv : Nat) : Int), vI ((k : Nat) : Int), vI (((r : Nat) : Int) + 1)]) dX7_extend_105 rfl (by decide) rfl ?_
                  refine WP.goto (tgt := 76) dX7_extend_108 (by decide) ?_
                  refine WP.fgt (lt := [vR 42, vI ((lv : Nat) : Int), vI ((k : Nat) : Int), vI (((r + 1) : Nat) : Int)]) ⟨Or.inr rfl, Or.inr rfl, Or.inr rfl, Or.inr (congrArg vI (by omega)), trivial⟩ ?_
                  exact ih76 (r + 1) (M5) (by omega) (fun a ha => (j1 a (by omega)).trans (g1 a ha)) (j2.cg (fun _ _ => rfl) (fun q9 _ b9 _ => fil_s (f := (lxE n k sz ce lv)) rfl q9 b9)) ((j1 53 (by decide)).trans g3) (by omega)
            refine WP.fgt (lt := [vR 42, vI ((lv : Nat) : Int), vI ((k : Nat) : Int), vI ((0 : Nat) : Int)]) ⟨Or.inr rfl, Or.inr rfl, Or.inr rfl, Or.inr (congrArg vI (by omega)), trivial⟩ ?_
            exact L76 _ (0) (M3) (Nat.zero_le _) (fun a ha => e1 a (by omega) (by omega) (by omega)) (e2.cg (fun _ _ => rfl) (fun q _ b _ => (if_neg (by omega)).symm)) (rfl) (Nat.lt_succ_self _)
          · skip
            have q54 := bi_0 h54
            refine WP.bipush dX7_extend_57 (by decide) ?_
            refine WP.iret dX7_extend_59 rfl ?_
            subst hlv0
            have hq : o_extend (mkS n k sz ce h hs im len tx) x = (-9, (mkS n k sz ce h hs im len tx)) := (cif_t q4).trans ((if_neg (show ¬ (n = 0 ∨ 16 < n) by omega)).trans ((if_neg (show ¬ k = 7 by omega)).trans (cif_f q54)))
            rw [hq]
            exact ⟨rfl, hV1, hf1⟩
        · skip
          refine WP.bipush dX7_extend_46 (by decide) ?_
          refine WP.iret dX7_extend_48 rfl ?_
          exact PX.same ((cif_t q4).trans ((if_neg (show ¬ (n = 0 ∨ 16 < n) by omega)).trans (if_pos (show k = 7 by omega)))) hV
      · skip
        refine WP.bipush dX7_extend_31 (by decide) ?_
        refine WP.iret dX7_extend_33 rfl ?_
        exact PX.same ((cif_t q4).trans (if_pos (show n = 0 ∨ 16 < n by omega))) hV
  · skip
    have q4 := bi_0 h4
    refine WP.iconst dX7_extend_7 ?_
    refine WP.iret dX7_extend_8 rfl ?_
    exact PX.same (cif_f q4) hV
