theorem tpo_0 (sz row : Nat → Nat) : ∀ k, tpo sz row 0 k = 0 ∧ tps sz 0 k = 1
  | 0 => ⟨rfl, rfl⟩
  | k + 1 => by
    obtain ⟨h1, h2⟩ := tpo_0 sz row k
    have h3 : ¬ 0 / 2 ^ k % 2 = 1 := by rw [Nat.zero_div]; decide
    rw [tpo, tps, if_neg h3, if_neg h3]
    exact ⟨h1, h2⟩
theorem okT_0 {n k : Nat} {sz : Nat → Nat} {ce : Nat → Nat → Nat} {P : Nat → Prop} (hk : k ≤ 7) : okT n k sz ce 0 P := fun set hs hp v hv => by
  have hs12 : set < 2 ^ 12 := Nat.lt_of_lt_of_le hs (Nat.pow_le_pow_right (by decide) (by omega))
  have hz : set = 0 := by
    rw [popn_cn] at hp
    have h0 := cn_0.mp hp
    refine Nat.eq_of_testBit_eq (fun i => ?_)
    rw [Nat.zero_testBit]
    by_cases e : i < 12
    · have := h0 i e
      rw [mk_tb] at this
      exact Bool.eq_false_iff.mpr this
    · have := mk_hi2 hs12 (show 12 ≤ i by omega)
      rw [mk_tb] at this
      exact Bool.eq_false_iff.mpr this
  subst hz
  have h1 := (tpo_0 sz (ce 0) k).2
  rw [h1] at hv ⊢
  have hv0 : v = 0 := by omega
  subst hv0
  rw [Nat.mul_one]
  unfold tc
  exact cn_cg (fun q _ => ⟨fun z => z.1, fun z => ⟨z, (tpo_0 sz (ce q) k).1⟩⟩)
theorem stF_skip {ok : Nat → Prop} {t : Nat} : ∀ {k : Nat}, t ≤ k → (∀ u, t < u → u ≤ k → ¬ ok u) → stF ok k = stF ok t
  | 0, h, _ => by rw [show t = 0 by omega]
  | k + 1, h, hn => by
    by_cases e : t = k + 1
    · rw [e]
    · rw [stF, cif_f (hn (k + 1) (by omega) (Nat.le_refl _))]
      exact stF_skip (by omega) (fun u h1 h2 => hn u h1 (by omega))
theorem stF_at {ok : Nat → Prop} : ∀ {t : Nat}, (t = 0 ∨ ok t) → stF ok t = t
  | 0, _ => rfl
  | t + 1, h => by rw [stF, cif_t (h.resolve_left (by omega))]
theorem fi_first {p : Nat → Prop} {j : Nat} : ∀ {f i : Nat}, i ≤ j → j < i + f → p j → (∀ s, i ≤ s → s < j → ¬ p s) → fi p f i = (j : Int)
  | 0, i, h1, h2, _, _ => by omega
  | f + 1, i, h1, h2, hp, hn => by
    by_cases e : i = j
    · rw [e] at *
      exact fi_t hp
    · rw [fi_f (hn i (Nat.le_refl _) (by omega))]
      exact fi_first (by omega) (by omega) hp (fun s s1 s2 => hn s (by omega) s2)
noncomputable def lsM (n k : Nat) (sz : Nat → Nat) (ce : Nat → Nat → Nat) (t : Nat) : Nat → Nat
  | 0 => 36
  | s + 1 => cif (popn 12 s = t) (Nat.min (lsM n k sz ce t s) (mnS n k sz ce s)) (lsM n k sz ce t s)
theorem lsM_min {n k t : Nat} {sz : Nat → Nat} {ce : Nat → Nat → Nat} (hn : n ≤ 36) : ∀ s, Nat.min n (lsM n k sz ce t s) = lss n k sz ce t s ∧ lsM n k sz ce t s ≤ 36
  | 0 => ⟨Nat.min_eq_left hn, Nat.le_refl _⟩
  | s + 1 => by
    have ih := lsM_min (n := n) (k := k) (t := t) (sz := sz) (ce := ce) hn s
    by_cases q : popn 12 s = t
    · rw [lsM, lss, cif_t q, cif_t q, ← ih.1]
      exact ⟨(Nat.min_assoc _ _ _).symm, Nat.le_trans (Nat.min_le_left _ _) ih.2⟩
    · rw [lsM, lss, cif_f q, cif_f q]
      exact ih
theorem lsM_le {n k t : Nat} {sz : Nat → Nat} {ce : Nat → Nat → Nat} {u : Nat} (hp : popn 12 u = t) : ∀ {s : Nat}, u < s → lsM n k sz ce t s ≤ n
  | 0, h => absurd h (Nat.not_lt_zero u)
  | s + 1, h => by
    by_cases e : u = s
    · rw [← e, lsM, cif_t hp]
      exact Nat.le_trans (Nat.min_le_right _ _) mnv_lea
    · have ih := lsM_le (n := n) (k := k) (sz := sz) (ce := ce) hp (s := s) (by omega)
      by_cases q : popn 12 s = t
      · rw [lsM, cif_t q]; exact Nat.le_trans (Nat.min_le_left _ _) ih
      · rw [lsM, cif_f q]; exact ih
theorem popn_ones {t : Nat} (h : t ≤ 7) : popn 12 (2 ^ t - 1) = t := by
  have h1 : 0 < 2 ^ t := Nat.two_pow_pos t
  rw [popn_12 (n := t) (by omega) (by omega)]
  exact cn_all
theorem lsM_end {n k t : Nat} {sz : Nat → Nat} {ce : Nat → Nat → Nat} (hn : n ≤ 36) (ht : t ≤ k) (hk : k ≤ 7) : lsM n k sz ce t (2 ^ k) = lss n k sz ce t (2 ^ k) := by
  have h1 := (lsM_min (k := k) (t := t) (sz := sz) (ce := ce) hn (2 ^ k)).1
  have hp : 2 ^ t ≤ 2 ^ k := Nat.pow_le_pow_right (by decide) ht
  have h0 : 0 < 2 ^ t := Nat.two_pow_pos t
  have h2 := lsM_le (n := n) (k := k) (sz := sz) (ce := ce) (popn_ones (t := t) (by omega)) (s := 2 ^ k) (by omega)
  rw [← h1]
  exact (Nat.min_eq_right h2).symm
theorem bad_okT {n k t : Nat} {sz : Nat → Nat} {ce : Nat → Nat → Nat} {P : Nat → Prop} : cn (fun set => popn 12 set = t ∧ ¬ bal n k sz ce set P) (2 ^ k) = 0 ↔ okT n k sz ce t P := by
  rw [cn_0]
  exact ⟨fun h s h1 h2 => Classical.byContradiction (fun z => h s h1 ⟨h2, z⟩), fun h s h1 z => z.2 (h s h1 z.1)⟩
set_option maxHeartbeats 4000000 in
set_option maxRecDepth 20000 in
theorem w_isSmall {M : Mem} {n k : Nat} {sz : Nat → Nat} {ce : Nat → Nat → Nat} (hA : BX (M 168) n k sz ce) (hW : Wf n k sz ce) {x : Int} (hx : -2147483648 ≤ x ∧ x < 2147483648) : CT 2 m_X8_isSmall [vR 167, vI x] M (Rt (some (vI (bi (1 ≤ ((n : Nat) : Int) ∧ ((n : Nat) : Int) ≤ x)))) M) := by
  have b1 := hW.1
  have b2 := hW.2.1
  refine CT.ofWP (by decide +kernel) (Nat.le_of_ble_eq_true rfl) ?_
  show WP sc0 2 m_X8_isSmall 0 [vR 167, vI x] [] M (Rt (some (vI (bi (1 ≤ ((n : Nat) : Int) ∧ ((n : Nat) : Int) ≤ x)))) M)
  refine WP.aload_n dX8_isSmall_0 rfl ?_
  refine WP.getR (y := 168) dX8_isSmall_1 fl_X8_7 (rfl) (by decide) (rfl) ?_
  refine WP.iconst dX8_isSmall_4 ?_
  refine WP.iaload (y := 0) (x := ((n : Nat) : Int)) dX8_isSmall_5 (rfl) (by omega) (by omega) (hA.1) ?_
  refine WP.iconst dX8_isSmall_6 ?_
  refine WP.iload_n dX8_isSmall_7 rfl ?_
  refine WP.callSp (as := [vI ((n : Nat) : Int), vI (1 : Int), vI x]) dX8_isSmall_8 ms_X8_43 rfl (w_isIn (by omega) (by omega) (by omega)) rfl (Nat.le_of_ble_eq_true rfl) (by omega) ?_
  refine WP.zret dX8_isSmall_11 rfl (bi_01) ?_
  exact ⟨congrArg some (congrArg vI (bi_cg ⟨fun _ => by omega, fun _ => by omega⟩)), rfl⟩
set_option maxHeartbeats 4000000 in
set_option maxRecDepth 20000 in
theorem w_unbalanced {M : Mem} {n k : Nat} {sz : Nat → Nat} {ce : Nat → Nat → Nat} {t sp : Nat} {P : Nat → Prop} (hA : BX (M 168) n k sz ce) (hW : Wf n k sz ce) (ht : t ≤ 7) (hsp : sp < 2 ^ 12) (hPd : ∀ q, q < n → (P q ↔ ¬ mk sp q)) : CT 5 m_X8_unbalanced [vR 167, vI ((t : Nat) : Int), vI ((sp : Nat) : Int)] M (fun z M' => z = some (vI ((cn (fun set => popn 12 set = t ∧ ¬ bal n k sz ce set P) (2 ^ k) : Nat) : Int)) ∧ (∀ a, a ≠ 167 → M' a = M a) ∧ ∀ j, j ≠ 8 → j ≠ 9 → M' 167 j = M 167 j) := by
  have b1 := hW.1
  have b2 := hW.2.1
  have hp128 := pw7 b2
  have hp1 : 0 < 2 ^ k := Nat.two_pow_pos k
  have h27 : 2 ^ 7 = 128 := rfl
  have hs12 : 2 ^ 12 = 4096 := rfl
  refine CT.ofWP (by decide +kernel) (Nat.le_of_ble_eq_true rfl) ?_
  show WP sc0 5 m_X8_unbalanced 0 [vR 167, vI ((t : Nat) : Int), vI ((sp : Nat) : Int), vU, vU] [] M (fun z M' => z = some (vI ((cn (fun set => popn 12 set = t ∧ ¬ bal n k sz ce set P) (2 ^ k) : Nat) : Int)) ∧ (∀ a, a ≠ 167 → M' a = M a) ∧ ∀ j, j ≠ 8 → j ≠ 9 → M' 167 j = M 167 j)
  refine WP.iconst dX8_unbalanced_0 ?_
  refine WP.istore_n (lt := [vR 167, vI ((t : Nat) : Int), vI ((sp : Nat) : Int), vI (0 : Int), vU]) dX8_unbalanced_1 (by decide) rfl ?_
  refine WP.iconst dX8_unbalanced_2 ?_
  refine WP.istore (lt := [vR 167, vI ((t : Nat) : Int), vI ((sp : Nat) : Int), vI (0 : Int), vI (0 : Int)]) dX8_unbalanced_3 (by decide) rfl ?_
  have L5 : ∀ (n9 : Nat) (s : Nat) (M1 : Mem) (hs : s ≤ 2 ^ k) (hF1 : ∀ a, a ≠ 167 → M1 a = M a) (hG1 : ∀ j, j ≠ 8 → j ≠ 9 → M1 167 j = M 167 j), 2 ^ k - s < n9 → WP sc0 5 m_X8_unbalanced 5 [vR 167, vI ((t : Nat) : Int), vI ((sp : Nat) : Int), vI ((cn (fun set => popn 12 set = t ∧ ¬ bal n k sz ce set P) s : Nat) : Int), vI ((s : Nat) : Int)] [] M1 (fun z M' => z = some (vI ((cn (fun set => popn 12 set = t ∧ ¬ bal n k sz ce set P) (2 ^ k) : Nat) : Int)) ∧ (∀ a, a ≠ 167 → M' a = M a) ∧ ∀ j, j ≠ 8 → j ≠ 9 → M' 167 j = M 167 j) := by
    intro n9
    induction n9 with
    | zero =>
      intro s M1 hs hF1 hG1 hm9
      exact absurd hm9 (Nat.not_lt_zero _)
    | succ n9 ih5 =>
      intro s M1 hs hF1 hG1 hm9
      have hA1 : BX (M1 168) n k sz ce := by rw [hF1 168 (by decide)]; exact hA
      have hcl := cn_le (fun set => popn 12 set = t ∧ ¬ bal n k sz ce set P) s
      refine WP.iload dX8_unbalanced_5 rfl ?_
      refine WP.iconst dX8_unbalanced_7 ?_
      refine WP.aload_n dX8_unbalanced_8 rfl ?_
      refine WP.getR (y := 168) dX8_unbalanced_9 fl_X8_7 (rfl) (by decide) (rfl) ?_
      refine WP.iconst dX8_unbalanced_12 ?_
      refine WP.iaload (y := 1) (x := ((k : Nat) : Int)) dX8_unbalanced_13 (rfl) (by omega) (by omega) (hA1.2.1) ?_
      refine WP.ishl (z := ((2 ^ k : Nat) : Int)) dX8_unbalanced_14 (shl_ok k (by omega)) ?_
      refine WP.icmp_ge (tgt := 51) dX8_unbalanced_15 (by decide) (by omega) (by omega) (fun h15 => ?_) (fun h15 => ?_)
      · skip
        refine WP.iload_n dX8_unbalanced_51 rfl ?_
        refine WP.iret dX8_unbalanced_52 rfl ?_
        rw [show s = 2 ^ k by omega]
        exact ⟨rfl, hF1, hG1⟩
      · skip
        refine WP.iload_n dX8_unbalanced_18 rfl ?_
        refine WP.iload dX8_unbalanced_19 rfl ?_
        refine WP.callSp (as := [vI ((s : Nat) : Int)]) dX8_unbalanced_21 ms_X8_138 rfl (w_size (set := s) (by omega)) rfl (Nat.le_of_ble_eq_true rfl) (by omega) ?_
        have hpl : popn 12 s ≤ 12 := by rw [popn_cn]; exact cn_le _ 12
        refine WP.iload_n dX8_unbalanced_24 rfl ?_
        refine WP.icmp_ne (tgt := 42) dX8_unbalanced_25 (by decide) (by omega) (by omega) (fun h25 => ?_) (fun h25 => ?_)
        · skip
          have q43 : cn (fun set => popn 12 set = t ∧ ¬ bal n k sz ce set P) (s + 1) = cn (fun set => popn 12 set = t ∧ ¬ bal n k sz ce set P) s := cn_f (p := (fun set => popn 12 set = t ∧ ¬ bal n k sz ce set P)) (fun z => by have := z.1; omega)
          refine WP.iconst dX8_unbalanced_42 ?_
          refine WP.iadd dX8_unbalanced_43 ?_
          refine WP.istore_n (lt := [vR 167, vI ((t : Nat) : Int), vI ((sp : Nat) : Int), vI (((cn (fun set => popn 12 set = t ∧ ¬ bal n k sz ce set P) s : Nat) : Int) + (0 : Int)), vI ((s : Nat) : Int)]) dX8_unbalanced_44 (by decide) rfl ?_
          refine WP.iinc (lt := [vR 167, vI ((t : Nat) : Int), vI ((sp : Nat) : Int), vI (((cn (fun set => popn 12 set = t ∧ ¬ bal n k sz ce set P) s : Nat) : Int) + (0 : Int)), vI (((s : Nat) : Int) + 1)]) dX8_unbalanced_45 rfl (by decide) rfl ?_
          refine WP.goto (tgt := 5) dX8_unbalanced_48 (by decide) ?_
          refine WP.fgt (lt := [vR 167, vI ((t : Nat) : Int), vI ((sp : Nat) : Int), vI ((cn (fun set => popn 12 set = t ∧ ¬ bal n k sz ce set P) (s + 1) : Nat) : Int), vI (((s + 1) : Nat) : Int)]) ⟨Or.inr rfl, Or.inr rfl, Or.inr rfl, Or.inr (congrArg vI (by rw [q43]; omega)), Or.inr (congrArg vI (by omega)), trivial⟩ ?_
          exact ih5 (s + 1) (M1) (by omega) (hF1) (hG1) (by omega)
        · skip
          refine WP.aload_n dX8_unbalanced_28 rfl ?_
          refine WP.iload dX8_unbalanced_29 rfl ?_
          refine WP.iload_n dX8_unbalanced_31 rfl ?_
          refine WP.callV (as := [vI ((s : Nat) : Int), vI ((sp : Nat) : Int)]) dX8_unbalanced_32 mv_X8_141 rfl (rfl) (by decide) rfl rfl (w_isBalanced (set := s) (sp := sp) (P := P) hA1 hW (by omega) hsp hPd) rfl (Nat.le_of_ble_eq_true rfl) (by omega) (fun r9 M2 h9 => ?_)
          obtain ⟨rfl, f2, g2, e8, e9⟩ := h9
          show WP sc0 5 m_X8_unbalanced 35 [vR 167, vI ((t : Nat) : Int), vI ((sp : Nat) : Int), vI ((cn (fun set => popn 12 set = t ∧ ¬ bal n k sz ce set P) s : Nat) : Int), vI ((s : Nat) : Int)] [vI (bi (bal n k sz ce s P)), vI ((cn (fun set => popn 12 set = t ∧ ¬ bal n k sz ce set P) s : Nat) : Int)] M2 (fun z M' => z = some (vI ((cn (fun set => popn 12 set = t ∧ ¬ bal n k sz ce set P) (2 ^ k) : Nat) : Int)) ∧ (∀ a, a ≠ 167 → M' a = M a) ∧ ∀ j, j ≠ 8 → j ≠ 9 → M' 167 j = M 167 j)
          refine WP.if_ne (tgt := 42) dX8_unbalanced_35 (by decide) (bi_rng) (fun h35 => ?_) (fun h35 => ?_)
          · skip
            have q43 : cn (fun set => popn 12 set = t ∧ ¬ bal n k sz ce set P) (s + 1) = cn (fun set => popn 12 set = t ∧ ¬ bal n k sz ce set P) s := cn_f (p := (fun set => popn 12 set = t ∧ ¬ bal n k sz ce set P)) (fun z => z.2 (bi_1 h35))
            refine WP.iconst dX8_unbalanced_42 ?_
            refine WP.iadd dX8_unbalanced_43 ?_
            refine WP.istore_n (lt := [vR 167, vI ((t : Nat) : Int), vI ((sp : Nat) : Int), vI (((cn (fun set => popn 12 set = t ∧ ¬ bal n k sz ce set P) s : Nat) : Int) + (0 : Int)), vI ((s : Nat) : Int)]) dX8_unbalanced_44 (by decide) rfl ?_
            refine WP.iinc (lt := [vR 167, vI ((t : Nat) : Int), vI ((sp : Nat) : Int), vI (((cn (fun set => popn 12 set = t ∧ ¬ bal n k sz ce set P) s : Nat) : Int) + (0 : Int)), vI (((s : Nat) : Int) + 1)]) dX8_unbalanced_45 rfl (by decide) rfl ?_
            refine WP.goto (tgt := 5) dX8_unbalanced_48 (by decide) ?_
            refine WP.fgt (lt := [vR 167, vI ((t : Nat) : Int), vI ((sp : Nat) : Int), vI ((cn (fun set => popn 12 set = t ∧ ¬ bal n k sz ce set P) (s + 1) : Nat) : Int), vI (((s + 1) : Nat) : Int)]) ⟨Or.inr rfl, Or.inr rfl, Or.inr rfl, Or.inr (congrArg vI (by rw [q43]; omega)), Or.inr (congrArg vI (by omega)), trivial⟩ ?_
            exact ih5 (s + 1) (M2) (by omega) (fun a ha => (f2 a ha).trans (hF1 a ha)) (fun j i1 i2 => (g2 j i1 i2).trans (hG1 j i1 i2)) (by omega)
          · skip
            have q43 : cn (fun set => popn 12 set = t ∧ ¬ bal n k sz ce set P) (s + 1) = cn (fun set => popn 12 set = t ∧ ¬ bal n k sz ce set P) s + 1 := cn_t (p := (fun set => popn 12 set = t ∧ ¬ bal n k sz ce set P)) ⟨by omega, bi_0 h35⟩
            refine WP.iconst dX8_unbalanced_38 ?_
            refine WP.goto (tgt := 43) dX8_unbalanced_39 (by decide) ?_
            refine WP.iadd dX8_unbalanced_43 ?_
            refine WP.istore_n (lt := [vR 167, vI ((t : Nat) : Int), vI ((sp : Nat) : Int), vI (((cn (fun set => popn 12 set = t ∧ ¬ bal n k sz ce set P) s : Nat) : Int) + (1 : Int)), vI ((s : Nat) : Int)]) dX8_unbalanced_44 (by decide) rfl ?_
            refine WP.iinc (lt := [vR 167, vI ((t : Nat) : Int), vI ((sp : Nat) : Int), vI (((cn (fun set => popn 12 set = t ∧ ¬ bal n k sz ce set P) s : Nat) : Int) + (1 : Int)), vI (((s : Nat) : Int) + 1)]) dX8_unbalanced_45 rfl (by decide) rfl ?_
            refine WP.goto (tgt := 5) dX8_unbalanced_48 (by decide) ?_
            refine WP.fgt (lt := [vR 167, vI ((t : Nat) : Int), vI ((sp : Nat) : Int), vI ((cn (fun set => popn 12 set = t ∧ ¬ bal n k sz ce set P) (s + 1) : Nat) : Int), vI (((s + 1) : Nat) : Int)]) ⟨Or.inr rfl, Or.inr rfl, Or.inr rfl, Or.inr (congrArg vI (by rw [q43]; omega)), Or.inr (congrArg vI (by omega)), trivial⟩ ?_
            exact ih5 (s + 1) (M2) (by omega) (fun a ha => (f2 a ha).trans (hF1 a ha)) (fun j i1 i2 => (g2 j i1 i2).trans (hG1 j i1 i2)) (by omega)
  refine WP.fgt (lt := [vR 167, vI ((t : Nat) : Int), vI ((sp : Nat) : Int), vI ((cn (fun set => popn 12 set = t ∧ ¬ bal n k sz ce set P) 0 : Nat) : Int), vI ((0 : Nat) : Int)]) ⟨Or.inr rfl, Or.inr rfl, Or.inr rfl, Or.inr (congrArg vI (rfl)), Or.inr (congrArg vI (by omega)), trivial⟩ ?_
  exact L5 _ (0) (M) (Nat.zero_le _) (fun _ _ => rfl) (fun _ _ _ => rfl) (Nat.lt_succ_self _)
set_option maxHeartbeats 4000000 in
set_option maxRecDepth 20000 in
theorem w_strength {M : Mem} {n k : Nat} {sz : Nat → Nat} {ce : Nat → Nat → Nat} (hA : BX (M 168) n k sz ce) (hW : Wf n k sz ce) : CT 6 m_X8_strength [vR 167] M (fun z M' => z = some (vI ((stF (fun b => okT n k sz ce b aT) k : Nat) : Int)) ∧ (∀ a, a ≠ 167 → M' a = M a) ∧ ∀ j, j ≠ 8 → j ≠ 9 → M' 167 j = M 167 j) := by
  have b1 := hW.1
  have b2 := hW.2.1
  have hp128 := pw7 b2
  refine CT.ofWP (by decide +kernel) (Nat.le_of_ble_eq_true rfl) ?_
  show WP sc0 6 m_X8_strength 0 [vR 167, vU] [] M (fun z M' => z = some (vI ((stF (fun b => okT n k sz ce b aT) k : Nat) : Int)) ∧ (∀ a, a ≠ 167 → M' a = M a) ∧ ∀ j, j ≠ 8 → j ≠ 9 → M' 167 j = M 167 j)
  refine WP.aload_n dX8_strength_0 rfl ?_
  refine WP.getR (y := 168) dX8_strength_1 fl_X8_7 (rfl) (by decide) (rfl) ?_
  refine WP.iconst dX8_strength_4 ?_
  refine WP.iaload (y := 1) (x := ((k : Nat) : Int)) dX8_strength_5 (rfl) (by omega) (by omega) (hA.2.1) ?_
  refine WP.istore_n (lt := [vR 167, vI ((k : Nat) : Int)]) dX8_strength_6 (by decide) rfl ?_
  have L7 : ∀ (n9 : Nat) (t : Nat) (M1 : Mem) (ht : t ≤ k) (hF1 : ∀ a, a ≠ 167 → M1 a = M a) (hG1 : ∀ j, j ≠ 8 → j ≠ 9 → M1 167 j = M 167 j) (hno : ∀ u, t < u → u ≤ k → ¬ okT n k sz ce u aT), t < n9 → WP sc0 6 m_X8_strength 7 [vR 167, vI ((t : Nat) : Int)] [] M1 (fun z M' => z = some (vI ((stF (fun b => okT n k sz ce b aT) k : Nat) : Int)) ∧ (∀ a, a ≠ 167 → M' a = M a) ∧ ∀ j, j ≠ 8 → j ≠ 9 → M' 167 j = M 167 j) := by
    intro n9
    induction n9 with
    | zero =>
      intro t M1 ht hF1 hG1 hno hm9
      exact absurd hm9 (Nat.not_lt_zero _)
    | succ n9 ih7 =>
      intro t M1 ht hF1 hG1 hno hm9
      have hA1 : BX (M1 168) n k sz ce := by rw [hF1 168 (by decide)]; exact hA
      refine WP.aload_n dX8_strength_7 rfl ?_
      refine WP.iload_n dX8_strength_8 rfl ?_
      refine WP.iconst dX8_strength_9 ?_
      refine WP.eqs (st' := [vI ((0 : Nat) : Int), vI ((t : Nat) : Int), vR 167]) rfl (lc (congrArg vI (rfl)) (lc (rfl) (rfl))) ?_
      refine WP.callV (as := [vI ((t : Nat) : Int), vI ((0 : Nat) : Int)]) dX8_strength_10 mv_X8_144 rfl (rfl) (by decide) rfl rfl (w_unbalanced (t := t) (sp := 0) (P := aT) hA1 hW (by omega) (by decide) (fun q _ => ⟨fun _ => nmk0 q, fun _ => trivial⟩)) rfl (Nat.le_of_ble_eq_true rfl) (by omega) (fun r9 M2 h9 => ?_)
      obtain ⟨rfl, f2, g2⟩ := h9
      have hF2 : ∀ a, a ≠ 167 → M2 a = M a := fun a ha => (f2 a ha).trans (hF1 a ha)
      have hG2 : ∀ j, j ≠ 8 → j ≠ 9 → M2 167 j = M 167 j := fun j i1 i2 => (g2 j i1 i2).trans (hG1 j i1 i2)
      have hcl := cn_le (fun set => popn 12 set = t ∧ ¬ bal n k sz ce set aT) (2 ^ k)
      show WP sc0 6 m_X8_strength 13 [vR 167, vI ((t : Nat) : Int)] [vI ((cn (fun set => popn 12 set = t ∧ ¬ bal n k sz ce set aT) (2 ^ k) : Nat) : Int)] M2 (fun z M' => z = some (vI ((stF (fun b => okT n k sz ce b aT) k : Nat) : Int)) ∧ (∀ a, a ≠ 167 → M' a = M a) ∧ ∀ j, j ≠ 8 → j ≠ 9 → M' 167 j = M 167 j)
      refine WP.if_le (tgt := 22) dX8_strength_13 (by decide) (by omega) (fun h13 => ?_) (fun h13 => ?_)
      · skip
        have hok : okT n k sz ce t aT := bad_okT.mp (by omega)
        refine WP.iload_n dX8_strength_22 rfl ?_
        refine WP.iret dX8_strength_23 rfl ?_
        refine ⟨?_, hF2, hG2⟩
        rw [stF_skip ht hno, stF_at (Or.inr hok)]
      · skip
        have hbad : ¬ okT n k sz ce t aT := fun z => by have := bad_okT.mpr z; omega
        have ht0 : t ≠ 0 := fun z => hbad (by rw [z]; exact okT_0 b2)
        refine WP.iinc (lt := [vR 167, vI (((t : Nat) : Int) + (-1))]) dX8_strength_16 rfl (by decide) rfl ?_
        refine WP.goto (tgt := 7) dX8_strength_19 (by decide) ?_
        refine WP.fgt (lt := [vR 167, vI (((t - 1) : Nat) : Int)]) ⟨Or.inr rfl, Or.inr (congrArg vI (by omega)), trivial⟩ ?_
        exact ih7 (t - 1) (M2) (by omega) (hF2) (hG2) (fun u h1 h2 => by
          by_cases e9 : u = t
          · rw [e9]; exact hbad
          · exact hno u (by omega) h2) (by omega)
  exact L7 _ (k) (M) (Nat.le_refl _) (fun _ _ => rfl) (fun _ _ _ => rfl) (fun u h1 h2 => by omega) (Nat.lt_succ_self _)
set_option maxHeartbeats 4000000 in
set_option maxRecDepth 20000 in
theorem y_told {M : Mem} {n k h len : Nat} {sz tx : Nat → Nat} {ce : Nat → Nat → Nat} {hs : Nat → AR} {im : Nat → Option AR} (hV : InvM M (mkS n k sz ce h hs im len tx)) {x : Int} (hx : -2147483648 ≤ x ∧ x < 2147483648) : CT 40 m_X8_told [vR 167, vI x] M (PM M (o_told (mkS n k sz ce h hs im len tx) x)) := by
  have hA : BX (M 168) n k sz ce := hV.1.1
  have hW : Wf n k sz ce := hV.1.2
  have hH : HM M h hs := hV.2.1
  have hIM : IMm M im := hV.2.2.1
  have hS : SM M len tx := hV.2.2.2
  have b1 := hW.1
  have b2 := hW.2.1
  have hh8 := hH.1
  have hl3 := hS.1
  refine CT.ofWP (by decide +kernel) (Nat.le_of_ble_eq_true rfl) ?_
  show WP sc0 40 m_X8_told 0 [vR 167, vI x] [] M (PM M (o_told (mkS n k sz ce h hs im len tx) x))
  refine WP.iload_n dX8_told_0 rfl ?_
  by_cases h1_0 : x = 0
  · skip
    refine WP.tabIn (off := 51) (tgt := 52) dX8_told_1 (by omega) (by omega) (by omega) (by rw [h1_0]; rfl) (by decide) ?_
    refine WP.aload_n dX8_told_52 rfl ?_
    refine WP.getR (y := 168) dX8_told_53 fl_X8_7 (rfl) (by decide) (rfl) ?_
    refine WP.iconst dX8_told_56 ?_
    refine WP.iaload (y := 0) (x := ((n : Nat) : Int)) dX8_told_57 (rfl) (by omega) (by omega) (hA.1) ?_
    refine WP.iret dX8_told_58 rfl ?_
    exact PM.same (by rw [h1_0]; rfl) hV
  by_cases h1_1 : x = 1
  · skip
    refine WP.tabIn (off := 58) (tgt := 59) dX8_told_1 (by omega) (by omega) (by omega) (by rw [h1_1]; rfl) (by decide) ?_
    refine WP.aload_n dX8_told_59 rfl ?_
    refine WP.getR (y := 168) dX8_told_60 fl_X8_7 (rfl) (by decide) (rfl) ?_
    refine WP.iconst dX8_told_63 ?_
    refine WP.iaload (y := 1) (x := ((k : Nat) : Int)) dX8_told_64 (rfl) (by omega) (by omega) (hA.2.1) ?_
    refine WP.iret dX8_told_65 rfl ?_
    exact PM.same (by rw [h1_1]; rfl) hV
  by_cases h1_2 : x = 2
  · skip
    refine WP.tabIn (off := 65) (tgt := 66) dX8_told_1 (by omega) (by omega) (by omega) (by rw [h1_2]; rfl) (by decide) ?_
    refine WP.aload_n dX8_told_66 rfl ?_
    refine WP.callV (as := []) dX8_told_67 mv_X8_150 rfl (rfl) (by decide) rfl rfl (w_strength hA hW) rfl (Nat.le_of_ble_eq_true rfl) (by omega) (fun r9 M1 h9 => ?_)
    obtain ⟨rfl, e1, e2⟩ := h9
    show WP sc0 40 m_X8_told 70 [vR 167, vI x] [vI ((stF (fun b => okT n k sz ce b aT) k : Nat) : Int)] M1 (PM M (o_told (mkS n k sz ce h hs im len tx) x))
    refine WP.iret dX8_told_70 rfl ?_
    exact PM.cs (by rw [h1_2]; rfl) hV (fun a _ i => e1 a i) (e2)
  by_cases h1_3 : x = 3
  · skip
    refine WP.tabIn (off := 70) (tgt := 71) dX8_told_1 (by omega) (by omega) (by omega) (by rw [h1_3]; rfl) (by decide) ?_
    refine WP.aload_n dX8_told_71 rfl ?_
    refine WP.callVp (as := []) dX8_told_72 mv_X8_153 rfl (rfl) (by decide) rfl rfl (w_copies hA hW) rfl (Nat.le_of_ble_eq_true rfl) (by omega) ?_
    refine WP.iret dX8_told_75 rfl ?_
    exact PM.same (by rw [h1_3]; rfl) hV
  by_cases h1_4 : x = 4
  · skip
    refine WP.tabIn (off := 75) (tgt := 76) dX8_told_1 (by omega) (by omega) (by omega) (by rw [h1_4]; rfl) (by decide) ?_
    refine WP.aload_n dX8_told_76 rfl ?_
    refine WP.callVp (as := []) dX8_told_77 mv_X8_108 rfl (rfl) (by decide) rfl rfl (w_isScheme hA hW) rfl (Nat.le_of_ble_eq_true rfl) (by omega) ?_
    refine WP.if_eq (tgt := 87) dX8_told_80 (by decide) (bi_rng) (fun h80 => ?_) (fun h80 => ?_)
    · skip
      have q80 := bi_0 h80
      refine WP.iconst dX8_told_87 ?_
      refine WP.iret dX8_told_88 rfl ?_
      exact PM.same (by rw [h1_4]; exact o_told_4 (bi_f q80)) hV
    · skip
      have q80 := bi_1 h80
      refine WP.iconst dX8_told_83 ?_
      refine WP.goto (tgt := 88) dX8_told_84 (by decide) ?_
      refine WP.iret dX8_told_88 rfl ?_
      exact PM.same (by rw [h1_4]; exact o_told_4 (bi_t q80)) hV
  by_cases h1_5 : x = 5
  · skip
    refine WP.tabIn (off := 88) (tgt := 89) dX8_told_1 (by omega) (by omega) (by omega) (by rw [h1_5]; rfl) (by decide) ?_
    refine WP.aload_n dX8_told_89 rfl ?_
    refine WP.callVp (as := []) dX8_told_90 mv_X8_156 rfl (rfl) (by decide) rfl rfl (w_leastRows hA hW) rfl (Nat.le_of_ble_eq_true rfl) (by omega) ?_
    refine WP.iret dX8_told_93 rfl ?_
    exact PM.same (by rw [h1_5]; rfl) hV
  by_cases h1_6 : x = 6
  · skip
    refine WP.tabIn (off := 93) (tgt := 94) dX8_told_1 (by omega) (by omega) (by omega) (by rw [h1_6]; rfl) (by decide) ?_
    refine WP.aload_n dX8_told_94 rfl ?_
    refine WP.callVp (as := []) dX8_told_95 mv_X8_159 rfl (rfl) (by decide) rfl rfl (w_leastMultiple hA hW) rfl (Nat.le_of_ble_eq_true rfl) (by omega) ?_
    refine WP.iret dX8_told_98 rfl ?_
    exact PM.same (by rw [h1_6]; rfl) hV
  by_cases h1_7 : x = 7
  · skip
    refine WP.tabIn (off := 98) (tgt := 99) dX8_told_1 (by omega) (by omega) (by omega) (by rw [h1_7]; rfl) (by decide) ?_
    refine WP.aload_n dX8_told_99 rfl ?_
    refine WP.getI (x := ((h : Nat) : Int)) dX8_told_100 fl_X8_47 (rfl) (by decide) (hH.2.1) ?_
    refine WP.iret dX8_told_103 rfl ?_
    exact PM.same (by rw [h1_7]; rfl) hV
  by_cases h1_8 : x = 8
  · skip
    refine WP.tabIn (off := 103) (tgt := 104) dX8_told_1 (by omega) (by omega) (by omega) (by rw [h1_8]; rfl) (by decide) ?_
    refine WP.aload_n dX8_told_104 rfl ?_
    refine WP.getI (x := ((len : Nat) : Int)) dX8_told_105 fl_X8_112 (rfl) (by decide) (hS.2.1) ?_
    refine WP.iret dX8_told_108 rfl ?_
    exact PM.same (by rw [h1_8]; rfl) hV
  refine WP.tabOut (tgt := 109) dX8_told_1 (by omega) (by omega) (by decide) ?_
  refine WP.iconst dX8_told_109 ?_
  refine WP.iret dX8_told_110 rfl ?_
  exact PM.same (by unfold o_told; rw [if_neg h1_0, if_neg h1_1, if_neg h1_2, if_neg h1_3, if_neg h1_4, if_neg h1_5, if_neg h1_6, if_neg h1_7, if_neg h1_8]) hV
set_option maxHeartbeats 4000000 in
set_option maxRecDepth 20000 in
theorem y_audit {M : Mem} {n k h len : Nat} {sz tx : Nat → Nat} {ce : Nat → Nat → Nat} {hs : Nat → AR} {im : Nat → Option AR} (hV : InvM M (mkS n k sz ce h hs im len tx)) {x : Int} (hx : -2147483648 ≤ x ∧ x < 2147483648) {y : Int} (hy : -2147483648 ≤ y ∧ y < 2147483648) : CT 40 m_X8_audit [vR 167, vI x, vI y] M (PM M (o_audit (mkS n k sz ce h hs im len tx) x y)) := by
  have hA : BX (M 168) n k sz ce := hV.1.1
  have hW : Wf n k sz ce := hV.1.2
  have hH : HM M h hs := hV.2.1
  have hIM : IMm M im := hV.2.2.1
  have hS : SM M len tx := hV.2.2.2
  have b1 := hW.1
  have b2 := hW.2.1
  have hh8 := hH.1
  have hl3 := hS.1
  have hp128 := pw7 b2
  have hp1 : 0 < 2 ^ k := Nat.two_pow_pos k
  have h27 : 2 ^ 7 = 128 := rfl
  refine CT.ofWP (by decide +kernel) (Nat.le_of_ble_eq_true rfl) ?_
  show WP sc0 40 m_X8_audit 0 [vR 167, vI x, vI y, vU, vU, vU, vU, vU, vU] [] M (PM M (o_audit (mkS n k sz ce h hs im len tx) x y))
  refine WP.iload_n dX8_audit_0 rfl ?_
  refine WP.iconst dX8_audit_1 ?_
  refine WP.aload_n dX8_audit_2 rfl ?_
  refine WP.getR (y := 168) dX8_audit_3 fl_X8_7 (rfl) (by decide) (rfl) ?_
  refine WP.iconst dX8_audit_6 ?_
  refine WP.iaload (y := 1) (x := ((k : Nat) : Int)) dX8_audit_7 (rfl) (by omega) (by omega) (hA.2.1) ?_
  refine WP.callSp (as := [vI x, vI (0 : Int), vI ((k : Nat) : Int)]) dX8_audit_8 ms_X8_43 rfl (w_isIn (by omega) (by omega) (by omega)) rfl (Nat.le_of_ble_eq_true rfl) (by omega) ?_
  refine WP.if_eq (tgt := 23) dX8_audit_11 (by decide) (bi_rng) (fun h11 => ?_) (fun h11 => ?_)
  · skip
    have q11 := bi_0 h11
    refine WP.iconst dX8_audit_23 ?_
    refine WP.iret dX8_audit_24 rfl ?_
    exact PM.same (congrArg (fun z => (z, _)) (cif_f (fun z => q11 (by have := z.1; dsimp only at this; omega)))) hV
  · skip
    have q11 := bi_1 h11
    obtain ⟨t, ht0⟩ : ∃ t : Nat, x.toNat = t := ⟨_, rfl⟩
    have ht1 : x = ((t : Nat) : Int) := by omega
    refine WP.fgt (lt := [vR 167, vI ((t : Nat) : Int), vI y, vU, vU, vU, vU, vU, vU]) ⟨Or.inr rfl, Or.inr (congrArg vI (ht1.symm)), Or.inr rfl, Or.inl rfl, Or.inl rfl, Or.inl rfl, Or.inl rfl, Or.inl rfl, Or.inl rfl, trivial⟩ ?_
    refine WP.iload_n dX8_audit_14 rfl ?_
    refine WP.iconst dX8_audit_15 ?_
    refine WP.iconst dX8_audit_16 ?_
    refine WP.callSp (as := [vI y, vI (0 : Int), vI (3 : Int)]) dX8_audit_17 ms_X8_43 rfl (w_isIn (by omega) (by omega) (by omega)) rfl (Nat.le_of_ble_eq_true rfl) (by omega) ?_
    refine WP.if_ne (tgt := 25) dX8_audit_20 (by decide) (bi_rng) (fun h20 => ?_) (fun h20 => ?_)
    · skip
      have q20 := bi_1 h20
      refine WP.iconst dX8_audit_25 ?_
      refine WP.istore_n (lt := [vR 167, vI ((t : Nat) : Int), vI y, vI (0 : Int), vU, vU, vU, vU, vU]) dX8_audit_26 (by decide) rfl ?_
      refine WP.bipush dX8_audit_27 (by decide) ?_
      refine WP.istore (lt := [vR 167, vI ((t : Nat) : Int), vI y, vI (0 : Int), vI ((-9) : Int), vU, vU, vU, vU]) dX8_audit_29 (by decide) rfl ?_
      refine WP.iconst dX8_audit_31 ?_
      refine WP.istore (lt := [vR 167, vI ((t : Nat) : Int), vI y, vI (0 : Int), vI ((-9) : Int), vI (0 : Int), vU, vU, vU]) dX8_audit_32 (by decide) rfl ?_
      refine WP.bipush dX8_audit_34 (by decide) ?_
      refine WP.istore (lt := [vR 167, vI ((t : Nat) : Int), vI y, vI (0 : Int), vI ((-9) : Int), vI (0 : Int), vI (36 : Int), vU, vU]) dX8_audit_36 (by decide) rfl ?_
      refine WP.iconst dX8_audit_38 ?_
      refine WP.istore (lt := [vR 167, vI ((t : Nat) : Int), vI y, vI (0 : Int), vI ((-9) : Int), vI (0 : Int), vI (36 : Int), vI (0 : Int), vU]) dX8_audit_39 (by decide) rfl ?_
      have L41 : ∀ (n9 : Nat) (s : Nat) (fs : Int) (M1 : Mem) (hsl : s ≤ 2 ^ k) (hF1 : ∀ a, a ≠ 167 → M1 a = M a) (hG1 : ∀ j, j ≠ 8 → j ≠ 9 → M1 167 j = M 167 j) (hfs : (fs = -9 ∧ ∀ u, u < s → ¬ (fun set => popn 12 set = t ∧ ¬ bal n k sz ce set aT) u) ∨ ∃ j, j < s ∧ fs = (j : Int) ∧ (fun set => popn 12 set = t ∧ ¬ bal n k sz ce set aT) j ∧ ∀ u, u < j → ¬ (fun set => popn 12 set = t ∧ ¬ bal n k sz ce set aT) u), 2 ^ k - s < n9 → WP sc0 40 m_X8_audit 41 [vR 167, vI ((t : Nat) : Int), vI y, vI ((cn (fun set => popn 12 set = t ∧ ¬ bal n k sz ce set aT) s : Nat) : Int), vI fs, vI ((gts n k sz ce t s : Nat) : Int), vI ((lsM n k sz ce t s : Nat) : Int), vI ((s : Nat) : Int), vU] [] M1 (PM M (o_audit (mkS n k sz ce h hs im len tx) x y)) := by
        intro n9
        induction n9 with
        | zero =>
          intro s fs M1 hsl hF1 hG1 hfs hm9
          exact absurd hm9 (Nat.not_lt_zero _)
        | succ n9 ih41 =>
          intro s fs M1 hsl hF1 hG1 hfs hm9
          have hA1 : BX (M1 168) n k sz ce := by rw [hF1 168 (by decide)]; exact hA
          have hcl := cn_le (fun set => popn 12 set = t ∧ ¬ bal n k sz ce set aT) s
          have hgl := gts_le (n := n) (k := k) (t := t) (sz := sz) (ce := ce) s
          have hll := (lsM_min (k := k) (t := t) (sz := sz) (ce := ce) b1 s).2
          have hfr : -9 ≤ fs ∧ fs < 128 := by
            rcases hfs with z | ⟨j, z1, z2, _⟩ <;> omega
          refine WP.iload dX8_audit_41 rfl ?_
          refine WP.iconst dX8_audit_43 ?_
          refine WP.aload_n dX8_audit_44 rfl ?_
          refine WP.getR (y := 168) dX8_audit_45 fl_X8_7 (rfl) (by decide) (rfl) ?_
          refine WP.iconst dX8_audit_48 ?_
          refine WP.iaload (y := 1) (x := ((k : Nat) : Int)) dX8_audit_49 (rfl) (by omega) (by omega) (hA1.2.1) ?_
          refine WP.ishl (z := ((2 ^ k : Nat) : Int)) dX8_audit_50 (shl_ok k (by omega)) ?_
          refine WP.icmp_ge (tgt := 152) dX8_audit_51 (by decide) (by omega) (by omega) (fun h51 => ?_) (fun h51 => ?_)
          · skip
            have hse : s = 2 ^ k := by omega
            have hcnE : cn (fun set => popn 12 set = t ∧ ¬ bal n k sz ce set aT) s = cn (fun set => popn 12 set = t ∧ ¬ bal n k sz ce set (mk (2 ^ n - 1))) (2 ^ k) := by
              rw [hse]
              exact cn_cg (fun u _ => by rw [bal_cg (P := mk (2 ^ n - 1)) (P' := aT) (fun r hr => mk_aT hr)])
            have hfsE : fs = fub n k sz ce t (mk (2 ^ n - 1)) := by
              rw [fub_cg (P := mk (2 ^ n - 1)) (P' := aT) (fun r hr => mk_aT hr)]
              unfold fub
              rcases hfs with ⟨z1, z2⟩ | ⟨j, z1, z2, z3, z4⟩
              · rw [z1, fi_9.mpr (fun j _ hj => z2 j (by omega))]
              · rw [z2, fi_first (Nat.zero_le _) (by omega) z3 (fun u _ hu => z4 u hu)]
            have hgE : gts n k sz ce t s = gts n k sz ce t (2 ^ k) := by rw [hse]
            have hlE : lsM n k sz ce t s = lss n k sz ce t (2 ^ k) := by rw [hse]; exact lsM_end b1 (by omega) b2
            refine WP.iload_n dX8_audit_152 rfl ?_
            refine WP.if_ne (tgt := 160) dX8_audit_153 (by decide) (by omega) (fun h153 => ?_) (fun h153 => ?_)
            · skip
              refine WP.iload_n dX8_audit_160 rfl ?_
              refine WP.iconst dX8_audit_161 ?_
              refine WP.icmp_ne (tgt := 170) dX8_audit_162 (by decide) (by omega) (by omega) (fun h162 => ?_) (fun h162 => ?_)
              · skip
                refine WP.iload_n dX8_audit_170 rfl ?_
                refine WP.iconst dX8_audit_171 ?_
                refine WP.icmp_ne (tgt := 180) dX8_audit_172 (by decide) (by omega) (by omega) (fun h172 => ?_) (fun h172 => ?_)
                · skip
                  refine WP.iload dX8_audit_180 rfl ?_
                  refine WP.iret dX8_audit_182 rfl ?_
                  exact PM.cs (by subst ht0; exact congrArg (fun z => (z, _)) ((cif_t (show (0 ≤ x ∧ x ≤ ((k : Nat) : Int)) ∧ 0 ≤ y ∧ y ≤ 3 by omega)).trans ((if_neg h153).trans ((if_neg h162).trans ((if_neg h172).trans (congrArg (fun z : Nat => (z : Int)) hlE.symm)))))) hV (fun a _ i => hF1 a i) (hG1)
                · skip
                  refine WP.iload dX8_audit_175 rfl ?_
                  refine WP.goto (tgt := 182) dX8_audit_177 (by decide) ?_
                  refine WP.iret dX8_audit_182 rfl ?_
                  exact PM.cs (by subst ht0; exact congrArg (fun z => (z, _)) ((cif_t (show (0 ≤ x ∧ x ≤ ((k : Nat) : Int)) ∧ 0 ≤ y ∧ y ≤ 3 by omega)).trans ((if_neg h153).trans ((if_neg h162).trans ((if_pos h172).trans (congrArg (fun z : Nat => (z : Int)) hgE.symm)))))) hV (fun a _ i => hF1 a i) (hG1)
              · skip
                refine WP.iload dX8_audit_165 rfl ?_
                refine WP.goto (tgt := 182) dX8_audit_167 (by decide) ?_
                refine WP.iret dX8_audit_182 rfl ?_
                exact PM.cs (by subst ht0; exact congrArg (fun z => (z, _)) ((cif_t (show (0 ≤ x ∧ x ≤ ((k : Nat) : Int)) ∧ 0 ≤ y ∧ y ≤ 3 by omega)).trans ((if_neg h153).trans ((if_pos h162).trans hfsE.symm)))) hV (fun a _ i => hF1 a i) (hG1)
            · skip
              refine WP.iload_n dX8_audit_156 rfl ?_
              refine WP.goto (tgt := 182) dX8_audit_157 (by decide) ?_
              refine WP.iret dX8_audit_182 rfl ?_
              exact PM.cs (by subst ht0; exact congrArg (fun z => (z, _)) ((cif_t (show (0 ≤ x ∧ x ≤ ((k : Nat) : Int)) ∧ 0 ≤ y ∧ y ≤ 3 by omega)).trans ((if_pos h153).trans (congrArg (fun z : Nat => (z : Int)) hcnE.symm)))) hV (fun a _ i => hF1 a i) (hG1)
          · skip
            refine WP.iload dX8_audit_54 rfl ?_
            refine WP.callSp (as := [vI ((s : Nat) : Int)]) dX8_audit_56 ms_X8_138 rfl (w_size (set := s) (by omega)) rfl (Nat.le_of_ble_eq_true rfl) (by omega) ?_
            have hpl : popn 12 s ≤ 12 := by rw [popn_cn]; exact cn_le _ 12
            refine WP.iload_n dX8_audit_59 rfl ?_
            refine WP.icmp_ne (tgt := 146) dX8_audit_60 (by decide) (by omega) (by omega) (fun h60 => ?_) (fun h60 => ?_)
            · skip
              have hns : ¬ popn 12 s = t := by omega
              refine WP.iinc (lt := [vR 167, vI ((t : Nat) : Int), vI y, vI ((cn (fun set => popn 12 set = t ∧ ¬ bal n k sz ce set aT) s : Nat) : Int), vI fs, vI ((gts n k sz ce t s : Nat) : Int), vI ((lsM n k sz ce t s : Nat) : Int), vI (((s : Nat) : Int) + 1), vU]) dX8_audit_146 rfl (by decide) rfl ?_
              refine WP.goto (tgt := 41) dX8_audit_149 (by decide) ?_
              refine WP.fgt (lt := [vR 167, vI ((t : Nat) : Int), vI y, vI ((cn (fun set => popn 12 set = t ∧ ¬ bal n k sz ce set aT) (s + 1) : Nat) : Int), vI fs, vI ((gts n k sz ce t (s + 1) : Nat) : Int), vI ((lsM n k sz ce t (s + 1) : Nat) : Int), vI (((s + 1) : Nat) : Int), vU]) ⟨Or.inr rfl, Or.inr rfl, Or.inr rfl, Or.inr (congrArg vI (by rw [cn_f (p := (fun set => popn 12 set = t ∧ ¬ bal n k sz ce set aT)) (fun z => hns z.1)])), Or.inr rfl, Or.inr (congrArg vI (by rw [gts, cif_f hns])), Or.inr (congrArg vI (by rw [lsM, cif_f hns])), Or.inr (congrArg vI (by omega)), Or.inl rfl, trivial⟩ ?_
              exact ih41 (s + 1) (fs) (M1) (by omega) (hF1) (hG1) (hfs.elim (fun z => Or.inl ⟨z.1, fun u hu => by
                by_cases e9 : u = s
                · rw [e9]; exact fun y => hns y.1
                · exact z.2 u (by omega)⟩) (fun ⟨j, z1, z2⟩ => Or.inr ⟨j, by omega, z2⟩)) (by omega)
            · skip
              have hst : popn 12 s = t := by omega
              refine WP.aload_n dX8_audit_63 rfl ?_
              refine WP.iload dX8_audit_64 rfl ?_
              refine WP.iconst dX8_audit_66 ?_
              refine WP.eqs (st' := [vI ((0 : Nat) : Int), vI ((s : Nat) : Int), vR 167]) rfl (lc (congrArg vI (rfl)) (lc (rfl) (rfl))) ?_
              refine WP.callV (as := [vI ((s : Nat) : Int), vI ((0 : Nat) : Int)]) dX8_audit_67 mv_X8_141 rfl (rfl) (by decide) rfl rfl (w_isBalanced (set := s) (sp := 0) (P := aT) hA1 hW (by omega) (by decide) (fun q _ => ⟨fun _ => nmk0 q, fun _ => trivial⟩)) rfl (Nat.le_of_ble_eq_true rfl) (by omega) (fun r9 M2 h9 => ?_)
              obtain ⟨rfl, f2, g2, e8, e9⟩ := h9
              have hF2 : ∀ a, a ≠ 167 → M2 a = M a := fun a ha => (f2 a ha).trans (hF1 a ha)
              have hG2 : ∀ j, j ≠ 8 → j ≠ 9 → M2 167 j = M 167 j := fun j i1 i2 => (g2 j i1 i2).trans (hG1 j i1 i2)
              rw [aud_mn hW] at e8
              have e9' : M2 167 9 = ((mxS n k sz ce s : Nat) : Int) := e9
              have hmxl : mxS n k sz ce s ≤ n := mxv_le (fun v _ => cn_le _ n)
              have hmnl : mnS n k sz ce s ≤ n := mnv_lea
              show WP sc0 40 m_X8_audit 70 [vR 167, vI ((t : Nat) : Int), vI y, vI ((cn (fun set => popn 12 set = t ∧ ¬ bal n k sz ce set aT) s : Nat) : Int), vI fs, vI ((gts n k sz ce t s : Nat) : Int), vI ((lsM n k sz ce t s : Nat) : Int), vI ((s : Nat) : Int), vU] [vI (bi (bal n k sz ce s aT))] M2 (PM M (o_audit (mkS n k sz ce h hs im len tx) x y))
              refine WP.istore (lt := [vR 167, vI ((t : Nat) : Int), vI y, vI ((cn (fun set => popn 12 set = t ∧ ¬ bal n k sz ce set aT) s : Nat) : Int), vI fs, vI ((gts n k sz ce t s : Nat) : Int), vI ((lsM n k sz ce t s : Nat) : Int), vI ((s : Nat) : Int), vI (bi (bal n k sz ce s aT))]) dX8_audit_70 (by decide) rfl ?_
              refine WP.iload_n dX8_audit_72 rfl ?_
              refine WP.iload dX8_audit_73 rfl ?_
              refine WP.if_eq (tgt := 82) dX8_audit_75 (by decide) (bi_rng) (fun h75 => ?_) (fun h75 => ?_)
              · skip
                have qb := bi_0 h75
                refine WP.iconst dX8_audit_82 ?_
                refine WP.iadd dX8_audit_83 ?_
                refine WP.istore_n (lt := [vR 167, vI ((t : Nat) : Int), vI y, vI (((cn (fun set => popn 12 set = t ∧ ¬ bal n k sz ce set aT) s : Nat) : Int) + (1 : Int)), vI fs, vI ((gts n k sz ce t s : Nat) : Int), vI ((lsM n k sz ce t s : Nat) : Int), vI ((s : Nat) : Int), vI (bi (bal n k sz ce s aT))]) dX8_audit_84 (by decide) rfl ?_
                refine WP.iload dX8_audit_85 rfl ?_
                refine WP.if_ne (tgt := 102) dX8_audit_87 (by decide) (bi_rng) (fun h87 => ?_) (fun h87 => ?_)
                · skip
                  exact absurd (bi_1 h87) qb
                · skip
                  refine WP.iload dX8_audit_90 rfl ?_
                  refine WP.bipush dX8_audit_92 (by decide) ?_
                  refine WP.icmp_ne (tgt := 102) dX8_audit_94 (by decide) (by omega) (by omega) (fun h94 => ?_) (fun h94 => ?_)
                  · skip
                    refine WP.iload dX8_audit_102 rfl ?_
                    refine WP.istore (lt := [vR 167, vI ((t : Nat) : Int), vI y, vI (((cn (fun set => popn 12 set = t ∧ ¬ bal n k sz ce set aT) s : Nat) : Int) + (1 : Int)), vI fs, vI ((gts n k sz ce t s : Nat) : Int), vI ((lsM n k sz ce t s : Nat) : Int), vI ((s : Nat) : Int), vI (bi (bal n k sz ce s aT))]) dX8_audit_104 (by decide) rfl ?_
                    refine WP.aload_n dX8_audit_106 rfl ?_
                    refine WP.getI (x := ((mxS n k sz ce s : Nat) : Int)) dX8_audit_107 fl_X8_123 (rfl) (by decide) (e9') ?_
                    refine WP.iload dX8_audit_110 rfl ?_
                    refine WP.icmp_le (tgt := 122) dX8_audit_112 (by decide) (by omega) (by omega) (fun h112 => ?_) (fun h112 => ?_)
                    · skip
                      refine WP.iload dX8_audit_122 rfl ?_
                      refine WP.istore (lt := [vR 167, vI ((t : Nat) : Int), vI y, vI (((cn (fun set => popn 12 set = t ∧ ¬ bal n k sz ce set aT) s : Nat) : Int) + (1 : Int)), vI fs, vI ((gts n k sz ce t s : Nat) : Int), vI ((lsM n k sz ce t s : Nat) : Int), vI ((s : Nat) : Int), vI (bi (bal n k sz ce s aT))]) dX8_audit_124 (by decide) rfl ?_
                      refine WP.aload_n dX8_audit_126 rfl ?_
                      refine WP.getI (x := ((mnS n k sz ce s : Nat) : Int)) dX8_audit_127 fl_X8_126 (rfl) (by decide) (e8) ?_
                      refine WP.iload dX8_audit_130 rfl ?_
                      refine WP.icmp_ge (tgt := 142) dX8_audit_132 (by decide) (by omega) (by omega) (fun h132 => ?_) (fun h132 => ?_)
                      · skip
                        refine WP.iload dX8_audit_142 rfl ?_
                        refine WP.istore (lt := [vR 167, vI ((t : Nat) : Int), vI y, vI (((cn (fun set => popn 12 set = t ∧ ¬ bal n k sz ce set aT) s : Nat) : Int) + (1 : Int)), vI fs, vI ((gts n k sz ce t s : Nat) : Int), vI ((lsM n k sz ce t s : Nat) : Int), vI ((s : Nat) : Int), vI (bi (bal n k sz ce s aT))]) dX8_audit_144 (by decide) rfl ?_
                        refine WP.iinc (lt := [vR 167, vI ((t : Nat) : Int), vI y, vI (((cn (fun set => popn 12 set = t ∧ ¬ bal n k sz ce set aT) s : Nat) : Int) + (1 : Int)), vI fs, vI ((gts n k sz ce t s : Nat) : Int), vI ((lsM n k sz ce t s : Nat) : Int), vI (((s : Nat) : Int) + 1), vI (bi (bal n k sz ce s aT))]) dX8_audit_146 rfl (by decide) rfl ?_
                        refine WP.goto (tgt := 41) dX8_audit_149 (by decide) ?_
                        refine WP.fgt (lt := [vR 167, vI ((t : Nat) : Int), vI y, vI ((cn (fun set => popn 12 set = t ∧ ¬ bal n k sz ce set aT) (s + 1) : Nat) : Int), vI fs, vI ((gts n k sz ce t (s + 1) : Nat) : Int), vI ((lsM n k sz ce t (s + 1) : Nat) : Int), vI (((s + 1) : Nat) : Int), vU]) ⟨Or.inr rfl, Or.inr rfl, Or.inr rfl, Or.inr (congrArg vI (by rw [cn_t (p := (fun set => popn 12 set = t ∧ ¬ bal n k sz ce set aT)) ⟨hst, qb⟩]; omega)), Or.inr rfl, Or.inr (congrArg vI (by rw [gts, cif_t hst]; exact congrArg (fun z : Nat => (z : Int)) (Nat.max_eq_left (show mxS n k sz ce s ≤ gts n k sz ce t s by omega)))), Or.inr (congrArg vI (by rw [lsM, cif_t hst]; exact congrArg (fun z : Nat => (z : Int)) (Nat.min_eq_left (show lsM n k sz ce t s ≤ mnS n k sz ce s by omega)))), Or.inr (congrArg vI (by omega)), Or.inl rfl, trivial⟩ ?_
                        exact ih41 (s + 1) (fs) (M2) (by omega) (hF2) (hG2) (hfs.elim (fun z => absurd z.1 h94) (fun ⟨j, z1, z2⟩ => Or.inr ⟨j, by omega, z2⟩)) (by omega)
                      · skip
                        refine WP.aload_n dX8_audit_135 rfl ?_
                        refine WP.getI (x := ((mnS n k sz ce s : Nat) : Int)) dX8_audit_136 fl_X8_126 (rfl) (by decide) (e8) ?_
                        refine WP.goto (tgt := 144) dX8_audit_139 (by decide) ?_
                        refine WP.istore (lt := [vR 167, vI ((t : Nat) : Int), vI y, vI (((cn (fun set => popn 12 set = t ∧ ¬ bal n k sz ce set aT) s : Nat) : Int) + (1 : Int)), vI fs, vI ((gts n k sz ce t s : Nat) : Int), vI ((mnS n k sz ce s : Nat) : Int), vI ((s : Nat) : Int), vI (bi (bal n k sz ce s aT))]) dX8_audit_144 (by decide) rfl ?_
                        refine WP.iinc (lt := [vR 167, vI ((t : Nat) : Int), vI y, vI (((cn (fun set => popn 12 set = t ∧ ¬ bal n k sz ce set aT) s : Nat) : Int) + (1 : Int)), vI fs, vI ((gts n k sz ce t s : Nat) : Int), vI ((mnS n k sz ce s : Nat) : Int), vI (((s : Nat) : Int) + 1), vI (bi (bal n k sz ce s aT))]) dX8_audit_146 rfl (by decide) rfl ?_
                        refine WP.goto (tgt := 41) dX8_audit_149 (by decide) ?_
                        refine WP.fgt (lt := [vR 167, vI ((t : Nat) : Int), vI y, vI ((cn (fun set => popn 12 set = t ∧ ¬ bal n k sz ce set aT) (s + 1) : Nat) : Int), vI fs, vI ((gts n k sz ce t (s + 1) : Nat) : Int), vI ((lsM n k sz ce t (s + 1) : Nat) : Int), vI (((s + 1) : Nat) : Int), vU]) ⟨Or.inr rfl, Or.inr rfl, Or.inr rfl, Or.inr (congrArg vI (by rw [cn_t (p := (fun set => popn 12 set = t ∧ ¬ bal n k sz ce set aT)) ⟨hst, qb⟩]; omega)), Or.inr rfl, Or.inr (congrArg vI (by rw [gts, cif_t hst]; exact congrArg (fun z : Nat => (z : Int)) (Nat.max_eq_left (show mxS n k sz ce s ≤ gts n k sz ce t s by omega)))), Or.inr (congrArg vI (by rw [lsM, cif_t hst]; exact congrArg (fun z : Nat => (z : Int)) (Nat.min_eq_right (show mnS n k sz ce s ≤ lsM n k sz ce t s by omega)))), Or.inr (congrArg vI (by omega)), Or.inl rfl, trivial⟩ ?_
                        exact ih41 (s + 1) (fs) (M2) (by omega) (hF2) (hG2) (hfs.elim (fun z => absurd z.1 h94) (fun ⟨j, z1, z2⟩ => Or.inr ⟨j, by omega, z2⟩)) (by omega)
                    · skip
                      refine WP.aload_n dX8_audit_115 rfl ?_
                      refine WP.getI (x := ((mxS n k sz ce s : Nat) : Int)) dX8_audit_116 fl_X8_123 (rfl) (by decide) (e9') ?_
                      refine WP.goto (tgt := 124) dX8_audit_119 (by decide) ?_
                      refine WP.istore (lt := [vR 167, vI ((t : Nat) : Int), vI y, vI (((cn (fun set => popn 12 set = t ∧ ¬ bal n k sz ce set aT) s : Nat) : Int) + (1 : Int)), vI fs, vI ((mxS n k sz ce s : Nat) : Int), vI ((lsM n k sz ce t s : Nat) : Int), vI ((s : Nat) : Int), vI (bi (bal n k sz ce s aT))]) dX8_audit_124 (by decide) rfl ?_
                      refine WP.aload_n dX8_audit_126 rfl ?_
                      refine WP.getI (x := ((mnS n k sz ce s : Nat) : Int)) dX8_audit_127 fl_X8_126 (rfl) (by decide) (e8) ?_
                      refine WP.iload dX8_audit_130 rfl ?_
                      refine WP.icmp_ge (tgt := 142) dX8_audit_132 (by decide) (by omega) (by omega) (fun h132 => ?_) (fun h132 => ?_)
                      · skip
                        refine WP.iload dX8_audit_142 rfl ?_
                        refine WP.istore (lt := [vR 167, vI ((t : Nat) : Int), vI y, vI (((cn (fun set => popn 12 set = t ∧ ¬ bal n k sz ce set aT) s : Nat) : Int) + (1 : Int)), vI fs, vI ((mxS n k sz ce s : Nat) : Int), vI ((lsM n k sz ce t s : Nat) : Int), vI ((s : Nat) : Int), vI (bi (bal n k sz ce s aT))]) dX8_audit_144 (by decide) rfl ?_
                        refine WP.iinc (lt := [vR 167, vI ((t : Nat) : Int), vI y, vI (((cn (fun set => popn 12 set = t ∧ ¬ bal n k sz ce set aT) s : Nat) : Int) + (1 : Int)), vI fs, vI ((mxS n k sz ce s : Nat) : Int), vI ((lsM n k sz ce t s : Nat) : Int), vI (((s : Nat) : Int) + 1), vI (bi (bal n k sz ce s aT))]) dX8_audit_146 rfl (by decide) rfl ?_
                        refine WP.goto (tgt := 41) dX8_audit_149 (by decide) ?_
                        refine WP.fgt (lt := [vR 167, vI ((t : Nat) : Int), vI y, vI ((cn (fun set => popn 12 set = t ∧ ¬ bal n k sz ce set aT) (s + 1) : Nat) : Int), vI fs, vI ((gts n k sz ce t (s + 1) : Nat) : Int), vI ((lsM n k sz ce t (s + 1) : Nat) : Int), vI (((s + 1) : Nat) : Int), vU]) ⟨Or.inr rfl, Or.inr rfl, Or.inr rfl, Or.inr (congrArg vI (by rw [cn_t (p := (fun set => popn 12 set = t ∧ ¬ bal n k sz ce set aT)) ⟨hst, qb⟩]; omega)), Or.inr rfl, Or.inr (congrArg vI (by rw [gts, cif_t hst]; exact congrArg (fun z : Nat => (z : Int)) (Nat.max_eq_right (show gts n k sz ce t s ≤ mxS n k sz ce s by omega)))), Or.inr (congrArg vI (by rw [lsM, cif_t hst]; exact congrArg (fun z : Nat => (z : Int)) (Nat.min_eq_left (show lsM n k sz ce t s ≤ mnS n k sz ce s by omega)))), Or.inr (congrArg vI (by omega)), Or.inl rfl, trivial⟩ ?_
                        exact ih41 (s + 1) (fs) (M2) (by omega) (hF2) (hG2) (hfs.elim (fun z => absurd z.1 h94) (fun ⟨j, z1, z2⟩ => Or.inr ⟨j, by omega, z2⟩)) (by omega)
                      · skip
                        refine WP.aload_n dX8_audit_135 rfl ?_
                        refine WP.getI (x := ((mnS n k sz ce s : Nat) : Int)) dX8_audit_136 fl_X8_126 (rfl) (by decide) (e8) ?_
                        refine WP.goto (tgt := 144) dX8_audit_139 (by decide) ?_
                        refine WP.istore (lt := [vR 167, vI ((t : Nat) : Int), vI y, vI (((cn (fun set => popn 12 set = t ∧ ¬ bal n k sz ce set aT) s : Nat) : Int) + (1 : Int)), vI fs, vI ((mxS n k sz ce s : Nat) : Int), vI ((mnS n k sz ce s : Nat) : Int), vI ((s : Nat) : Int), vI (bi (bal n k sz ce s aT))]) dX8_audit_144 (by decide) rfl ?_
                        refine WP.iinc (lt := [vR 167, vI ((t : Nat) : Int), vI y, vI (((cn (fun set => popn 12 set = t ∧ ¬ bal n k sz ce set aT) s : Nat) : Int) + (1 : Int)), vI fs, vI ((mxS n k sz ce s : Nat) : Int), vI ((mnS n k sz ce s : Nat) : Int), vI (((s : Nat) : Int) + 1), vI (bi (bal n k sz ce s aT))]) dX8_audit_146 rfl (by decide) rfl ?_
                        refine WP.goto (tgt := 41) dX8_audit_149 (by decide) ?_
                        refine WP.fgt (lt := [vR 167, vI ((t : Nat) : Int), vI y, vI ((cn (fun set => popn 12 set = t ∧ ¬ bal n k sz ce set aT) (s + 1) : Nat) : Int), vI fs, vI ((gts n k sz ce t (s + 1) : Nat) : Int), vI ((lsM n k sz ce t (s + 1) : Nat) : Int), vI (((s + 1) : Nat) : Int), vU]) ⟨Or.inr rfl, Or.inr rfl, Or.inr rfl, Or.inr (congrArg vI (by rw [cn_t (p := (fun set => popn 12 set = t ∧ ¬ bal n k sz ce set aT)) ⟨hst, qb⟩]; omega)), Or.inr rfl, Or.inr (congrArg vI (by rw [gts, cif_t hst]; exact congrArg (fun z : Nat => (z : Int)) (Nat.max_eq_right (show gts n k sz ce t s ≤ mxS n k sz ce s by omega)))), Or.inr (congrArg vI (by rw [lsM, cif_t hst]; exact congrArg (fun z : Nat => (z : Int)) (Nat.min_eq_right (show mnS n k sz ce s ≤ lsM n k sz ce t s by omega)))), Or.inr (congrArg vI (by omega)), Or.inl rfl, trivial⟩ ?_
                        exact ih41 (s + 1) (fs) (M2) (by omega) (hF2) (hG2) (hfs.elim (fun z => absurd z.1 h94) (fun ⟨j, z1, z2⟩ => Or.inr ⟨j, by omega, z2⟩)) (by omega)
                  · skip
                    refine WP.iload dX8_audit_97 rfl ?_
                    refine WP.goto (tgt := 104) dX8_audit_99 (by decide) ?_
                    refine WP.istore (lt := [vR 167, vI ((t : Nat) : Int), vI y, vI (((cn (fun set => popn 12 set = t ∧ ¬ bal n k sz ce set aT) s : Nat) : Int) + (1 : Int)), vI ((s : Nat) : Int), vI ((gts n k sz ce t s : Nat) : Int), vI ((lsM n k sz ce t s : Nat) : Int), vI ((s : Nat) : Int), vI (bi (bal n k sz ce s aT))]) dX8_audit_104 (by decide) rfl ?_
                    refine WP.aload_n dX8_audit_106 rfl ?_
                    refine WP.getI (x := ((mxS n k sz ce s : Nat) : Int)) dX8_audit_107 fl_X8_123 (rfl) (by decide) (e9') ?_
                    refine WP.iload dX8_audit_110 rfl ?_
                    refine WP.icmp_le (tgt := 122) dX8_audit_112 (by decide) (by omega) (by omega) (fun h112 => ?_) (fun h112 => ?_)
                    · skip
                      refine WP.iload dX8_audit_122 rfl ?_
                      refine WP.istore (lt := [vR 167, vI ((t : Nat) : Int), vI y, vI (((cn (fun set => popn 12 set = t ∧ ¬ bal n k sz ce set aT) s : Nat) : Int) + (1 : Int)), vI ((s : Nat) : Int), vI ((gts n k sz ce t s : Nat) : Int), vI ((lsM n k sz ce t s : Nat) : Int), vI ((s : Nat) : Int), vI (bi (bal n k sz ce s aT))]) dX8_audit_124 (by decide) rfl ?_
                      refine WP.aload_n dX8_audit_126 rfl ?_
                      refine WP.getI (x := ((mnS n k sz ce s : Nat) : Int)) dX8_audit_127 fl_X8_126 (rfl) (by decide) (e8) ?_
                      refine WP.iload dX8_audit_130 rfl ?_
                      refine WP.icmp_ge (tgt := 142) dX8_audit_132 (by decide) (by omega) (by omega) (fun h132 => ?_) (fun h132 => ?_)
                      · skip
                        refine WP.iload dX8_audit_142 rfl ?_
                        refine WP.istore (lt := [vR 167, vI ((t : Nat) : Int), vI y, vI (((cn (fun set => popn 12 set = t ∧ ¬ bal n k sz ce set aT) s : Nat) : Int) + (1 : Int)), vI ((s : Nat) : Int), vI ((gts n k sz ce t s : Nat) : Int), vI ((lsM n k sz ce t s : Nat) : Int), vI ((s : Nat) : Int), vI (bi (bal n k sz ce s aT))]) dX8_audit_144 (by decide) rfl ?_
                        refine WP.iinc (lt := [vR 167, vI ((t : Nat) : Int), vI y, vI (((cn (fun set => popn 12 set = t ∧ ¬ bal n k sz ce set aT) s : Nat) : Int) + (1 : Int)), vI ((s : Nat) : Int), vI ((gts n k sz ce t s : Nat) : Int), vI ((lsM n k sz ce t s : Nat) : Int), vI (((s : Nat) : Int) + 1), vI (bi (bal n k sz ce s aT))]) dX8_audit_146 rfl (by decide) rfl ?_
                        refine WP.goto (tgt := 41) dX8_audit_149 (by decide) ?_
                        refine WP.fgt (lt := [vR 167, vI ((t : Nat) : Int), vI y, vI ((cn (fun set => popn 12 set = t ∧ ¬ bal n k sz ce set aT) (s + 1) : Nat) : Int), vI (((s : Nat) : Int)), vI ((gts n k sz ce t (s + 1) : Nat) : Int), vI ((lsM n k sz ce t (s + 1) : Nat) : Int), vI (((s + 1) : Nat) : Int), vU]) ⟨Or.inr rfl, Or.inr rfl, Or.inr rfl, Or.inr (congrArg vI (by rw [cn_t (p := (fun set => popn 12 set = t ∧ ¬ bal n k sz ce set aT)) ⟨hst, qb⟩]; omega)), Or.inr (congrArg vI (by omega)), Or.inr (congrArg vI (by rw [gts, cif_t hst]; exact congrArg (fun z : Nat => (z : Int)) (Nat.max_eq_left (show mxS n k sz ce s ≤ gts n k sz ce t s by omega)))), Or.inr (congrArg vI (by rw [lsM, cif_t hst]; exact congrArg (fun z : Nat => (z : Int)) (Nat.min_eq_left (show lsM n k sz ce t s ≤ mnS n k sz ce s by omega)))), Or.inr (congrArg vI (by omega)), Or.inl rfl, trivial⟩ ?_
                        exact ih41 (s + 1) (((s : Nat) : Int)) (M2) (by omega) (hF2) (hG2) (Or.inr ⟨s, by omega, rfl, ⟨hst, qb⟩, hfs.elim (fun z => z.2) (fun ⟨j, z1, z2, _⟩ => by omega)⟩) (by omega)
                      · skip
                        refine WP.aload_n dX8_audit_135 rfl ?_
                        refine WP.getI (x := ((mnS n k sz ce s : Nat) : Int)) dX8_audit_136 fl_X8_126 (rfl) (by decide) (e8) ?_
                        refine WP.goto (tgt := 144) dX8_audit_139 (by decide) ?_
                        refine WP.istore (lt := [vR 167, vI ((t : Nat) : Int), vI y, vI (((cn (fun set => popn 12 set = t ∧ ¬ bal n k sz ce set aT) s : Nat) : Int) + (1 : Int)), vI ((s : Nat) : Int), vI ((gts n k sz ce t s : Nat) : Int), vI ((mnS n k sz ce s : Nat) : Int), vI ((s : Nat) : Int), vI (bi (bal n k sz ce s aT))]) dX8_audit_144 (by decide) rfl ?_
                        refine WP.iinc (lt := [vR 167, vI ((t : Nat) : Int), vI y, vI (((cn (fun set => popn 12 set = t ∧ ¬ bal n k sz ce set aT) s : Nat) : Int) + (1 : Int)), vI ((s : Nat) : Int), vI ((gts n k sz ce t s : Nat) : Int), vI ((mnS n k sz ce s : Nat) : Int), vI (((s : Nat) : Int) + 1), vI (bi (bal n k sz ce s aT))]) dX8_audit_146 rfl (by decide) rfl ?_
                        refine WP.goto (tgt := 41) dX8_audit_149 (by decide) ?_
                        refine WP.fgt (lt := [vR 167, vI ((t : Nat) : Int), vI y, vI ((cn (fun set => popn 12 set = t ∧ ¬ bal n k sz ce set aT) (s + 1) : Nat) : Int), vI (((s : Nat) : Int)), vI ((gts n k sz ce t (s + 1) : Nat) : Int), vI ((lsM n k sz ce t (s + 1) : Nat) : Int), vI (((s + 1) : Nat) : Int), vU]) ⟨Or.inr rfl, Or.inr rfl, Or.inr rfl, Or.inr (congrArg vI (by rw [cn_t (p := (fun set => popn 12 set = t ∧ ¬ bal n k sz ce set aT)) ⟨hst, qb⟩]; omega)), Or.inr (congrArg vI (by omega)), Or.inr (congrArg vI (by rw [gts, cif_t hst]; exact congrArg (fun z : Nat => (z : Int)) (Nat.max_eq_left (show mxS n k sz ce s ≤ gts n k sz ce t s by omega)))), Or.inr (congrArg vI (by rw [lsM, cif_t hst]; exact congrArg (fun z : Nat => (z : Int)) (Nat.min_eq_right (show mnS n k sz ce s ≤ lsM n k sz ce t s by omega)))), Or.inr (congrArg vI (by omega)), Or.inl rfl, trivial⟩ ?_
                        exact ih41 (s + 1) (((s : Nat) : Int)) (M2) (by omega) (hF2) (hG2) (Or.inr ⟨s, by omega, rfl, ⟨hst, qb⟩, hfs.elim (fun z => z.2) (fun ⟨j, z1, z2, _⟩ => by omega)⟩) (by omega)
                    · skip
                      refine WP.aload_n dX8_audit_115 rfl ?_
                      refine WP.getI (x := ((mxS n k sz ce s : Nat) : Int)) dX8_audit_116 fl_X8_123 (rfl) (by decide) (e9') ?_
                      refine WP.goto (tgt := 124) dX8_audit_119 (by decide) ?_
                      refine WP.istore (lt := [vR 167, vI ((t : Nat) : Int), vI y, vI (((cn (fun set => popn 12 set = t ∧ ¬ bal n k sz ce set aT) s : Nat) : Int) + (1 : Int)), vI ((s : Nat) : Int), vI ((mxS n k sz ce s : Nat) : Int), vI ((lsM n k sz ce t s : Nat) : Int), vI ((s : Nat) : Int), vI (bi (bal n k sz ce s aT))]) dX8_audit_124 (by decide) rfl ?_
                      refine WP.aload_n dX8_audit_126 rfl ?_
                      refine WP.getI (x := ((mnS n k sz ce s : Nat) : Int)) dX8_audit_127 fl_X8_126 (rfl) (by decide) (e8) ?_
                      refine WP.iload dX8_audit_130 rfl ?_
                      refine WP.icmp_ge (tgt := 142) dX8_audit_132 (by decide) (by omega) (by omega) (fun h132 => ?_) (fun h132 => ?_)
                      · skip
                        refine WP.iload dX8_audit_142 rfl ?_
                        refine WP.istore (lt := [vR 167, vI ((t : Nat) : Int), vI y, vI (((cn (fun set => popn 12 set = t ∧ ¬ bal n k sz ce set aT) s : Nat) : Int) + (1 : Int)), vI ((s : Nat) : Int), vI ((mxS n k sz ce s : Nat) : Int), vI ((lsM n k sz ce t s : Nat) : Int), vI ((s : Nat) : Int), vI (bi (bal n k sz ce s aT))]) dX8_audit_144 (by decide) rfl ?_
                        refine WP.iinc (lt := [vR 167, vI ((t : Nat) : Int), vI y, vI (((cn (fun set => popn 12 set = t ∧ ¬ bal n k sz ce set aT) s : Nat) : Int) + (1 : Int)), vI ((s : Nat) : Int), vI ((mxS n k sz ce s : Nat) : Int), vI ((lsM n k sz ce t s : Nat) : Int), vI (((s : Nat) : Int) + 1), vI (bi (bal n k sz ce s aT))]) dX8_audit_146 rfl (by decide) rfl ?_
                        refine WP.goto (tgt := 41) dX8_audit_149 (by decide) ?_
                        refine WP.fgt (lt := [vR 167, vI ((t : Nat) : Int), vI y, vI ((cn (fun set => popn 12 set = t ∧ ¬ bal n k sz ce set aT) (s + 1) : Nat) : Int), vI (((s : Nat) : Int)), vI ((gts n k sz ce t (s + 1) : Nat) : Int), vI ((lsM n k sz ce t (s + 1) : Nat) : Int), vI (((s + 1) : Nat) : Int), vU]) ⟨Or.inr rfl, Or.inr rfl, Or.inr rfl, Or.inr (congrArg vI (by rw [cn_t (p := (fun set => popn 12 set = t ∧ ¬ bal n k sz ce set aT)) ⟨hst, qb⟩]; omega)), Or.inr (congrArg vI (by omega)), Or.inr (congrArg vI (by rw [gts, cif_t hst]; exact congrArg (fun z : Nat => (z : Int)) (Nat.max_eq_right (show gts n k sz ce t s ≤ mxS n k sz ce s by omega)))), Or.inr (congrArg vI (by rw [lsM, cif_t hst]; exact congrArg (fun z : Nat => (z : Int)) (Nat.min_eq_left (show lsM n k sz ce t s ≤ mnS n k sz ce s by omega)))), Or.inr (congrArg vI (by omega)), Or.inl rfl, trivial⟩ ?_
                        exact ih41 (s + 1) (((s : Nat) : Int)) (M2) (by omega) (hF2) (hG2) (Or.inr ⟨s, by omega, rfl, ⟨hst, qb⟩, hfs.elim (fun z => z.2) (fun ⟨j, z1, z2, _⟩ => by omega)⟩) (by omega)
                      · skip
                        refine WP.aload_n dX8_audit_135 rfl ?_
                        refine WP.getI (x := ((mnS n k sz ce s : Nat) : Int)) dX8_audit_136 fl_X8_126 (rfl) (by decide) (e8) ?_
                        refine WP.goto (tgt := 144) dX8_audit_139 (by decide) ?_
                        refine WP.istore (lt := [vR 167, vI ((t : Nat) : Int), vI y, vI (((cn (fun set => popn 12 set = t ∧ ¬ bal n k sz ce set aT) s : Nat) : Int) + (1 : Int)), vI ((s : Nat) : Int), vI ((mxS n k sz ce s : Nat) : Int), vI ((mnS n k sz ce s : Nat) : Int), vI ((s : Nat) : Int), vI (bi (bal n k sz ce s aT))]) dX8_audit_144 (by decide) rfl ?_
                        refine WP.iinc (lt := [vR 167, vI ((t : Nat) : Int), vI y, vI (((cn (fun set => popn 12 set = t ∧ ¬ bal n k sz ce set aT) s : Nat) : Int) + (1 : Int)), vI ((s : Nat) : Int), vI ((mxS n k sz ce s : Nat) : Int), vI ((mnS n k sz ce s : Nat) : Int), vI (((s : Nat) : Int) + 1), vI (bi (bal n k sz ce s aT))]) dX8_audit_146 rfl (by decide) rfl ?_
                        refine WP.goto (tgt := 41) dX8_audit_149 (by decide) ?_
                        refine WP.fgt (lt := [vR 167, vI ((t : Nat) : Int), vI y, vI ((cn (fun set => popn 12 set = t ∧ ¬ bal n k sz ce set aT) (s + 1) : Nat) : Int), vI (((s : Nat) : Int)), vI ((gts n k sz ce t (s + 1) : Nat) : Int), vI ((lsM n k sz ce t (s + 1) : Nat) : Int), vI (((s + 1) : Nat) : Int), vU]) ⟨Or.inr rfl, Or.inr rfl, Or.inr rfl, Or.inr (congrArg vI (by rw [cn_t (p := (fun set => popn 12 set = t ∧ ¬ bal n k sz ce set aT)) ⟨hst, qb⟩]; omega)), Or.inr (congrArg vI (by omega)), Or.inr (congrArg vI (by rw [gts, cif_t hst]; exact congrArg (fun z : Nat => (z : Int)) (Nat.max_eq_right (show gts n k sz ce t s ≤ mxS n k sz ce s by omega)))), Or.inr (congrArg vI (by rw [lsM, cif_t hst]; exact congrArg (fun z : Nat => (z : Int)) (Nat.min_eq_right (show mnS n k sz ce s ≤ lsM n k sz ce t s by omega)))), Or.inr (congrArg vI (by omega)), Or.inl rfl, trivial⟩ ?_
                        exact ih41 (s + 1) (((s : Nat) : Int)) (M2) (by omega) (hF2) (hG2) (Or.inr ⟨s, by omega, rfl, ⟨hst, qb⟩, hfs.elim (fun z => z.2) (fun ⟨j, z1, z2, _⟩ => by omega)⟩) (by omega)
              · skip
                have qb := bi_1 h75
                refine WP.iconst dX8_audit_78 ?_
                refine WP.goto (tgt := 83) dX8_audit_79 (by decide) ?_
                refine WP.iadd dX8_audit_83 ?_
                refine WP.istore_n (lt := [vR 167, vI ((t : Nat) : Int), vI y, vI (((cn (fun set => popn 12 set = t ∧ ¬ bal n k sz ce set aT) s : Nat) : Int) + (0 : Int)), vI fs, vI ((gts n k sz ce t s : Nat) : Int), vI ((lsM n k sz ce t s : Nat) : Int), vI ((s : Nat) : Int), vI (bi (bal n k sz ce s aT))]) dX8_audit_84 (by decide) rfl ?_
                refine WP.iload dX8_audit_85 rfl ?_
                refine WP.if_ne (tgt := 102) dX8_audit_87 (by decide) (bi_rng) (fun h87 => ?_) (fun h87 => ?_)
                · skip
                  refine WP.iload dX8_audit_102 rfl ?_
                  refine WP.istore (lt := [vR 167, vI ((t : Nat) : Int), vI y, vI (((cn (fun set => popn 12 set = t ∧ ¬ bal n k sz ce set aT) s : Nat) : Int) + (0 : Int)), vI fs, vI ((gts n k sz ce t s : Nat) : Int), vI ((lsM n k sz ce t s : Nat) : Int), vI ((s : Nat) : Int), vI (bi (bal n k sz ce s aT))]) dX8_audit_104 (by decide) rfl ?_
                  refine WP.aload_n dX8_audit_106 rfl ?_
                  refine WP.getI (x := ((mxS n k sz ce s : Nat) : Int)) dX8_audit_107 fl_X8_123 (rfl) (by decide) (e9') ?_
                  refine WP.iload dX8_audit_110 rfl ?_
                  refine WP.icmp_le (tgt := 122) dX8_audit_112 (by decide) (by omega) (by omega) (fun h112 => ?_) (fun h112 => ?_)
                  · skip
                    refine WP.iload dX8_audit_122 rfl ?_
                    refine WP.istore (lt := [vR 167, vI ((t : Nat) : Int), vI y, vI (((cn (fun set => popn 12 set = t ∧ ¬ bal n k sz ce set aT) s : Nat) : Int) + (0 : Int)), vI fs, vI ((gts n k sz ce t s : Nat) : Int), vI ((lsM n k sz ce t s : Nat) : Int), vI ((s : Nat) : Int), vI (bi (bal n k sz ce s aT))]) dX8_audit_124 (by decide) rfl ?_
                    refine WP.aload_n dX8_audit_126 rfl ?_
                    refine WP.getI (x := ((mnS n k sz ce s : Nat) : Int)) dX8_audit_127 fl_X8_126 (rfl) (by decide) (e8) ?_
                    refine WP.iload dX8_audit_130 rfl ?_
                    refine WP.icmp_ge (tgt := 142) dX8_audit_132 (by decide) (by omega) (by omega) (fun h132 => ?_) (fun h132 => ?_)
                    · skip
                      refine WP.iload dX8_audit_142 rfl ?_
                      refine WP.istore (lt := [vR 167, vI ((t : Nat) : Int), vI y, vI (((cn (fun set => popn 12 set = t ∧ ¬ bal n k sz ce set aT) s : Nat) : Int) + (0 : Int)), vI fs, vI ((gts n k sz ce t s : Nat) : Int), vI ((lsM n k sz ce t s : Nat) : Int), vI ((s : Nat) : Int), vI (bi (bal n k sz ce s aT))]) dX8_audit_144 (by decide) rfl ?_
                      refine WP.iinc (lt := [vR 167, vI ((t : Nat) : Int), vI y, vI (((cn (fun set => popn 12 set = t ∧ ¬ bal n k sz ce set aT) s : Nat) : Int) + (0 : Int)), vI fs, vI ((gts n k sz ce t s : Nat) : Int), vI ((lsM n k sz ce t s : Nat) : Int), vI (((s : Nat) : Int) + 1), vI (bi (bal n k sz ce s aT))]) dX8_audit_146 rfl (by decide) rfl ?_
                      refine WP.goto (tgt := 41) dX8_audit_149 (by decide) ?_
                      refine WP.fgt (lt := [vR 167, vI ((t : Nat) : Int), vI y, vI ((cn (fun set => popn 12 set = t ∧ ¬ bal n k sz ce set aT) (s + 1) : Nat) : Int), vI fs, vI ((gts n k sz ce t (s + 1) : Nat) : Int), vI ((lsM n k sz ce t (s + 1) : Nat) : Int), vI (((s + 1) : Nat) : Int), vU]) ⟨Or.inr rfl, Or.inr rfl, Or.inr rfl, Or.inr (congrArg vI (by rw [cn_f (p := (fun set => popn 12 set = t ∧ ¬ bal n k sz ce set aT)) (fun z => z.2 qb)]; omega)), Or.inr rfl, Or.inr (congrArg vI (by rw [gts, cif_t hst]; exact congrArg (fun z : Nat => (z : Int)) (Nat.max_eq_left (show mxS n k sz ce s ≤ gts n k sz ce t s by omega)))), Or.inr (congrArg vI (by rw [lsM, cif_t hst]; exact congrArg (fun z : Nat => (z : Int)) (Nat.min_eq_left (show lsM n k sz ce t s ≤ mnS n k sz ce s by omega)))), Or.inr (congrArg vI (by omega)), Or.inl rfl, trivial⟩ ?_
                      exact ih41 (s + 1) (fs) (M2) (by omega) (hF2) (hG2) (hfs.elim (fun z => Or.inl ⟨z.1, fun u hu => by
                        by_cases e9 : u = s
                        · rw [e9]; exact fun y => y.2 qb
                        · exact z.2 u (by omega)⟩) (fun ⟨j, z1, z2⟩ => Or.inr ⟨j, by omega, z2⟩)) (by omega)
                    · skip
                      refine WP.aload_n dX8_audit_135 rfl ?_
                      refine WP.getI (x := ((mnS n k sz ce s : Nat) : Int)) dX8_audit_136 fl_X8_126 (rfl) (by decide) (e8) ?_
                      refine WP.goto (tgt := 144) dX8_audit_139 (by decide) ?_
                      refine WP.istore (lt := [vR 167, vI ((t : Nat) : Int), vI y, vI (((cn (fun set => popn 12 set = t ∧ ¬ bal n k sz ce set aT) s : Nat) : Int) + (0 : Int)), vI fs, vI ((gts n k sz ce t s : Nat) : Int), vI ((mnS n k sz ce s : Nat) : Int), vI ((s : Nat) : Int), vI (bi (bal n k sz ce s aT))]) dX8_audit_144 (by decide) rfl ?_
                      refine WP.iinc (lt := [vR 167, vI ((t : Nat) : Int), vI y, vI (((cn (fun set => popn 12 set = t ∧ ¬ bal n k sz ce set aT) s : Nat) : Int) + (0 : Int)), vI fs, vI ((gts n k sz ce t s : Nat) : Int), vI ((mnS n k sz ce s : Nat) : Int), vI (((s : Nat) : Int) + 1), vI (bi (bal n k sz ce s aT))]) dX8_audit_146 rfl (by decide) rfl ?_
                      refine WP.goto (tgt := 41) dX8_audit_149 (by decide) ?_
                      refine WP.fgt (lt := [vR 167, vI ((t : Nat) : Int), vI y, vI ((cn (fun set => popn 12 set = t ∧ ¬ bal n k sz ce set aT) (s + 1) : Nat) : Int), vI fs, vI ((gts n k sz ce t (s + 1) : Nat) : Int), vI ((lsM n k sz ce t (s + 1) : Nat) : Int), vI (((s + 1) : Nat) : Int), vU]) ⟨Or.inr rfl, Or.inr rfl, Or.inr rfl, Or.inr (congrArg vI (by rw [cn_f (p := (fun set => popn 12 set = t ∧ ¬ bal n k sz ce set aT)) (fun z => z.2 qb)]; omega)), Or.inr rfl, Or.inr (congrArg vI (by rw [gts, cif_t hst]; exact congrArg (fun z : Nat => (z : Int)) (Nat.max_eq_left (show mxS n k sz ce s ≤ gts n k sz ce t s by omega)))), Or.inr (congrArg vI (by rw [lsM, cif_t hst]; exact congrArg (fun z : Nat => (z : Int)) (Nat.min_eq_right (show mnS n k sz ce s ≤ lsM n k sz ce t s by omega)))), Or.inr (congrArg vI (by omega)), Or.inl rfl, trivial⟩ ?_
                      exact ih41 (s + 1) (fs) (M2) (by omega) (hF2) (hG2) (hfs.elim (fun z => Or.inl ⟨z.1, fun u hu => by
                        by_cases e9 : u = s
                        · rw [e9]; exact fun y => y.2 qb
                        · exact z.2 u (by omega)⟩) (fun ⟨j, z1, z2⟩ => Or.inr ⟨j, by omega, z2⟩)) (by omega)
                  · skip
                    refine WP.aload_n dX8_audit_115 rfl ?_
                    refine WP.getI (x := ((mxS n k sz ce s : Nat) : Int)) dX8_audit_116 fl_X8_123 (rfl) (by decide) (e9') ?_
                    refine WP.goto (tgt := 124) dX8_audit_119 (by decide) ?_
                    refine WP.istore (lt := [vR 167, vI ((t : Nat) : Int), vI y, vI (((cn (fun set => popn 12 set = t ∧ ¬ bal n k sz ce set aT) s : Nat) : Int) + (0 : Int)), vI fs, vI ((mxS n k sz ce s : Nat) : Int), vI ((lsM n k sz ce t s : Nat) : Int), vI ((s : Nat) : Int), vI (bi (bal n k sz ce s aT))]) dX8_audit_124 (by decide) rfl ?_
                    refine WP.aload_n dX8_audit_126 rfl ?_
                    refine WP.getI (x := ((mnS n k sz ce s : Nat) : Int)) dX8_audit_127 fl_X8_126 (rfl) (by decide) (e8) ?_
                    refine WP.iload dX8_audit_130 rfl ?_
                    refine WP.icmp_ge (tgt := 142) dX8_audit_132 (by decide) (by omega) (by omega) (fun h132 => ?_) (fun h132 => ?_)
                    · skip
                      refine WP.iload dX8_audit_142 rfl ?_
                      refine WP.istore (lt := [vR 167, vI ((t : Nat) : Int), vI y, vI (((cn (fun set => popn 12 set = t ∧ ¬ bal n k sz ce set aT) s : Nat) : Int) + (0 : Int)), vI fs, vI ((mxS n k sz ce s : Nat) : Int), vI ((lsM n k sz ce t s : Nat) : Int), vI ((s : Nat) : Int), vI (bi (bal n k sz ce s aT))]) dX8_audit_144 (by decide) rfl ?_
                      refine WP.iinc (lt := [vR 167, vI ((t : Nat) : Int), vI y, vI (((cn (fun set => popn 12 set = t ∧ ¬ bal n k sz ce set aT) s : Nat) : Int) + (0 : Int)), vI fs, vI ((mxS n k sz ce s : Nat) : Int), vI ((lsM n k sz ce t s : Nat) : Int), vI (((s : Nat) : Int) + 1), vI (bi (bal n k sz ce s aT))]) dX8_audit_146 rfl (by decide) rfl ?_
                      refine WP.goto (tgt := 41) dX8_audit_149 (by decide) ?_
                      refine WP.fgt (lt := [vR 167, vI ((t : Nat) : Int), vI y, vI ((cn (fun set => popn 12 set = t ∧ ¬ bal n k sz ce set aT) (s + 1) : Nat) : Int), vI fs, vI ((gts n k sz ce t (s + 1) : Nat) : Int), vI ((lsM n k sz ce t (s + 1) : Nat) : Int), vI (((s + 1) : Nat) : Int), vU]) ⟨Or.inr rfl, Or.inr rfl, Or.inr rfl, Or.inr (congrArg vI (by rw [cn_f (p := (fun set => popn 12 set = t ∧ ¬ bal n k sz ce set aT)) (fun z => z.2 qb)]; omega)), Or.inr rfl, Or.inr (congrArg vI (by rw [gts, cif_t hst]; exact congrArg (fun z : Nat => (z : Int)) (Nat.max_eq_right (show gts n k sz ce t s ≤ mxS n k sz ce s by omega)))), Or.inr (congrArg vI (by rw [lsM, cif_t hst]; exact congrArg (fun z : Nat => (z : Int)) (Nat.min_eq_left (show lsM n k sz ce t s ≤ mnS n k sz ce s by omega)))), Or.inr (congrArg vI (by omega)), Or.inl rfl, trivial⟩ ?_
                      exact ih41 (s + 1) (fs) (M2) (by omega) (hF2) (hG2) (hfs.elim (fun z => Or.inl ⟨z.1, fun u hu => by
                        by_cases e9 : u = s
                        · rw [e9]; exact fun y => y.2 qb
                        · exact z.2 u (by omega)⟩) (fun ⟨j, z1, z2⟩ => Or.inr ⟨j, by omega, z2⟩)) (by omega)
                    · skip
                      refine WP.aload_n dX8_audit_135 rfl ?_
                      refine WP.getI (x := ((mnS n k sz ce s : Nat) : Int)) dX8_audit_136 fl_X8_126 (rfl) (by decide) (e8) ?_
                      refine WP.goto (tgt := 144) dX8_audit_139 (by decide) ?_
                      refine WP.istore (lt := [vR 167, vI ((t : Nat) : Int), vI y, vI (((cn (fun set => popn 12 set = t ∧ ¬ bal n k sz ce set aT) s : Nat) : Int) + (0 : Int)), vI fs, vI ((mxS n k sz ce s : Nat) : Int), vI ((mnS n k sz ce s : Nat) : Int), vI ((s : Nat) : Int), vI (bi (bal n k sz ce s aT))]) dX8_audit_144 (by decide) rfl ?_
                      refine WP.iinc (lt := [vR 167, vI ((t : Nat) : Int), vI y, vI (((cn (fun set => popn 12 set = t ∧ ¬ bal n k sz ce set aT) s : Nat) : Int) + (0 : Int)), vI fs, vI ((mxS n k sz ce s : Nat) : Int), vI ((mnS n k sz ce s : Nat) : Int), vI (((s : Nat) : Int) + 1), vI (bi (bal n k sz ce s aT))]) dX8_audit_146 rfl (by decide) rfl ?_
                      refine WP.goto (tgt := 41) dX8_audit_149 (by decide) ?_
                      refine WP.fgt (lt := [vR 167, vI ((t : Nat) : Int), vI y, vI ((cn (fun set => popn 12 set = t ∧ ¬ bal n k sz ce set aT) (s + 1) : Nat) : Int), vI fs, vI ((gts n k sz ce t (s + 1) : Nat) : Int), vI ((lsM n k sz ce t (s + 1) : Nat) : Int), vI (((s + 1) : Nat) : Int), vU]) ⟨Or.inr rfl, Or.inr rfl, Or.inr rfl, Or.inr (congrArg vI (by rw [cn_f (p := (fun set => popn 12 set = t ∧ ¬ bal n k sz ce set aT)) (fun z => z.2 qb)]; omega)), Or.inr rfl, Or.inr (congrArg vI (by rw [gts, cif_t hst]; exact congrArg (fun z : Nat => (z : Int)) (Nat.max_eq_right (show gts n k sz ce t s ≤ mxS n k sz ce s by omega)))), Or.inr (congrArg vI (by rw [lsM, cif_t hst]; exact congrArg (fun z : Nat => (z : Int)) (Nat.min_eq_right (show mnS n k sz ce s ≤ lsM n k sz ce t s by omega)))), Or.inr (congrArg vI (by omega)), Or.inl rfl, trivial⟩ ?_
                      exact ih41 (s + 1) (fs) (M2) (by omega) (hF2) (hG2) (hfs.elim (fun z => Or.inl ⟨z.1, fun u hu => by
                        by_cases e9 : u = s
                        · rw [e9]; exact fun y => y.2 qb
                        · exact z.2 u (by omega)⟩) (fun ⟨j, z1, z2⟩ => Or.inr ⟨j, by omega, z2⟩)) (by omega)
                · skip
                  exact absurd qb (bi_0 h87)
      refine WP.fgt (lt := [vR 167, vI ((t : Nat) : Int), vI y, vI ((cn (fun set => popn 12 set = t ∧ ¬ bal n k sz ce set aT) 0 : Nat) : Int), vI (-9), vI ((gts n k sz ce t 0 : Nat) : Int), vI ((lsM n k sz ce t 0 : Nat) : Int), vI ((0 : Nat) : Int), vU]) ⟨Or.inr rfl, Or.inr rfl, Or.inr rfl, Or.inr (congrArg vI (rfl)), Or.inr (congrArg vI (by omega)), Or.inr (congrArg vI (rfl)), Or.inr (congrArg vI (rfl)), Or.inr (congrArg vI (by omega)), Or.inl rfl, trivial⟩ ?_
      exact L41 _ (0) (-9) (M) (Nat.zero_le _) (fun _ _ => rfl) (fun _ _ _ => rfl) (Or.inl ⟨rfl, fun u hu => absurd hu (Nat.not_lt_zero u)⟩) (Nat.lt_succ_self _)
    · skip
      have q20 := bi_0 h20
      refine WP.iconst dX8_audit_23 ?_
      refine WP.iret dX8_audit_24 rfl ?_
      exact PM.same (congrArg (fun z => (z, _)) (cif_f (fun z => q20 (by have := z.2; omega)))) hV
set_option maxHeartbeats 4000000 in
set_option maxRecDepth 20000 in
theorem y_spare {M : Mem} {n k h len : Nat} {sz tx : Nat → Nat} {ce : Nat → Nat → Nat} {hs : Nat → AR} {im : Nat → Option AR} (hV : InvM M (mkS n k sz ce h hs im len tx)) {x : Int} (hx : -2147483648 ≤ x ∧ x < 2147483648) : CT 40 m_X8_spare [vR 167, vI x] M (PM M (o_spare (mkS n k sz ce h hs im len tx) x)) := by
  have hA : BX (M 168) n k sz ce := hV.1.1
  have hW : Wf n k sz ce := hV.1.2
  have hH : HM M h hs := hV.2.1
  have hIM : IMm M im := hV.2.2.1
  have hS : SM M len tx := hV.2.2.2
  have b1 := hW.1
  have b2 := hW.2.1
  have hh8 := hH.1
  have hl3 := hS.1
  have hp128 := pw7 b2
  have hs12 : 2 ^ 12 = 4096 := rfl
  refine CT.ofWP (by decide +kernel) (Nat.le_of_ble_eq_true rfl) ?_
  show WP sc0 40 m_X8_spare 0 [vR 167, vI x, vU, vU] [] M (PM M (o_spare (mkS n k sz ce h hs im len tx) x))
  refine WP.iload_n dX8_spare_0 rfl ?_
  refine WP.iconst dX8_spare_1 ?_
  refine WP.aload_n dX8_spare_2 rfl ?_
  refine WP.getR (y := 168) dX8_spare_3 fl_X8_7 (rfl) (by decide) (rfl) ?_
  refine WP.iconst dX8_spare_6 ?_
  refine WP.iaload (y := 1) (x := ((k : Nat) : Int)) dX8_spare_7 (rfl) (by omega) (by omega) (hA.2.1) ?_
  refine WP.callSp (as := [vI x, vI (1 : Int), vI ((k : Nat) : Int)]) dX8_spare_8 ms_X8_43 rfl (w_isIn (by omega) (by omega) (by omega)) rfl (Nat.le_of_ble_eq_true rfl) (by omega) ?_
  refine WP.if_ne (tgt := 16) dX8_spare_11 (by decide) (bi_rng) (fun h11 => ?_) (fun h11 => ?_)
  · skip
    have q11 := bi_1 h11
    obtain ⟨t, ht0⟩ : ∃ t : Nat, x.toNat = t := ⟨_, rfl⟩
    have ht1 : x = ((t : Nat) : Int) := by omega
    refine WP.fgt (lt := [vR 167, vI ((t : Nat) : Int), vU, vU]) ⟨Or.inr rfl, Or.inr (congrArg vI (ht1.symm)), Or.inl rfl, Or.inl rfl, trivial⟩ ?_
    refine WP.aload_n dX8_spare_16 rfl ?_
    refine WP.bipush dX8_spare_17 (by decide) ?_
    refine WP.callVp (as := [vI (12 : Int)]) dX8_spare_19 mv_X8_178 rfl (rfl) (by decide) rfl rfl (w_isSmall hA hW (by omega)) rfl (Nat.le_of_ble_eq_true rfl) (by omega) ?_
    refine WP.if_ne (tgt := 28) dX8_spare_22 (by decide) (bi_rng) (fun h22 => ?_) (fun h22 => ?_)
    · skip
      have q22 := bi_1 h22
      refine WP.aload_n dX8_spare_28 rfl ?_
      refine WP.iload_n dX8_spare_29 rfl ?_
      refine WP.iconst dX8_spare_30 ?_
      refine WP.eqs (st' := [vI ((0 : Nat) : Int), vI ((t : Nat) : Int), vR 167]) rfl (lc (congrArg vI (rfl)) (lc (rfl) (rfl))) ?_
      refine WP.callV (as := [vI ((t : Nat) : Int), vI ((0 : Nat) : Int)]) dX8_spare_31 mv_X8_144 rfl (rfl) (by decide) rfl rfl (w_unbalanced (t := t) (sp := 0) (P := aT) hA hW (by omega) (by decide) (fun q _ => ⟨fun _ => nmk0 q, fun _ => trivial⟩)) rfl (Nat.le_of_ble_eq_true rfl) (by omega) (fun r9 M1 h9 => ?_)
      obtain ⟨rfl, f1, g1⟩ := h9
      have hcl := cn_le (fun set => popn 12 set = t ∧ ¬ bal n k sz ce set aT) (2 ^ k)
      show WP sc0 40 m_X8_spare 34 [vR 167, vI ((t : Nat) : Int), vU, vU] [vI ((cn (fun set => popn 12 set = t ∧ ¬ bal n k sz ce set aT) (2 ^ k) : Nat) : Int)] M1 (PM M (o_spare (mkS n k sz ce h hs im len tx) x))
      refine WP.if_le (tgt := 40) dX8_spare_34 (by decide) (by omega) (fun h34 => ?_) (fun h34 => ?_)
      · skip
        have hok : okT n k sz ce t aT := bad_okT.mp (by omega)
        have hn12 : 1 ≤ n ∧ n ≤ 12 := by omega
        have hpn : 2 ^ n ≤ 2 ^ 12 := Nat.pow_le_pow_right (by decide) hn12.2
        have hpn2 : 2 ^ 1 ≤ 2 ^ n := Nat.pow_le_pow_right (by decide) hn12.1
        have hpn3 : 2 ^ 1 = 2 := rfl
        refine WP.iconst dX8_spare_40 ?_
        refine WP.istore_n (lt := [vR 167, vI ((t : Nat) : Int), vI (0 : Int), vU]) dX8_spare_41 (by decide) rfl ?_
        refine WP.iconst dX8_spare_42 ?_
        refine WP.istore_n (lt := [vR 167, vI ((t : Nat) : Int), vI (0 : Int), vI (1 : Int)]) dX8_spare_43 (by decide) rfl ?_
        have L44 : ∀ (n9 : Nat) (s : Nat) (M2 : Mem) (hsl : 1 ≤ s ∧ s ≤ 2 ^ n - 1) (hF2 : ∀ a, a ≠ 167 → M2 a = M a) (hG2 : ∀ j, j ≠ 8 → j ≠ 9 → M2 167 j = M 167 j), 2 ^ n - s < n9 → WP sc0 40 m_X8_spare 44 [vR 167, vI ((t : Nat) : Int), vI ((spb n k sz ce t s : Nat) : Int), vI ((s : Nat) : Int)] [] M2 (PM M (o_spare (mkS n k sz ce h hs im len tx) x)) := by
          intro n9
          induction n9 with
          | zero =>
            intro s M2 hsl hF2 hG2 hm9
            exact absurd hm9 (Nat.not_lt_zero _)
          | succ n9 ih44 =>
            intro s M2 hsl hF2 hG2 hm9
            have hA2 : BX (M2 168) n k sz ce := by rw [hF2 168 (by decide)]; exact hA
            have hsb := spb_le (n := n) (k := k) (t := t) (sz := sz) (ce := ce) s
            refine WP.iload_n dX8_spare_44 rfl ?_
            refine WP.iconst dX8_spare_45 ?_
            refine WP.aload_n dX8_spare_46 rfl ?_
            refine WP.getR (y := 168) dX8_spare_47 fl_X8_7 (rfl) (by decide) (rfl) ?_
            refine WP.iconst dX8_spare_50 ?_
            refine WP.iaload (y := 0) (x := ((n : Nat) : Int)) dX8_spare_51 (rfl) (by omega) (by omega) (hA2.1) ?_
            refine WP.ishl (z := ((2 ^ n : Nat) : Int)) dX8_spare_52 (shl_ok n (by omega)) ?_
            refine WP.iconst dX8_spare_53 ?_
            refine WP.isub dX8_spare_54 ?_
            refine WP.icmp_ge (tgt := 86) dX8_spare_55 (by decide) (by omega) (by omega) (fun h55 => ?_) (fun h55 => ?_)
            · skip
              refine WP.iload_n dX8_spare_86 rfl ?_
              refine WP.iret dX8_spare_87 rfl ?_
              exact PM.cs (by subst ht0; rw [show s = 2 ^ n - 1 by omega]; exact congrArg (fun z => (z, _)) ((cif_t (show 1 ≤ x ∧ x ≤ ((k : Nat) : Int) by omega)).trans ((if_neg (show ¬ (n = 0 ∨ 12 < n) by omega)).trans (cif_t hok)))) hV (fun a _ i => hF2 a i) (hG2)
            · skip
              refine WP.iload_n dX8_spare_58 rfl ?_
              refine WP.callSp (as := [vI ((s : Nat) : Int)]) dX8_spare_59 ms_X8_184 rfl (w_rowsIn (set := s) (by omega)) rfl (Nat.le_of_ble_eq_true rfl) (by omega) ?_
              have hp_59 : popn 12 (s) ≤ 12 := by rw [popn_cn]; exact cn_le _ 12
              refine WP.iload_n dX8_spare_62 rfl ?_
              refine WP.callSp (as := [vI ((spb n k sz ce t s : Nat) : Int)]) dX8_spare_63 ms_X8_184 rfl (w_rowsIn (set := spb n k sz ce t s) (by omega)) rfl (Nat.le_of_ble_eq_true rfl) (by omega) ?_
              have hp_63 : popn 12 (spb n k sz ce t s) ≤ 12 := by rw [popn_cn]; exact cn_le _ 12
              refine WP.icmp_le (tgt := 80) dX8_spare_66 (by decide) (by omega) (by omega) (fun h66 => ?_) (fun h66 => ?_)
              · skip
                have q80 : spb n k sz ce t (s + 1) = spb n k sz ce t s := by rw [spb]; exact cif_f (fun z => by have := z.2.1; omega)
                refine WP.iinc (lt := [vR 167, vI ((t : Nat) : Int), vI ((spb n k sz ce t s : Nat) : Int), vI (((s : Nat) : Int) + 1)]) dX8_spare_80 rfl (by decide) rfl ?_
                refine WP.goto (tgt := 44) dX8_spare_83 (by decide) ?_
                refine WP.fgt (lt := [vR 167, vI ((t : Nat) : Int), vI ((spb n k sz ce t (s + 1) : Nat) : Int), vI (((s + 1) : Nat) : Int)]) ⟨Or.inr rfl, Or.inr rfl, Or.inr (congrArg vI (by rw [q80])), Or.inr (congrArg vI (by omega)), trivial⟩ ?_
                exact ih44 (s + 1) (M2) (by omega) (hF2) (hG2) (by omega)
              · skip
                refine WP.aload_n dX8_spare_69 rfl ?_
                refine WP.iload_n dX8_spare_70 rfl ?_
                refine WP.iload_n dX8_spare_71 rfl ?_
                refine WP.callV (as := [vI ((t : Nat) : Int), vI ((s : Nat) : Int)]) dX8_spare_72 mv_X8_144 rfl (rfl) (by decide) rfl rfl (w_unbalanced (t := t) (sp := s) (P := fun r => ¬ mk s r) hA2 hW (by omega) (by omega) (fun q _ => Iff.rfl)) rfl (Nat.le_of_ble_eq_true rfl) (by omega) (fun r9 M3 h9 => ?_)
                obtain ⟨rfl, f3, g3⟩ := h9
                have hcl := cn_le (fun set => popn 12 set = t ∧ ¬ bal n k sz ce set (fun r => ¬ mk s r)) (2 ^ k)
                have hF3 : ∀ a, a ≠ 167 → M3 a = M a := fun a ha => (f3 a ha).trans (hF2 a ha)
                have hG3 : ∀ j, j ≠ 8 → j ≠ 9 → M3 167 j = M 167 j := fun j i1 i2 => (g3 j i1 i2).trans (hG2 j i1 i2)
                show WP sc0 40 m_X8_spare 75 [vR 167, vI ((t : Nat) : Int), vI ((spb n k sz ce t s : Nat) : Int), vI ((s : Nat) : Int)] [vI ((cn (fun set => popn 12 set = t ∧ ¬ bal n k sz ce set (fun r => ¬ mk s r)) (2 ^ k) : Nat) : Int)] M3 (PM M (o_spare (mkS n k sz ce h hs im len tx) x))
                refine WP.if_ne (tgt := 80) dX8_spare_75 (by decide) (by omega) (fun h75 => ?_) (fun h75 => ?_)
                · skip
                  have q80 : spb n k sz ce t (s + 1) = spb n k sz ce t s := by rw [spb]; exact cif_f (fun z => by have := bad_okT.mpr z.2.2; omega)
                  refine WP.iinc (lt := [vR 167, vI ((t : Nat) : Int), vI ((spb n k sz ce t s : Nat) : Int), vI (((s : Nat) : Int) + 1)]) dX8_spare_80 rfl (by decide) rfl ?_
                  refine WP.goto (tgt := 44) dX8_spare_83 (by decide) ?_
                  refine WP.fgt (lt := [vR 167, vI ((t : Nat) : Int), vI ((spb n k sz ce t (s + 1) : Nat) : Int), vI (((s + 1) : Nat) : Int)]) ⟨Or.inr rfl, Or.inr rfl, Or.inr (congrArg vI (by rw [q80])), Or.inr (congrArg vI (by omega)), trivial⟩ ?_
                  exact ih44 (s + 1) (M3) (by omega) (hF3) (hG3) (by omega)
                · skip
                  have q80 : spb n k sz ce t (s + 1) = s := by rw [spb]; exact cif_t ⟨by omega, by omega, bad_okT.mp (by omega)⟩
                  refine WP.iload_n dX8_spare_78 rfl ?_
                  refine WP.istore_n (lt := [vR 167, vI ((t : Nat) : Int), vI ((s : Nat) : Int), vI ((s : Nat) : Int)]) dX8_spare_79 (by decide) rfl ?_
                  refine WP.iinc (lt := [vR 167, vI ((t : Nat) : Int), vI ((s : Nat) : Int), vI (((s : Nat) : Int) + 1)]) dX8_spare_80 rfl (by decide) rfl ?_
                  refine WP.goto (tgt := 44) dX8_spare_83 (by decide) ?_
                  refine WP.fgt (lt := [vR 167, vI ((t : Nat) : Int), vI ((spb n k sz ce t (s + 1) : Nat) : Int), vI (((s + 1) : Nat) : Int)]) ⟨Or.inr rfl, Or.inr rfl, Or.inr (congrArg vI (by rw [q80])), Or.inr (congrArg vI (by omega)), trivial⟩ ?_
                  exact ih44 (s + 1) (M3) (by omega) (hF3) (hG3) (by omega)
        refine WP.fgt (lt := [vR 167, vI ((t : Nat) : Int), vI ((spb n k sz ce t 1 : Nat) : Int), vI ((1 : Nat) : Int)]) ⟨Or.inr rfl, Or.inr rfl, Or.inr (congrArg vI (by rw [spb_1]; rfl)), Or.inr (congrArg vI (by omega)), trivial⟩ ?_
        exact L44 _ (1) (M1) (by omega) (f1) (g1) (Nat.lt_succ_self _)
      · skip
        have hnok : ¬ okT n k sz ce t aT := fun z => by have := bad_okT.mpr z; omega
        refine WP.bipush dX8_spare_37 (by decide) ?_
        refine WP.iret dX8_spare_39 rfl ?_
        exact PM.cs (by subst ht0; exact congrArg (fun z => (z, _)) ((cif_t (show 1 ≤ x ∧ x ≤ ((k : Nat) : Int) by omega)).trans ((if_neg (show ¬ (n = 0 ∨ 12 < n) by omega)).trans (cif_f hnok)))) hV (fun a _ i => f1 a i) (g1)
    · skip
      have q22 := bi_0 h22
      refine WP.bipush dX8_spare_25 (by decide) ?_
      refine WP.iret dX8_spare_27 rfl ?_
      exact PM.same (congrArg (fun z => (z, _)) ((cif_t (show 1 ≤ x ∧ x ≤ ((k : Nat) : Int) by omega)).trans (if_pos (show n = 0 ∨ 12 < n by omega)))) hV
  · skip
    have q11 := bi_0 h11
    refine WP.iconst dX8_spare_14 ?_
    refine WP.iret dX8_spare_15 rfl ?_
    exact PM.same (congrArg (fun z => (z, _)) (cif_f q11)) hV
