/-! balance -/
noncomputable def tc (sz : Nat → Nat) (ce : Nat → Nat → Nat) (set k : Nat) (P : Nat → Prop) (v r : Nat) : Nat := cn (fun q => P q ∧ tpo sz (ce q) set k = v) r
theorem tc_t {sz : Nat → Nat} {ce : Nat → Nat → Nat} {set k v r : Nat} {P : Nat → Prop} (h : P r) (h2 : tpo sz (ce r) set k = v) : tc sz ce set k P v (r + 1) = tc sz ce set k P v r + 1 := cn_t ⟨h, h2⟩
theorem tc_f {sz : Nat → Nat} {ce : Nat → Nat → Nat} {set k v r : Nat} {P : Nat → Prop} (h : ¬ (P r ∧ tpo sz (ce r) set k = v)) : tc sz ce set k P v (r + 1) = tc sz ce set k P v r := cn_f h
theorem tc_le {sz : Nat → Nat} {ce : Nat → Nat → Nat} {set k v : Nat} {P : Nat → Prop} {r n : Nat} (h : r ≤ n) : tc sz ce set k P v r ≤ tc sz ce set k P v n := cn_mono _ h
theorem tc_n {sz : Nat → Nat} {ce : Nat → Nat → Nat} {set k v : Nat} {P : Nat → Prop} {r : Nat} : tc sz ce set k P v r ≤ r := cn_le _ r
noncomputable def bal (n k : Nat) (sz : Nat → Nat) (ce : Nat → Nat → Nat) (set : Nat) (P : Nat → Prop) : Prop := ∀ v, v < tps sz set k → tc sz ce set k P v n * tps sz set k = cn P n
theorem tc_sum {n k : Nat} {sz : Nat → Nat} {ce : Nat → Nat → Nat} (hW : Wf n k sz ce) (set : Nat) (P : Nat → Prop) : sm (fun v => tc sz ce set k P v n) (tps sz set k) = cn P n :=
  sm_cn (fun r => tpo sz (ce r) set k) P _ n (fun r hr _ => tpo_lt (fun c hc => hW.2.2.2 r hr c hc))
theorem tc_cg {n k : Nat} {sz : Nat → Nat} {ce : Nat → Nat → Nat} {set v : Nat} {P P' : Nat → Prop} (h : ∀ r, r < n → (P r ↔ P' r)) : tc sz ce set k P v n = tc sz ce set k P' v n := cn_cg (fun r hr => by rw [h r hr])
theorem bal_cg {n k : Nat} {sz : Nat → Nat} {ce : Nat → Nat → Nat} {set : Nat} {P P' : Nat → Prop} (h : ∀ r, r < n → (P r ↔ P' r)) : bal n k sz ce set P ↔ bal n k sz ce set P' := by
  unfold bal
  rw [cn_cg h]
  constructor
  · intro q v hv
    rw [← tc_cg h]; exact q v hv
  · intro q v hv
    rw [tc_cg h]; exact q v hv
/-- more tuples than rows: only the empty array is balanced -/
theorem bal_big {n k : Nat} {sz : Nat → Nat} {ce : Nat → Nat → Nat} {set : Nat} {P : Nat → Prop} (hW : Wf n k sz ce) (h : cn P n < tps sz set k) : bal n k sz ce set P ↔ cn P n = 0 := by
  have hs := tc_sum hW set P
  constructor
  · intro hb
    have h0 : ∀ v, v < tps sz set k → tc sz ce set k P v n = 0 := fun v hv => by
      have h1 := hb v hv
      rcases Nat.eq_zero_or_pos (tc sz ce set k P v n) with e | e
      · exact e
      · have : 1 * tps sz set k ≤ tc sz ce set k P v n * tps sz set k := Nat.mul_le_mul_right _ e
        omega
    rw [sm_cg (g := fun _ => 0) h0, sm_const, Nat.mul_zero] at hs
    exact hs.symm
  · intro h0 v hv
    have : tc sz ce set k P v n ≤ cn P n := cn_sub (fun r _ q => q.1)
    rw [h0] at this ⊢
    rw [show tc sz ce set k P v n = 0 by omega, Nat.zero_mul]
theorem bal_dvd {n k : Nat} {sz : Nat → Nat} {ce : Nat → Nat → Nat} {set : Nat} {P : Nat → Prop} (hp : 0 < tps sz set k) (h : bal n k sz ce set P) : cn P n % tps sz set k = 0 := by
  rw [← h 0 hp, Nat.mul_mod_left]
/-- balanced just if no tuple is above its share -/
theorem bal_share {n k s : Nat} {sz : Nat → Nat} {ce : Nat → Nat → Nat} {set : Nat} {P : Nat → Prop} (hW : Wf n k sz ce) (hp : 0 < tps sz set k) (hs : cn P n = tps sz set k * s) : bal n k sz ce set P ↔ ∀ v, v < tps sz set k → tc sz ce set k P v n ≤ s := by
  constructor
  · intro h v hv
    have h1 := h v hv
    rw [hs, Nat.mul_comm] at h1
    exact Nat.le_of_eq (Nat.eq_of_mul_eq_mul_left hp h1)
  · intro h v hv
    have h1 := sm_tight (f := fun v => tc sz ce set k P v n) (c := s) h (by rw [tc_sum hW set P, hs])
    rw [h1 v hv, hs, Nat.mul_comm]
theorem shl_ok : ∀ k : Nat, k < 31 → Int32.ofInt (1 : Int) <<< (Int32.ofInt (k : Int) &&& 31) = Int32.ofInt ((2 ^ k : Nat) : Int) := by decide +kernel
theorem pw7 {k : Nat} (h : k ≤ 7) : 2 ^ k ≤ 128 := Nat.pow_le_pow_right (n := 2) (by decide) h
/-- the first index -/
noncomputable def fi (p : Nat → Prop) : Nat → Nat → Int
  | 0, _ => -9
  | f + 1, i => cif (p i) (i : Int) (fi p f (i + 1))
theorem fi_t {p : Nat → Prop} {f i : Nat} (h : p i) : fi p (f + 1) i = i := by rw [fi, cif_t h]
theorem fi_f {p : Nat → Prop} {f i : Nat} (h : ¬ p i) : fi p (f + 1) i = fi p f (i + 1) := by rw [fi, cif_f h]
theorem fi_rng (p : Nat → Prop) : ∀ f i, fi p f i = -9 ∨ ∃ j : Nat, fi p f i = j ∧ i ≤ j ∧ j < i + f ∧ p j
  | 0, i => Or.inl rfl
  | f + 1, i => by
    by_cases e : p i
    · rw [fi_t e]; exact Or.inr ⟨i, rfl, Nat.le_refl _, by omega, e⟩
    · rw [fi_f e]
      rcases fi_rng p f (i + 1) with h | ⟨j, h1, h2, h3, h4⟩
      · exact Or.inl h
      · exact Or.inr ⟨j, h1, by omega, by omega, h4⟩
theorem fi_9 {p : Nat → Prop} : ∀ {f i : Nat}, fi p f i = -9 ↔ ∀ j, i ≤ j → j < i + f → ¬ p j
  | 0, i => ⟨fun _ j h1 h2 => by omega, fun _ => rfl⟩
  | f + 1, i => by
    by_cases e : p i
    · rw [fi_t e]
      exact ⟨fun h => by omega, fun h => absurd e (h i (Nat.le_refl _) (by omega))⟩
    · rw [fi_f e, fi_9 (f := f) (i := i + 1)]
      constructor
      · intro h j h1 h2
        by_cases e2 : j = i
        · rw [e2]; exact e
        · exact h j (by omega) (by omega)
      · intro h j h1 h2
        exact h j (by omega) (by omega)
noncomputable def fub (n k : Nat) (sz : Nat → Nat) (ce : Nat → Nat → Nat) (t : Nat) (P : Nat → Prop) : Int := fi (fun set => popn 12 set = t ∧ ¬ bal n k sz ce set P) (2 ^ k) 0
/-- balanced in each set of t columns -/
def okT (n k : Nat) (sz : Nat → Nat) (ce : Nat → Nat → Nat) (t : Nat) (P : Nat → Prop) : Prop := ∀ set, set < 2 ^ k → popn 12 set = t → bal n k sz ce set P
theorem fub_9 {n k : Nat} {sz : Nat → Nat} {ce : Nat → Nat → Nat} {t : Nat} {P : Nat → Prop} : fub n k sz ce t P = -9 ↔ okT n k sz ce t P := by
  unfold fub okT
  rw [fi_9]
  constructor
  · intro h set h1 h2
    exact Classical.byContradiction (fun q => h set (Nat.zero_le _) (by omega) ⟨h2, q⟩)
  · intro h j _ h2 q
    exact q.2 (h j (by omega) q.1)
theorem fub_rng {n k : Nat} {sz : Nat → Nat} {ce : Nat → Nat → Nat} {t : Nat} {P : Nat → Prop} (hk : k ≤ 7) : -9 ≤ fub n k sz ce t P ∧ fub n k sz ce t P < 128 := by
  have := pw7 hk
  unfold fub
  rcases fi_rng (fun set => popn 12 set = t ∧ ¬ bal n k sz ce set P) (2 ^ k) 0 with h | ⟨j, h, _, h3, _⟩ <;> rw [h] <;> omega
set_option maxHeartbeats 4000000 in
set_option maxRecDepth 20000 in
theorem c_C_clear {M : Mem} {b : Nat} (hb : b ≤ 36) : CT 1 m_X0_clearTallies [vR 49, vI ((b : Nat) : Int)] M (fun z M' => z = none ∧ (∀ a, a ≠ 50 → M' a = M a) ∧ ∀ j, j < b → M' 50 j = 0) := by
  refine CT.ofWP (by decide +kernel) (Nat.le_of_ble_eq_true rfl) ?_
  show WP sc0 1 m_X0_clearTallies 0 [vR 49, vI ((b : Nat) : Int), vU] [] M (fun z M' => z = none ∧ (∀ a, a ≠ 50 → M' a = M a) ∧ ∀ j, j < b → M' 50 j = 0)
  refine WP.iconst dX0_clearTallies_0 ?_
  refine WP.istore_n (lt := [vR 49, vI ((b : Nat) : Int), vI (0 : Int)]) dX0_clearTallies_1 (by decide) rfl ?_
  have L2 : ∀ (n9 : Nat) (i : Nat) (M1 : Mem) (hi : i ≤ b) (hF : ∀ a, a ≠ 50 → M1 a = M a) (hZ : ∀ j, j < i → M1 50 j = 0), b - i < n9 → WP sc0 1 m_X0_clearTallies 2 [vR 49, vI ((b : Nat) : Int), vI ((i : Nat) : Int)] [] M1 (fun z M' => z = none ∧ (∀ a, a ≠ 50 → M' a = M a) ∧ ∀ j, j < b → M' 50 j = 0) := by
    intro n9
    induction n9 with
    | zero =>
      intro i M1 hi hF hZ hm9
      exact absurd hm9 (Nat.not_lt_zero _)
    | succ n9 ih2 =>
      intro i M1 hi hF hZ hm9
      refine WP.iload_n dX0_clearTallies_2 rfl ?_
      refine WP.iload_n dX0_clearTallies_3 rfl ?_
      refine WP.icmp_ge (tgt := 20) dX0_clearTallies_4 (by decide) (by omega) (by omega) (fun h4 => ?_) (fun h4 => ?_)
      · skip
        refine WP.vret dX0_clearTallies_20 rfl ?_
        exact ⟨rfl, hF, fun j hj => hZ j (by omega)⟩
      · skip
        refine WP.aload_n dX0_clearTallies_7 rfl ?_
        refine WP.getR (y := 50) dX0_clearTallies_8 fl_X0_9 (rfl) (by decide) (rfl) ?_
        refine WP.iload_n dX0_clearTallies_11 rfl ?_
        refine WP.iconst dX0_clearTallies_12 ?_
        refine WP.iastore (y := i) dX0_clearTallies_13 (rfl) (by omega) (by omega) rfl ?_
        obtain ⟨M2, hM2⟩ : ∃ z, z = mset M1 50 i (0 : Int) := ⟨_, rfl⟩
        refine WP.eqM hM2.symm ?_
        refine WP.iinc (lt := [vR 49, vI ((b : Nat) : Int), vI (((i : Nat) : Int) + 1)]) dX0_clearTallies_14 rfl (by decide) rfl ?_
        refine WP.goto (tgt := 2) dX0_clearTallies_17 (by decide) ?_
        refine WP.fgt (lt := [vR 49, vI ((b : Nat) : Int), vI (((i + 1) : Nat) : Int)]) ⟨Or.inr rfl, Or.inr rfl, Or.inr (congrArg vI (by omega)), trivial⟩ ?_
        exact ih2 (i + 1) (M2) (by omega) (fun a ha => by rw [hM2, mset_o a ha]; exact hF a ha) (fun j hj => by
          rw [hM2]
          by_cases e : j = i
          · rw [e]; exact mset_s
          · rw [mset_n (Or.inr e)]; exact hZ j (by omega)) (by omega)
  refine WP.fgt (lt := [vR 49, vI ((b : Nat) : Int), vI ((0 : Nat) : Int)]) ⟨Or.inr rfl, Or.inr rfl, Or.inr (congrArg vI (by omega)), trivial⟩ ?_
  exact L2 _ (0) (M) (by omega) (fun _ _ => rfl) (fun j hj => absurd hj (Nat.not_lt_zero j)) (Nat.lt_succ_self _)
set_option maxHeartbeats 4000000 in
set_option maxRecDepth 20000 in
theorem c_C_isBalanced {M : Mem} {t n k : Nat} {sz : Nat → Nat} {ce : Nat → Nat → Nat} {set m : Nat} (ht : isT t) (hT : TX M t n k sz ce) (hW : Wf n k sz ce) (hs : set < 2 ^ k) (hm : m < 2 ^ 36) (hb : lq (Int64.ofNat m) = ((cn (mk m) n : Nat) : Int)) : CT 3 m_X0_isBalanced [vR 49, vR t, vI ((set : Nat) : Int), vL (Int64.ofNat m)] M (fun z M' => z = some (vI (bi (bal n k sz ce set (mk m)))) ∧ ∀ a, a ≠ 50 → M' a = M a) := by
  have b1 := hW.1
  have b2 := hW.2.1
  have ht2 := ht.2
  have hp128 := pw7 b2
  obtain ⟨T, hTe⟩ : ∃ T, tps sz set k = T := ⟨_, rfl⟩
  have hTp2 : 0 < tps sz set k := tps_pos (fun c hc => (hW.2.2.1 c hc).1)
  have hTp : 0 < T := hTe ▸ hTp2
  have hTb : tps sz set k ≤ 279936 := tps_b b2 (fun c hc => (hW.2.2.1 c hc).2)
  have hCn := cn_le (mk m) n
  have c_T_tuples : CT 1 m_X6_tuples [vR t, vI ((set : Nat) : Int)] M (Rt (some (vI (T : Nat))) M) := hTe ▸ c_T_tuples ht hT hW (by omega)
  refine CT.ofWP (by decide +kernel) (Nat.le_of_ble_eq_true rfl) ?_
  show WP sc0 3 m_X0_isBalanced 0 [vR 49, vR t, vI ((set : Nat) : Int), vL (Int64.ofNat m), vU, vU, vU, vU, vU, vU] [] M (fun z M' => z = some (vI (bi (bal n k sz ce set (mk m)))) ∧ ∀ a, a ≠ 50 → M' a = M a)
  refine WP.lload_n dX0_isBalanced_0 rfl ?_
  refine WP.callSp (as := [vL (Int64.ofNat m)]) dX0_isBalanced_1 ms_X0_18 rfl (c_bitCountL hb) rfl (Nat.le_of_ble_eq_true rfl) (by omega) ?_
  refine WP.istore (lt := [vR 49, vR t, vI ((set : Nat) : Int), vL (Int64.ofNat m), vU, vI ((cn (mk m) n : Nat) : Int), vU, vU, vU, vU]) dX0_isBalanced_4 (by decide) rfl ?_
  refine WP.aload_n dX0_isBalanced_6 rfl ?_
  refine WP.iload_n dX0_isBalanced_7 rfl ?_
  refine WP.callVp (as := [vI ((set : Nat) : Int)]) dX0_isBalanced_8 mv_X0_24 rfl (shT0 ht) (by decide) rfl rfl (c_T_tuples) rfl (Nat.le_of_ble_eq_true rfl) (by omega) ?_
  refine WP.istore (lt := [vR 49, vR t, vI ((set : Nat) : Int), vL (Int64.ofNat m), vU, vI ((cn (mk m) n : Nat) : Int), vI ((T : Nat) : Int), vU, vU, vU]) dX0_isBalanced_11 (by decide) rfl ?_
  refine WP.iload dX0_isBalanced_13 rfl ?_
  refine WP.iload dX0_isBalanced_15 rfl ?_
  refine WP.icmp_le (tgt := 31) dX0_isBalanced_17 (by decide) (by omega) (by omega) (fun h17 => ?_) (fun h17 => ?_)
  · skip
    have hlt := Nat.mod_lt (cn (mk m) n) hTp
    refine WP.iload dX0_isBalanced_31 rfl ?_
    refine WP.iload dX0_isBalanced_33 rfl ?_
    refine WP.irem dX0_isBalanced_35 (by omega) (by omega) ?_
    refine WP.eqs (st' := [vI ((cn (mk m) n % T : Nat) : Int)]) rfl (lc (congrArg vI (by rw [Int.natCast_emod])) rfl) ?_
    refine WP.if_eq (tgt := 41) dX0_isBalanced_36 (by decide) (by omega) (fun h36 => ?_) (fun h36 => ?_)
    · skip
      obtain ⟨s, hs⟩ : ∃ z, cn (mk m) n / T = z := ⟨_, rfl⟩
      have hCs : cn (mk m) n = tps sz set k * s := by rw [hTe, ← hs]; exact (Nat.mul_div_cancel' (Nat.dvd_of_mod_eq_zero (by omega))).symm
      have hsl : s ≤ cn (mk m) n := hs ▸ Nat.div_le_self _ _
      refine WP.iload dX0_isBalanced_41 rfl ?_
      refine WP.iload dX0_isBalanced_43 rfl ?_
      refine WP.idiv dX0_isBalanced_45 (by omega) (by omega) ?_
      refine WP.eqs (st' := [vI ((s : Nat) : Int)]) rfl (lc (congrArg vI (by rw [← Int.natCast_ediv, hs])) rfl) ?_
      refine WP.istore (lt := [vR 49, vR t, vI ((set : Nat) : Int), vL (Int64.ofNat m), vU, vI ((cn (mk m) n : Nat) : Int), vI ((T : Nat) : Int), vI ((s : Nat) : Int), vU, vU]) dX0_isBalanced_46 (by decide) rfl ?_
      refine WP.aload_n dX0_isBalanced_48 rfl ?_
      refine WP.iload dX0_isBalanced_49 rfl ?_
      refine WP.callV (as := [vI ((T : Nat) : Int)]) dX0_isBalanced_51 mv_X0_30 rfl (rfl) (by decide) rfl rfl (c_C_clear (by omega)) rfl (Nat.le_of_ble_eq_true rfl) (by omega) (fun r9 M0 h9 => ?_)
      obtain ⟨rfl, f1, f2⟩ := h9
      show WP sc0 3 m_X0_isBalanced 54 [vR 49, vR t, vI ((set : Nat) : Int), vL (Int64.ofNat m), vU, vI ((cn (mk m) n : Nat) : Int), vI ((T : Nat) : Int), vI ((s : Nat) : Int), vU, vU] [] M0 (fun z M' => z = some (vI (bi (bal n k sz ce set (mk m)))) ∧ ∀ a, a ≠ 50 → M' a = M a)
      refine WP.iconst dX0_isBalanced_54 ?_
      refine WP.istore (lt := [vR 49, vR t, vI ((set : Nat) : Int), vL (Int64.ofNat m), vU, vI ((cn (mk m) n : Nat) : Int), vI ((T : Nat) : Int), vI ((s : Nat) : Int), vI (0 : Int), vU]) dX0_isBalanced_55 (by decide) rfl ?_
      have L57 : ∀ (n9 : Nat) (r : Nat) (M1 : Mem) (hr : r ≤ n) (hF : ∀ a, a ≠ 50 → M1 a = M a) (hC : ∀ v, v < T → M1 50 v = (tc sz ce set k (mk m) v r : Int)) (hS : ∀ v, v < T → tc sz ce set k (mk m) v r ≤ s), n - r < n9 → WP sc0 3 m_X0_isBalanced 57 [vR 49, vR t, vI ((set : Nat) : Int), vL (Int64.ofNat m), vU, vI ((cn (mk m) n : Nat) : Int), vI ((T : Nat) : Int), vI ((s : Nat) : Int), vI ((r : Nat) : Int), vU] [] M1 (fun z M' => z = some (vI (bi (bal n k sz ce set (mk m)))) ∧ ∀ a, a ≠ 50 → M' a = M a) := by
        intro n9
        induction n9 with
        | zero =>
          intro r M1 hr hF hC hS hm9
          exact absurd hm9 (Nat.not_lt_zero _)
        | succ n9 ih57 =>
          intro r M1 hr hF hC hS hm9
          have hT1 : TX M1 t n k sz ce := hT.fr (hF t (by omega)) (hF (t + 1) (by omega)) (hF (t + 2) (by omega))
          refine WP.iload dX0_isBalanced_57 rfl ?_
          refine WP.aload_n dX0_isBalanced_59 rfl ?_
          refine WP.getI (x := ((n : Nat) : Int)) dX0_isBalanced_60 fl_X0_34 (shT0 ht) (by decide) (hT1.1) ?_
          refine WP.icmp_ge (tgt := 117) dX0_isBalanced_63 (by decide) (by omega) (by omega) (fun h63 => ?_) (fun h63 => ?_)
          · skip
            refine WP.iconst dX0_isBalanced_117 ?_
            refine WP.zret dX0_isBalanced_118 rfl (by decide) ?_
            refine ⟨congrArg some (congrArg vI (bi_t ?_).symm), hF⟩
            refine (bal_share hW hTp2 hCs).mpr (fun v hv => ?_)
            have h1 := hS v (by omega)
            rw [show r = n by omega] at h1
            exact h1
          · skip
            refine WP.lload_n dX0_isBalanced_66 rfl ?_
            refine WP.iload dX0_isBalanced_67 rfl ?_
            refine WP.lshr (z := (Int64.ofNat (m / 2 ^ r))) dX0_isBalanced_69 (l_bit (by omega) (by omega)) ?_
            refine WP.lconst (v := 1) dX0_isBalanced_70 (by decide) ?_
            refine WP.land dX0_isBalanced_71 ?_
            refine WP.eqs (st' := [vL (Int64.ofNat (m / 2 ^ r % 2))]) rfl (lc (congrArg vL (l_and1 (Nat.lt_of_le_of_lt (Nat.div_le_self _ _) (by omega)))) rfl) ?_
            refine WP.lconst (v := 1) dX0_isBalanced_72 (by decide) ?_
            refine WP.lcmp dX0_isBalanced_73 ?_
            refine WP.eqs (st' := [vI (if m / 2 ^ r % 2 = 1 then (0 : Int) else -1)]) rfl (lc (congrArg vI (lc_b _ (Nat.mod_lt _ (by decide)))) rfl) ?_
            refine WP.if_ne (tgt := 111) dX0_isBalanced_74 (by decide) (by split <;> omega) (fun h74 => ?_) (fun h74 => ?_)
            · skip
              have hmk : ¬ mk m r := fun z => h74 (if_pos z)
              refine WP.iinc (lt := [vR 49, vR t, vI ((set : Nat) : Int), vL (Int64.ofNat m), vU, vI ((cn (mk m) n : Nat) : Int), vI ((T : Nat) : Int), vI ((s : Nat) : Int), vI (((r : Nat) : Int) + 1), vU]) dX0_isBalanced_111 rfl (by decide) rfl ?_
              refine WP.goto (tgt := 57) dX0_isBalanced_114 (by decide) ?_
              refine WP.fgt (lt := [vR 49, vR t, vI ((set : Nat) : Int), vL (Int64.ofNat m), vU, vI ((cn (mk m) n : Nat) : Int), vI ((T : Nat) : Int), vI ((s : Nat) : Int), vI (((r + 1) : Nat) : Int), vU]) ⟨Or.inr rfl, Or.inr rfl, Or.inr rfl, Or.inr rfl, Or.inl rfl, Or.inr rfl, Or.inr rfl, Or.inr rfl, Or.inr (congrArg vI (by omega)), Or.inl rfl, trivial⟩ ?_
              exact ih57 (r + 1) (M1) (by omega) (hF) (fun v hv => by rw [tc_f (fun z => hmk z.1)]; exact hC v hv) (fun v hv => by rw [tc_f (fun z => hmk z.1)]; exact hS v hv) (by omega)
            · skip
              have hmk : mk m r := Classical.byContradiction fun z => by rw [if_neg (show ¬ (m / 2 ^ r % 2 = 1) from z)] at h74; omega
              have htl : tpo sz (ce r) set k < T := by rw [← hTe]; exact tpo_lt (fun c hc => hW.2.2.2 r (by omega) c hc)
              refine WP.aload_n dX0_isBalanced_77 rfl ?_
              refine WP.iload dX0_isBalanced_78 rfl ?_
              refine WP.iload_n dX0_isBalanced_80 rfl ?_
              refine WP.callVp (as := [vI ((r : Nat) : Int), vI ((set : Nat) : Int)]) dX0_isBalanced_81 mv_X0_38 rfl (shT0 ht) (by decide) rfl rfl (c_T_tupleOf (r := r) (set := set) ht hT1 hW (by omega) (by omega)) rfl (Nat.le_of_ble_eq_true rfl) (by omega) ?_
              refine WP.istore (lt := [vR 49, vR t, vI ((set : Nat) : Int), vL (Int64.ofNat m), vU, vI ((cn (mk m) n : Nat) : Int), vI ((T : Nat) : Int), vI ((s : Nat) : Int), vI ((r : Nat) : Int), vI ((tpo sz (ce r) set k : Nat) : Int)]) dX0_isBalanced_84 (by decide) rfl ?_
              refine WP.aload_n dX0_isBalanced_86 rfl ?_
              refine WP.getR (y := 50) dX0_isBalanced_87 fl_X0_9 (rfl) (by decide) (rfl) ?_
              refine WP.iload dX0_isBalanced_90 rfl ?_
              refine WP.dup2 dX0_isBalanced_92 rfl rfl ?_
              refine WP.iaload (y := (tpo sz (ce r) set k)) (x := ((tc sz ce set k (mk m) (tpo sz (ce r) set k) r : Nat) : Int)) dX0_isBalanced_93 (rfl) (by omega) (by omega) (hC _ htl) ?_
              refine WP.iconst dX0_isBalanced_94 ?_
              refine WP.iadd dX0_isBalanced_95 ?_
              refine WP.iastore (y := (tpo sz (ce r) set k)) dX0_isBalanced_96 (rfl) (by omega) (by omega) rfl ?_
              obtain ⟨M2, hM2⟩ : ∃ z, z = mset M1 50 (tpo sz (ce r) set k) (((tc sz ce set k (mk m) (tpo sz (ce r) set k) r : Nat) : Int) + 1) := ⟨_, rfl⟩
              refine WP.eqM hM2.symm ?_
              have g1 : ∀ a, a ≠ 50 → M2 a = M a := fun a ha => by rw [hM2, mset_o a ha]; exact hF a ha
              have g2 : ∀ v, v < T → M2 50 v = (tc sz ce set k (mk m) v (r + 1) : Int) := fun v hv => by
                rw [hM2]
                by_cases e : v = tpo sz (ce r) set k
                · rw [e, mset_s, tc_t hmk rfl]; omega
                · rw [mset_n (Or.inr e), tc_f (fun z => e z.2.symm)]; exact hC v hv
              have htn := tc_n (sz := sz) (ce := ce) (set := set) (k := k) (P := mk m) (v := tpo sz (ce r) set k) (r := r)
              have htt := tc_t (sz := sz) (ce := ce) (set := set) (k := k) (P := mk m) (r := r) (v := tpo sz (ce r) set k) hmk rfl
              refine WP.aload_n dX0_isBalanced_97 rfl ?_
              refine WP.getR (y := 50) dX0_isBalanced_98 fl_X0_9 (rfl) (by decide) (rfl) ?_
              refine WP.iload dX0_isBalanced_101 rfl ?_
              refine WP.iaload (y := (tpo sz (ce r) set k)) (x := ((tc sz ce set k (mk m) (tpo sz (ce r) set k) (r + 1) : Nat) : Int)) dX0_isBalanced_103 (rfl) (by omega) (by omega) (g2 _ htl) ?_
              refine WP.iload dX0_isBalanced_104 rfl ?_
              refine WP.icmp_le (tgt := 111) dX0_isBalanced_106 (by decide) (by omega) (by omega) (fun h106 => ?_) (fun h106 => ?_)
              · skip
                refine WP.iinc (lt := [vR 49, vR t, vI ((set : Nat) : Int), vL (Int64.ofNat m), vU, vI ((cn (mk m) n : Nat) : Int), vI ((T : Nat) : Int), vI ((s : Nat) : Int), vI (((r : Nat) : Int) + 1), vI ((tpo sz (ce r) set k : Nat) : Int)]) dX0_isBalanced_111 rfl (by decide) rfl ?_
                refine WP.goto (tgt := 57) dX0_isBalanced_114 (by decide) ?_
                refine WP.fgt (lt := [vR 49, vR t, vI ((set : Nat) : Int), vL (Int64.ofNat m), vU, vI ((cn (mk m) n : Nat) : Int), vI ((T : Nat) : Int), vI ((s : Nat) : Int), vI (((r + 1) : Nat) : Int), vU]) ⟨Or.inr rfl, Or.inr rfl, Or.inr rfl, Or.inr rfl, Or.inl rfl, Or.inr rfl, Or.inr rfl, Or.inr rfl, Or.inr (congrArg vI (by omega)), Or.inl rfl, trivial⟩ ?_
                exact ih57 (r + 1) (M2) (by omega) (g1) (g2) (fun v hv => by
                  by_cases e : v = tpo sz (ce r) set k
                  · rw [e, tc_t hmk rfl]; omega
                  · rw [tc_f (fun z => e z.2.symm)]; exact hS v hv) (by omega)
              · skip
                refine WP.iconst dX0_isBalanced_109 ?_
                refine WP.zret dX0_isBalanced_110 rfl (by decide) ?_
                refine ⟨congrArg some (congrArg vI (bi_f (fun z => ?_)).symm), g1⟩
                have h1 := (bal_share hW hTp2 hCs).mp z (tpo sz (ce r) set k) (by omega)
                have h2 := tc_le (sz := sz) (ce := ce) (set := set) (k := k) (P := mk m) (v := tpo sz (ce r) set k) (r := r + 1) (n := n) (by omega)
                omega
      refine WP.fgt (lt := [vR 49, vR t, vI ((set : Nat) : Int), vL (Int64.ofNat m), vU, vI ((cn (mk m) n : Nat) : Int), vI ((T : Nat) : Int), vI ((s : Nat) : Int), vI ((0 : Nat) : Int), vU]) ⟨Or.inr rfl, Or.inr rfl, Or.inr rfl, Or.inr rfl, Or.inl rfl, Or.inr rfl, Or.inr rfl, Or.inr rfl, Or.inr (congrArg vI (by omega)), Or.inl rfl, trivial⟩ ?_
      exact L57 _ (0) (M0) (by omega) (f1) (fun v hv => f2 v hv) (fun v hv => Nat.zero_le _) (Nat.lt_succ_self _)
    · skip
      refine WP.iconst dX0_isBalanced_39 ?_
      refine WP.zret dX0_isBalanced_40 rfl (by decide) ?_
      exact ⟨congrArg some (congrArg vI (bi_f (fun z => by have := bal_dvd hTp2 z; rw [hTe] at this; omega)).symm), fun _ _ => rfl⟩
  · skip
    have hbig := bal_big (set := set) (P := mk m) hW (by omega)
    refine WP.iload dX0_isBalanced_20 rfl ?_
    refine WP.if_ne (tgt := 29) dX0_isBalanced_22 (by decide) (by omega) (fun h22 => ?_) (fun h22 => ?_)
    · skip
      refine WP.iconst dX0_isBalanced_29 ?_
      refine WP.zret dX0_isBalanced_30 rfl (by decide) ?_
      exact ⟨congrArg some (congrArg vI (bi_f (fun z => by have := hbig.mp z; omega)).symm), fun _ _ => rfl⟩
    · skip
      refine WP.iconst dX0_isBalanced_25 ?_
      refine WP.goto (tgt := 30) dX0_isBalanced_26 (by decide) ?_
      refine WP.zret dX0_isBalanced_30 rfl (by decide) ?_
      exact ⟨congrArg some (congrArg vI (bi_t (hbig.mpr (by omega))).symm), fun _ _ => rfl⟩
set_option maxHeartbeats 4000000 in
set_option maxRecDepth 20000 in
theorem c_C_first {M : Mem} {t n k : Nat} {sz : Nat → Nat} {ce : Nat → Nat → Nat} {b m : Nat} (ht : isT t) (hT : TX M t n k sz ce) (hW : Wf n k sz ce) (hb7 : b ≤ 12) (hm : m < 2 ^ 36) (hb : lq (Int64.ofNat m) = ((cn (mk m) n : Nat) : Int)) : CT 4 m_X0_firstUnbalanced [vR 49, vR t, vI ((b : Nat) : Int), vL (Int64.ofNat m)] M (fun z M' => z = some (vI (fub n k sz ce b (mk m))) ∧ ∀ a, a ≠ 50 → M' a = M a) := by
  have b1 := hW.1
  have b2 := hW.2.1
  have ht2 := ht.2
  have hp128 := pw7 b2
  refine CT.ofWP (by decide +kernel) (Nat.le_of_ble_eq_true rfl) ?_
  show WP sc0 4 m_X0_firstUnbalanced 0 [vR 49, vR t, vI ((b : Nat) : Int), vL (Int64.ofNat m), vU, vU] [] M (fun z M' => z = some (vI (fub n k sz ce b (mk m))) ∧ ∀ a, a ≠ 50 → M' a = M a)
  refine WP.iconst dX0_firstUnbalanced_0 ?_
  refine WP.istore (lt := [vR 49, vR t, vI ((b : Nat) : Int), vL (Int64.ofNat m), vU, vI (0 : Int)]) dX0_firstUnbalanced_1 (by decide) rfl ?_
  have L3 : ∀ (n9 : Nat) (set : Nat) (M1 : Mem) (hs : set ≤ 2 ^ k) (hF : ∀ a, a ≠ 50 → M1 a = M a) (he : fi (fun y9 => popn 12 y9 = b ∧ ¬ bal n k sz ce y9 (mk m)) (2 ^ k - set) set = fub n k sz ce b (mk m)), 2 ^ k - set < n9 → WP sc0 4 m_X0_firstUnbalanced 3 [vR 49, vR t, vI ((b : Nat) : Int), vL (Int64.ofNat m), vU, vI ((set : Nat) : Int)] [] M1 (fun z M' => z = some (vI (fub n k sz ce b (mk m))) ∧ ∀ a, a ≠ 50 → M' a = M a) := by
    intro n9
    induction n9 with
    | zero =>
      intro set M1 hs hF he hm9
      exact absurd hm9 (Nat.not_lt_zero _)
    | succ n9 ih3 =>
      intro set M1 hs hF he hm9
      have hT1 : TX M1 t n k sz ce := hT.fr (hF t (by omega)) (hF (t + 1) (by omega)) (hF (t + 2) (by omega))
      refine WP.iload dX0_firstUnbalanced_3 rfl ?_
      refine WP.iconst dX0_firstUnbalanced_5 ?_
      refine WP.aload_n dX0_firstUnbalanced_6 rfl ?_
      refine WP.getI (x := ((k : Nat) : Int)) dX0_firstUnbalanced_7 fl_X0_42 (shT0 ht) (by decide) (hT1.2.1) ?_
      refine WP.ishl (z := ((2 ^ k : Nat) : Int)) dX0_firstUnbalanced_10 (shl_ok k (by omega)) ?_
      refine WP.icmp_ge (tgt := 43) dX0_firstUnbalanced_11 (by decide) (by omega) (by omega) (fun h11 => ?_) (fun h11 => ?_)
      · skip
        refine WP.bipush dX0_firstUnbalanced_43 (by decide) ?_
        refine WP.iret dX0_firstUnbalanced_45 rfl ?_
        refine ⟨congrArg some (congrArg vI ?_), hF⟩
        rw [← he, show 2 ^ k - set = 0 by omega]
        rfl
      · skip
        have hpp : popn 12 set ≤ 12 := by rw [popn_cn]; exact cn_le _ _
        refine WP.iload dX0_firstUnbalanced_14 rfl ?_
        refine WP.callSp (as := [vI ((set : Nat) : Int)]) dX0_firstUnbalanced_16 ms_X0_45 rfl (c_bitCountI (bq_ok set (by omega))) rfl (Nat.le_of_ble_eq_true rfl) (by omega) ?_
        refine WP.iload_n dX0_firstUnbalanced_19 rfl ?_
        refine WP.icmp_ne (tgt := 37) dX0_firstUnbalanced_20 (by decide) (by omega) (by omega) (fun h20 => ?_) (fun h20 => ?_)
        · skip
          refine WP.iinc (lt := [vR 49, vR t, vI ((b : Nat) : Int), vL (Int64.ofNat m), vU, vI (((set : Nat) : Int) + 1)]) dX0_firstUnbalanced_37 rfl (by decide) rfl ?_
          refine WP.goto (tgt := 3) dX0_firstUnbalanced_40 (by decide) ?_
          refine WP.fgt (lt := [vR 49, vR t, vI ((b : Nat) : Int), vL (Int64.ofNat m), vU, vI (((set + 1) : Nat) : Int)]) ⟨Or.inr rfl, Or.inr rfl, Or.inr rfl, Or.inr rfl, Or.inl rfl, Or.inr (congrArg vI (by omega)), trivial⟩ ?_
          exact ih3 (set + 1) (M1) (by omega) (hF) (by rw [← he, show 2 ^ k - set = 2 ^ k - (set + 1) + 1 by omega]; exact (fi_f (fun z => h20 (by rw [z.1]))).symm) (by omega)
        · skip
          refine WP.aload_n dX0_firstUnbalanced_23 rfl ?_
          refine WP.aload_n dX0_firstUnbalanced_24 rfl ?_
          refine WP.iload dX0_firstUnbalanced_25 rfl ?_
          refine WP.lload_n dX0_firstUnbalanced_27 rfl ?_
          refine WP.callV (as := [vR t, vI ((set : Nat) : Int), vL (Int64.ofNat m)]) dX0_firstUnbalanced_28 mv_X0_49 rfl (rfl) (by decide) rfl rfl (c_C_isBalanced (set := set) (m := m) ht hT1 hW (by omega) hm hb) rfl (Nat.le_of_ble_eq_true rfl) (by omega) (fun r9 M2 h9 => ?_)
          obtain ⟨rfl, e1⟩ := h9
          show WP sc0 4 m_X0_firstUnbalanced 31 [vR 49, vR t, vI ((b : Nat) : Int), vL (Int64.ofNat m), vU, vI ((set : Nat) : Int)] [vI (bi (bal n k sz ce set (mk m)))] M2 (fun z M' => z = some (vI (fub n k sz ce b (mk m))) ∧ ∀ a, a ≠ 50 → M' a = M a)
          refine WP.if_ne (tgt := 37) dX0_firstUnbalanced_31 (by decide) (bi_rng) (fun h31 => ?_) (fun h31 => ?_)
          · skip
            refine WP.iinc (lt := [vR 49, vR t, vI ((b : Nat) : Int), vL (Int64.ofNat m), vU, vI (((set : Nat) : Int) + 1)]) dX0_firstUnbalanced_37 rfl (by decide) rfl ?_
            refine WP.goto (tgt := 3) dX0_firstUnbalanced_40 (by decide) ?_
            refine WP.fgt (lt := [vR 49, vR t, vI ((b : Nat) : Int), vL (Int64.ofNat m), vU, vI (((set + 1) : Nat) : Int)]) ⟨Or.inr rfl, Or.inr rfl, Or.inr rfl, Or.inr rfl, Or.inl rfl, Or.inr (congrArg vI (by omega)), trivial⟩ ?_
            exact ih3 (set + 1) (M2) (by omega) (fun a ha => (e1 a ha).trans (hF a ha)) (by rw [← he, show 2 ^ k - set = 2 ^ k - (set + 1) + 1 by omega]; exact (fi_f (fun z => z.2 (bi_1 h31))).symm) (by omega)
          · skip
            refine WP.iload dX0_firstUnbalanced_34 rfl ?_
            refine WP.iret dX0_firstUnbalanced_36 rfl ?_
            refine ⟨congrArg some (congrArg vI ?_), fun a ha => (e1 a ha).trans (hF a ha)⟩
            rw [← he, show 2 ^ k - set = 2 ^ k - (set + 1) + 1 by omega]
            exact (fi_t ⟨by omega, bi_0 h31⟩).symm
  refine WP.fgt (lt := [vR 49, vR t, vI ((b : Nat) : Int), vL (Int64.ofNat m), vU, vI ((0 : Nat) : Int)]) ⟨Or.inr rfl, Or.inr rfl, Or.inr rfl, Or.inr rfl, Or.inl rfl, Or.inr (congrArg vI (by omega)), trivial⟩ ?_
  exact L3 _ (0) (M) (Nat.zero_le _) (fun _ _ => rfl) (rfl) (Nat.lt_succ_self _)
set_option maxHeartbeats 4000000 in
set_option maxRecDepth 20000 in
theorem c_C_unbalanced {M : Mem} {t n k : Nat} {sz : Nat → Nat} {ce : Nat → Nat → Nat} {b : Nat} (ht : isT t) (hT : TX M t n k sz ce) (hW : Wf n k sz ce) (hb7 : b ≤ 12) : CT 4 m_X0_unbalancedSets [vR 49, vR t, vI ((b : Nat) : Int)] M (fun z M' => z = some (vI (cn (fun set => popn 12 set = b ∧ ¬ bal n k sz ce set (mk (2 ^ n - 1))) (2 ^ k) : Nat)) ∧ ∀ a, a ≠ 50 → M' a = M a) := by
  have b1 := hW.1
  have b2 := hW.2.1
  have ht2 := ht.2
  have hp128 := pw7 b2
  have hm : 2 ^ n - 1 < 2 ^ 36 := by have : 2 ^ n ≤ 2 ^ 36 := Nat.pow_le_pow_right (by decide) b1; omega
  have hb : lq (Int64.ofNat (2 ^ n - 1)) = ((cn (mk (2 ^ n - 1)) n : Nat) : Int) := by rw [cn_all]; exact lq_all n (by omega)
  refine CT.ofWP (by decide +kernel) (Nat.le_of_ble_eq_true rfl) ?_
  show WP sc0 4 m_X0_unbalancedSets 0 [vR 49, vR t, vI ((b : Nat) : Int), vU, vU] [] M (fun z M' => z = some (vI (cn (fun set => popn 12 set = b ∧ ¬ bal n k sz ce set (mk (2 ^ n - 1))) (2 ^ k) : Nat)) ∧ ∀ a, a ≠ 50 → M' a = M a)
  refine WP.iconst dX0_unbalancedSets_0 ?_
  refine WP.istore_n (lt := [vR 49, vR t, vI ((b : Nat) : Int), vI (0 : Int), vU]) dX0_unbalancedSets_1 (by decide) rfl ?_
  refine WP.iconst dX0_unbalancedSets_2 ?_
  refine WP.istore (lt := [vR 49, vR t, vI ((b : Nat) : Int), vI (0 : Int), vI (0 : Int)]) dX0_unbalancedSets_3 (by decide) rfl ?_
  have L5 : ∀ (n9 : Nat) (set : Nat) (M1 : Mem) (hs : set ≤ 2 ^ k) (hF : ∀ a, a ≠ 50 → M1 a = M a), 2 ^ k - set < n9 → WP sc0 4 m_X0_unbalancedSets 5 [vR 49, vR t, vI ((b : Nat) : Int), vI ((cn (fun y9 => popn 12 y9 = b ∧ ¬ bal n k sz ce y9 (mk (2 ^ n - 1))) set : Nat) : Int), vI ((set : Nat) : Int)] [] M1 (fun z M' => z = some (vI (cn (fun set => popn 12 set = b ∧ ¬ bal n k sz ce set (mk (2 ^ n - 1))) (2 ^ k) : Nat)) ∧ ∀ a, a ≠ 50 → M' a = M a) := by
    intro n9
    induction n9 with
    | zero =>
      intro set M1 hs hF hm9
      exact absurd hm9 (Nat.not_lt_zero _)
    | succ n9 ih5 =>
      intro set M1 hs hF hm9
      have hT1 : TX M1 t n k sz ce := hT.fr (hF t (by omega)) (hF (t + 1) (by omega)) (hF (t + 2) (by omega))
      refine WP.iload dX0_unbalancedSets_5 rfl ?_
      refine WP.iconst dX0_unbalancedSets_7 ?_
      refine WP.aload_n dX0_unbalancedSets_8 rfl ?_
      refine WP.getI (x := ((k : Nat) : Int)) dX0_unbalancedSets_9 fl_X0_42 (shT0 ht) (by decide) (hT1.2.1) ?_
      refine WP.ishl (z := ((2 ^ k : Nat) : Int)) dX0_unbalancedSets_12 (shl_ok k (by omega)) ?_
      refine WP.icmp_ge (tgt := 48) dX0_unbalancedSets_13 (by decide) (by omega) (by omega) (fun h13 => ?_) (fun h13 => ?_)
      · skip
        refine WP.iload_n dX0_unbalancedSets_48 rfl ?_
        refine WP.iret dX0_unbalancedSets_49 rfl ?_
        rw [show set = 2 ^ k by omega]
        exact ⟨rfl, hF⟩
      · skip
        have hpp : popn 12 set ≤ 12 := by rw [popn_cn]; exact cn_le _ _
        refine WP.iload dX0_unbalancedSets_16 rfl ?_
        refine WP.callSp (as := [vI ((set : Nat) : Int)]) dX0_unbalancedSets_18 ms_X0_45 rfl (c_bitCountI (bq_ok set (by omega))) rfl (Nat.le_of_ble_eq_true rfl) (by omega) ?_
        refine WP.iload_n dX0_unbalancedSets_21 rfl ?_
        refine WP.icmp_ne (tgt := 42) dX0_unbalancedSets_22 (by decide) (by omega) (by omega) (fun h22 => ?_) (fun h22 => ?_)
        · skip
          refine WP.iinc (lt := [vR 49, vR t, vI ((b : Nat) : Int), vI ((cn (fun y9 => popn 12 y9 = b ∧ ¬ bal n k sz ce y9 (mk (2 ^ n - 1))) set : Nat) : Int), vI (((set : Nat) : Int) + 1)]) dX0_unbalancedSets_42 rfl (by decide) rfl ?_
          refine WP.goto (tgt := 5) dX0_unbalancedSets_45 (by decide) ?_
          refine WP.fgt (lt := [vR 49, vR t, vI ((b : Nat) : Int), vI ((cn (fun y9 => popn 12 y9 = b ∧ ¬ bal n k sz ce y9 (mk (2 ^ n - 1))) (set + 1) : Nat) : Int), vI (((set + 1) : Nat) : Int)]) ⟨Or.inr rfl, Or.inr rfl, Or.inr rfl, Or.inr (congrArg vI (by rw [cn_f (p := (fun y9 => popn 12 y9 = b ∧ ¬ bal n k sz ce y9 (mk (2 ^ n - 1)))) (fun z => h22 (by rw [z.1]))])), Or.inr (congrArg vI (by omega)), trivial⟩ ?_
          exact ih5 (set + 1) (M1) (by omega) (hF) (by omega)
        · skip
          refine WP.aload_n dX0_unbalancedSets_25 rfl ?_
          refine WP.aload_n dX0_unbalancedSets_26 rfl ?_
          refine WP.iload dX0_unbalancedSets_27 rfl ?_
          refine WP.aload_n dX0_unbalancedSets_29 rfl ?_
          refine WP.callVp (as := []) dX0_unbalancedSets_30 mv_X0_53 rfl (shT0 ht) (by decide) rfl rfl (c_T_allRows ht hT1 hW) rfl (Nat.le_of_ble_eq_true rfl) (by omega) ?_
          refine WP.callV (as := [vR t, vI ((set : Nat) : Int), vL (Int64.ofNat (2 ^ n - 1))]) dX0_unbalancedSets_33 mv_X0_49 rfl (rfl) (by decide) rfl rfl (c_C_isBalanced (set := set) (m := 2 ^ n - 1) ht hT1 hW (by omega) hm hb) rfl (Nat.le_of_ble_eq_true rfl) (by omega) (fun r9 M2 h9 => ?_)
          obtain ⟨rfl, e1⟩ := h9
          show WP sc0 4 m_X0_unbalancedSets 36 [vR 49, vR t, vI ((b : Nat) : Int), vI ((cn (fun y9 => popn 12 y9 = b ∧ ¬ bal n k sz ce y9 (mk (2 ^ n - 1))) set : Nat) : Int), vI ((set : Nat) : Int)] [vI (bi (bal n k sz ce set (mk (2 ^ n - 1))))] M2 (fun z M' => z = some (vI (cn (fun set => popn 12 set = b ∧ ¬ bal n k sz ce set (mk (2 ^ n - 1))) (2 ^ k) : Nat)) ∧ ∀ a, a ≠ 50 → M' a = M a)
          refine WP.if_ne (tgt := 42) dX0_unbalancedSets_36 (by decide) (bi_rng) (fun h36 => ?_) (fun h36 => ?_)
          · skip
            refine WP.iinc (lt := [vR 49, vR t, vI ((b : Nat) : Int), vI ((cn (fun y9 => popn 12 y9 = b ∧ ¬ bal n k sz ce y9 (mk (2 ^ n - 1))) set : Nat) : Int), vI (((set : Nat) : Int) + 1)]) dX0_unbalancedSets_42 rfl (by decide) rfl ?_
            refine WP.goto (tgt := 5) dX0_unbalancedSets_45 (by decide) ?_
            refine WP.fgt (lt := [vR 49, vR t, vI ((b : Nat) : Int), vI ((cn (fun y9 => popn 12 y9 = b ∧ ¬ bal n k sz ce y9 (mk (2 ^ n - 1))) (set + 1) : Nat) : Int), vI (((set + 1) : Nat) : Int)]) ⟨Or.inr rfl, Or.inr rfl, Or.inr rfl, Or.inr (congrArg vI (by rw [cn_f (p := (fun y9 => popn 12 y9 = b ∧ ¬ bal n k sz ce y9 (mk (2 ^ n - 1)))) (fun z => z.2 (bi_1 h36))])), Or.inr (congrArg vI (by omega)), trivial⟩ ?_
            exact ih5 (set + 1) (M2) (by omega) (fun a ha => (e1 a ha).trans (hF a ha)) (by omega)
          · skip
            refine WP.iinc (lt := [vR 49, vR t, vI ((b : Nat) : Int), vI (((cn (fun y9 => popn 12 y9 = b ∧ ¬ bal n k sz ce y9 (mk (2 ^ n - 1))) set : Nat) : Int) + 1), vI ((set : Nat) : Int)]) dX0_unbalancedSets_39 rfl (by decide) rfl ?_
            refine WP.iinc (lt := [vR 49, vR t, vI ((b : Nat) : Int), vI (((cn (fun y9 => popn 12 y9 = b ∧ ¬ bal n k sz ce y9 (mk (2 ^ n - 1))) set : Nat) : Int) + 1), vI (((set : Nat) : Int) + 1)]) dX0_unbalancedSets_42 rfl (by decide) rfl ?_
            refine WP.goto (tgt := 5) dX0_unbalancedSets_45 (by decide) ?_
            refine WP.fgt (lt := [vR 49, vR t, vI ((b : Nat) : Int), vI ((cn (fun y9 => popn 12 y9 = b ∧ ¬ bal n k sz ce y9 (mk (2 ^ n - 1))) (set + 1) : Nat) : Int), vI (((set + 1) : Nat) : Int)]) ⟨Or.inr rfl, Or.inr rfl, Or.inr rfl, Or.inr (congrArg vI (by rw [cn_t (p := (fun y9 => popn 12 y9 = b ∧ ¬ bal n k sz ce y9 (mk (2 ^ n - 1)))) ⟨by omega, bi_0 h36⟩]; omega)), Or.inr (congrArg vI (by omega)), trivial⟩ ?_
            exact ih5 (set + 1) (M2) (by omega) (fun a ha => (e1 a ha).trans (hF a ha)) (by omega)
  refine WP.fgt (lt := [vR 49, vR t, vI ((b : Nat) : Int), vI ((cn (fun y9 => popn 12 y9 = b ∧ ¬ bal n k sz ce y9 (mk (2 ^ n - 1))) 0 : Nat) : Int), vI ((0 : Nat) : Int)]) ⟨Or.inr rfl, Or.inr rfl, Or.inr rfl, Or.inr (congrArg vI (rfl)), Or.inr (congrArg vI (by omega)), trivial⟩ ?_
  exact L5 _ (0) (M) (Nat.zero_le _) (fun _ _ => rfl) (Nat.lt_succ_self _)
