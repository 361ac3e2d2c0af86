theorem w_colsL {M : Mem} {a L o n k : Nat} {sz : Nat → Nat} {ce : Nat → Nat → Nat} (ha : shp a = (10, L)) (hL : o + 261 ≤ L) (hL9 : L < 3000) (hB : BA (fun j => M a (o + j)) (n, k, sz, ce)) {s : Int} (hs : -2147483648 ≤ s ∧ s < 2147483648) (hk : M 168 1 = ((k : Nat) : Int)) : CT 3 m_X8_columnsLike [vR 167, vI s, vR a, vI ((o : Nat) : Int)] M (Rt (some (vI ((cn (fun y9 => sig (n, k, sz, ce) y9 = s) k : Nat) : Int))) M) := w_columnsLike ha hL hL9 hB hs hk
set_option maxHeartbeats 4000000 in
set_option maxRecDepth 20000 in
theorem w_like {M : Mem} {i n k : Nat} {sz sz' : Nat → Nat} {ce ce' : Nat → Nat → Nat} {w : Nat → Nat} (hi : i < 2) (hA : BX (M 168) n k sz ce) (hB : BX (fun j => M 170 (261 * i + j)) n k sz' ce') (hW : Wf n k sz ce) (hW2 : Wf n k sz' ce') (hn : n ≤ 18) (h4 : ∀ c, c < k → sz c ≤ 4) : CT 4 m_X8_haveLikeColumns [vR 167, vI ((i : Nat) : Int)] M (Rt (some (vI (bi (∀ c, c < k → cn (fun y9 => sig (n, k, sz, ce) y9 = sig (n, k, sz, ce) c) k = cn (fun y9 => sig (n, k, sz', ce') y9 = sig (n, k, sz, ce) c) k)))) M) := by
  have b1 := hW.1
  have b2 := hW.2.1
  have hBA : BA (fun j => M 168 (0 + j)) (n, k, sz, ce) := by
    have e9 : (fun j => M 168 (0 + j)) = M 168 := by funext j; rw [Nat.zero_add]
    rw [e9]
    exact ⟨hA, hW⟩
  have hBB : BA (fun j => M 170 (261 * i + j)) (n, k, sz', ce') := ⟨hB, hW2⟩
  refine CT.ofWP (by decide +kernel) (Nat.le_of_ble_eq_true rfl) ?_
  show WP sc0 4 m_X8_haveLikeColumns 0 [vR 167, vI ((i : Nat) : Int), vU, vU] [] M (Rt (some (vI (bi (∀ c, c < k → cn (fun y9 => sig (n, k, sz, ce) y9 = sig (n, k, sz, ce) c) k = cn (fun y9 => sig (n, k, sz', ce') y9 = sig (n, k, sz, ce) c) k)))) M)
  refine WP.iconst dX8_haveLikeColumns_0 ?_
  refine WP.istore_n (lt := [vR 167, vI ((i : Nat) : Int), vI (0 : Int), vU]) dX8_haveLikeColumns_1 (by decide) rfl ?_
  have L2 : ∀ (n9 : Nat) (c : Nat) (hc : c ≤ k) (hok : ∀ b, b < c → cn (fun y9 => sig (n, k, sz, ce) y9 = sig (n, k, sz, ce) b) k = cn (fun y9 => sig (n, k, sz', ce') y9 = sig (n, k, sz, ce) b) k), k - c < n9 → WP sc0 4 m_X8_haveLikeColumns 2 [vR 167, vI ((i : Nat) : Int), vI ((c : Nat) : Int), vU] [] M (Rt (some (vI (bi (∀ c, c < k → cn (fun y9 => sig (n, k, sz, ce) y9 = sig (n, k, sz, ce) c) k = cn (fun y9 => sig (n, k, sz', ce') y9 = sig (n, k, sz, ce) c) k)))) M) := by
    intro n9
    induction n9 with
    | zero =>
      intro c hc hok hm9
      exact absurd hm9 (Nat.not_lt_zero _)
    | succ n9 ih2 =>
      intro c hc hok hm9
      refine WP.iload_n dX8_haveLikeColumns_2 rfl ?_
      refine WP.aload_n dX8_haveLikeColumns_3 rfl ?_
      refine WP.getR (y := 168) dX8_haveLikeColumns_4 fl_X8_7 (rfl) (by decide) (rfl) ?_
      refine WP.iconst dX8_haveLikeColumns_7 ?_
      refine WP.iaload (y := 1) (x := ((k : Nat) : Int)) dX8_haveLikeColumns_8 (rfl) (by omega) (by omega) (hA.2.1) ?_
      refine WP.icmp_ge (tgt := 57) dX8_haveLikeColumns_9 (by decide) (by omega) (by omega) (fun h9 => ?_) (fun h9 => ?_)
      · skip
        refine WP.iconst dX8_haveLikeColumns_57 ?_
        refine WP.zret dX8_haveLikeColumns_58 rfl (by decide) ?_
        exact ⟨congrArg some (congrArg vI (bi_t (fun b hb => hok b (by omega))).symm), rfl⟩
      · skip
        refine WP.aload_n dX8_haveLikeColumns_12 rfl ?_
        refine WP.getR (y := 168) dX8_haveLikeColumns_13 fl_X8_7 (rfl) (by decide) (rfl) ?_
        refine WP.iconst dX8_haveLikeColumns_16 ?_
        refine WP.iload_n dX8_haveLikeColumns_17 rfl ?_
        refine WP.eqs (st' := [vI ((c : Nat) : Int), vI ((0 : Nat) : Int), vR 168]) rfl (lc (rfl) (lc (congrArg vI (rfl)) (lc (rfl) (rfl)))) ?_
        refine WP.callSp (as := [vR 168, vI ((0 : Nat) : Int), vI ((c : Nat) : Int)]) dX8_haveLikeColumns_18 ms_X8_194 rfl (w_signature (a := 168) (L := 261) (o := 0) (A := (n, k, sz, ce)) (c := c) rfl (by decide) (by decide) hBA (show c < k by omega)) rfl (Nat.le_of_ble_eq_true rfl) (by omega) ?_
        refine WP.istore_n (lt := [vR 167, vI ((i : Nat) : Int), vI ((c : Nat) : Int), vI (sig (n, k, sz, ce) c)]) dX8_haveLikeColumns_21 (by decide) rfl ?_
        refine WP.aload_n dX8_haveLikeColumns_22 rfl ?_
        refine WP.iload_n dX8_haveLikeColumns_23 rfl ?_
        refine WP.aload_n dX8_haveLikeColumns_24 rfl ?_
        refine WP.getR (y := 168) dX8_haveLikeColumns_25 fl_X8_7 (rfl) (by decide) (rfl) ?_
        refine WP.iconst dX8_haveLikeColumns_28 ?_
        refine WP.eqs (st' := [vI ((0 : Nat) : Int), vR 168, vI (sig (n, k, sz, ce) c), vR 167]) rfl (lc (congrArg vI (rfl)) (lc (rfl) (lc (rfl) (rfl)))) ?_
        refine WP.callVp (as := [vI (sig (n, k, sz, ce) c), vR 168, vI ((0 : Nat) : Int)]) dX8_haveLikeColumns_29 mv_X8_198 rfl (rfl) (by decide) rfl rfl (w_colsL (a := 168) (L := 261) (o := 0) (n := n) (k := k) (sz := sz) (ce := ce) (s := sig (n, k, sz, ce) c) rfl (by decide) (by decide) hBA sgw_r hA.2.1) rfl (Nat.le_of_ble_eq_true rfl) (by omega) ?_
        have l1 := cn_le (fun y9 => sig (n, k, sz, ce) y9 = sig (n, k, sz, ce) c) k
        refine WP.aload_n dX8_haveLikeColumns_32 rfl ?_
        refine WP.iload_n dX8_haveLikeColumns_33 rfl ?_
        refine WP.aload_n dX8_haveLikeColumns_34 rfl ?_
        refine WP.getR (y := 170) dX8_haveLikeColumns_35 fl_X8_16 (rfl) (by decide) (rfl) ?_
        refine WP.sipush dX8_haveLikeColumns_38 (by decide) ?_
        refine WP.iload_n dX8_haveLikeColumns_41 rfl ?_
        refine WP.imul dX8_haveLikeColumns_42 ?_
        refine WP.eqs (st' := [vI ((261 * i : Nat) : Int), vR 170, vI (sig (n, k, sz, ce) c), vR 167, vI ((cn (fun y9 => sig (n, k, sz, ce) y9 = sig (n, k, sz, ce) c) k : Nat) : Int)]) rfl (lc (congrArg vI (by omega)) (lc (rfl) (lc (rfl) (rfl)))) ?_
        refine WP.callVp (as := [vI (sig (n, k, sz, ce) c), vR 170, vI ((261 * i : Nat) : Int)]) dX8_haveLikeColumns_43 mv_X8_198 rfl (rfl) (by decide) rfl rfl (w_colsL (a := 170) (L := 522) (o := 261 * i) (n := n) (k := k) (sz := sz') (ce := ce') (s := sig (n, k, sz, ce) c) rfl (by omega) (by decide) hBB sgw_r hA.2.1) rfl (Nat.le_of_ble_eq_true rfl) (by omega) ?_
        have l2 := cn_le (fun y9 => sig (n, k, sz', ce') y9 = sig (n, k, sz, ce) c) k
        refine WP.icmp_eq (tgt := 51) dX8_haveLikeColumns_46 (by decide) (by omega) (by omega) (fun h46 => ?_) (fun h46 => ?_)
        · skip
          refine WP.iinc (lt := [vR 167, vI ((i : Nat) : Int), vI (((c : Nat) : Int) + 1), vI (sig (n, k, sz, ce) c)]) dX8_haveLikeColumns_51 rfl (by decide) rfl ?_
          refine WP.goto (tgt := 2) dX8_haveLikeColumns_54 (by decide) ?_
          refine WP.fgt (lt := [vR 167, vI ((i : Nat) : Int), vI (((c + 1) : Nat) : Int), vU]) ⟨Or.inr rfl, Or.inr rfl, Or.inr (congrArg vI (by omega)), Or.inl rfl, trivial⟩ ?_
          exact ih2 (c + 1) (by omega) (fun b hb => by
            by_cases e9 : b = c
            · rw [e9]; omega
            · exact hok b (by omega)) (by omega)
        · skip
          refine WP.iconst dX8_haveLikeColumns_49 ?_
          refine WP.zret dX8_haveLikeColumns_50 rfl (by decide) ?_
          exact ⟨congrArg some (congrArg vI (bi_f (fun z => by have := z c (by omega); omega)).symm), rfl⟩
  refine WP.fgt (lt := [vR 167, vI ((i : Nat) : Int), vI ((0 : Nat) : Int), vU]) ⟨Or.inr rfl, Or.inr rfl, Or.inr (congrArg vI (by omega)), Or.inl rfl, trivial⟩ ?_
  exact L2 _ (0) (Nat.zero_le _) (fun b hb => absurd hb (Nat.not_lt_zero b)) (Nat.lt_succ_self _)
set_option maxHeartbeats 4000000 in
set_option maxRecDepth 20000 in
theorem w_isTaken {M : Mem} {c k : Nat} {w : Nat → Nat} (hc : c < 7) (hk : k ≤ 7) (hw : ∀ b, b ≤ c → M 176 b = (w b : Int) ∧ w b < 256 * k) : CT 1 m_X8_isTaken [vR 167, vI ((c : Nat) : Int)] M (Rt (some (vI (bi (∃ b, b < c ∧ w b / 256 = w c / 256)))) M) := by
  refine CT.ofWP (by decide +kernel) (Nat.le_of_ble_eq_true rfl) ?_
  show WP sc0 1 m_X8_isTaken 0 [vR 167, vI ((c : Nat) : Int), vU] [] M (Rt (some (vI (bi (∃ b, b < c ∧ w b / 256 = w c / 256)))) M)
  refine WP.iconst dX8_isTaken_0 ?_
  refine WP.istore_n (lt := [vR 167, vI ((c : Nat) : Int), vI (0 : Int)]) dX8_isTaken_1 (by decide) rfl ?_
  have L2 : ∀ (n9 : Nat) (b : Nat) (hb : b ≤ c) (hno : ∀ d, d < b → w d / 256 ≠ w c / 256), c - b < n9 → WP sc0 1 m_X8_isTaken 2 [vR 167, vI ((c : Nat) : Int), vI ((b : Nat) : Int)] [] M (Rt (some (vI (bi (∃ b, b < c ∧ w b / 256 = w c / 256)))) M) := by
    intro n9
    induction n9 with
    | zero =>
      intro b hb hno hm9
      exact absurd hm9 (Nat.not_lt_zero _)
    | succ n9 ih2 =>
      intro b hb hno hm9
      have v1 := (hw b hb).2
      have v2 := (hw c (Nat.le_refl _)).2
      refine WP.iload_n dX8_isTaken_2 rfl ?_
      refine WP.iload_n dX8_isTaken_3 rfl ?_
      refine WP.icmp_ge (tgt := 38) dX8_isTaken_4 (by decide) (by omega) (by omega) (fun h4 => ?_) (fun h4 => ?_)
      · skip
        refine WP.iconst dX8_isTaken_38 ?_
        refine WP.zret dX8_isTaken_39 rfl (by decide) ?_
        exact ⟨congrArg some (congrArg vI (bi_f (fun ⟨d, hd, e⟩ => hno d (by omega) e)).symm), rfl⟩
      · skip
        refine WP.aload_n dX8_isTaken_7 rfl ?_
        refine WP.getR (y := 176) dX8_isTaken_8 fl_X8_34 (rfl) (by decide) (rfl) ?_
        refine WP.iload_n dX8_isTaken_11 rfl ?_
        refine WP.iaload (y := b) (x := ((w b : Nat) : Int)) dX8_isTaken_12 (rfl) (by omega) (by omega) ((hw b (by omega)).1) ?_
        refine WP.sipush dX8_isTaken_13 (by decide) ?_
        refine WP.idiv dX8_isTaken_16 (by have := (hw b (by omega)).2; omega) (by omega) ?_
        refine WP.eqs (st' := [vI ((w b / 256 : Nat) : Int)]) rfl (lc (congrArg vI (by omega)) rfl) ?_
        refine WP.aload_n dX8_isTaken_17 rfl ?_
        refine WP.getR (y := 176) dX8_isTaken_18 fl_X8_34 (rfl) (by decide) (rfl) ?_
        refine WP.iload_n dX8_isTaken_21 rfl ?_
        refine WP.iaload (y := c) (x := ((w c : Nat) : Int)) dX8_isTaken_22 (rfl) (by omega) (by omega) ((hw c (by omega)).1) ?_
        refine WP.sipush dX8_isTaken_23 (by decide) ?_
        refine WP.idiv dX8_isTaken_26 (by have := (hw c (by omega)).2; omega) (by omega) ?_
        refine WP.eqs (st' := [vI ((w c / 256 : Nat) : Int), vI ((w b / 256 : Nat) : Int)]) rfl (lc (congrArg vI (by omega)) rfl) ?_
        refine WP.icmp_ne (tgt := 32) dX8_isTaken_27 (by decide) (by omega) (by omega) (fun h27 => ?_) (fun h27 => ?_)
        · skip
          refine WP.iinc (lt := [vR 167, vI ((c : Nat) : Int), vI (((b : Nat) : Int) + 1)]) dX8_isTaken_32 rfl (by decide) rfl ?_
          refine WP.goto (tgt := 2) dX8_isTaken_35 (by decide) ?_
          refine WP.fgt (lt := [vR 167, vI ((c : Nat) : Int), vI (((b + 1) : Nat) : Int)]) ⟨Or.inr rfl, Or.inr rfl, Or.inr (congrArg vI (by omega)), trivial⟩ ?_
          exact ih2 (b + 1) (by omega) (fun d hd => by
            by_cases e9 : d = b
            · rw [e9]; omega
            · exact hno d (by omega)) (by omega)
        · skip
          refine WP.iconst dX8_isTaken_30 ?_
          refine WP.zret dX8_isTaken_31 rfl (by decide) ?_
          exact ⟨congrArg some (congrArg vI (bi_t ⟨b, by omega, by omega⟩).symm), rfl⟩
  refine WP.fgt (lt := [vR 167, vI ((c : Nat) : Int), vI ((0 : Nat) : Int)]) ⟨Or.inr rfl, Or.inr rfl, Or.inr (congrArg vI (by omega)), trivial⟩ ?_
  exact L2 _ (0) (Nat.zero_le _) (fun d hd => absurd hd (Nat.not_lt_zero d)) (Nat.lt_succ_self _)
theorem w_im {M : Mem} {w v : Nat} (hv : v < 4) : CT 1 m_X8_imageOf [vI ((w % 256 : Nat) : Int), vI ((v : Nat) : Int)] M (Rt (some (vI ((imo w v : Nat) : Int))) M) := by
  have h := w_imageOf (M := M) (code := w % 256) (v := v) (Nat.mod_lt _ (by decide)) hv
  rw [imo_md] at h
  exact h
theorem w_prm {M : Mem} {w s : Nat} (hs : s ≤ 4) : CT 2 m_X8_isPermutation [vR 167, vI ((w % 256 : Nat) : Int), vI ((s : Nat) : Int)] M (Rt (some (vI (bi (pmo s w)))) M) := by
  have h := w_isPermutation (M := M) (code := w % 256) (s := s) (Nat.mod_lt _ (by decide)) hs
  rw [bi_cg (pmo_md (s := s) (w := w))] at h
  exact h
set_option maxHeartbeats 4000000 in
set_option maxRecDepth 20000 in
theorem w_alike {M : Mem} {i n k : Nat} {sz sz' : Nat → Nat} {ce ce' : Nat → Nat → Nat} {w : Nat → Nat} (hi : i < 2) (hA : BX (M 168) n k sz ce) (hB : BX (fun j => M 170 (261 * i + j)) n k sz' ce') (hW : Wf n k sz ce) (hW2 : Wf n k sz' ce') (hn : n ≤ 18) (h4 : ∀ c, c < k → sz c ≤ 4) {c : Nat} (hc : c < k) (hw : ∀ b, b ≤ c → M 176 b = (w b : Int) ∧ w b < 256 * k) (hp : pmo (sz c) (w c)) : CT 2 m_X8_isFirstOfAlike [vR 167, vI ((c : Nat) : Int)] M (Rt (some (vI (bi (foa (n, k, sz, ce) c (w c))))) M) := by
  have b1 := hW.1
  have b2 := hW.2.1
  have hBA : BA (fun j => M 168 (0 + j)) (n, k, sz, ce) := by
    have e9 : (fun j => M 168 (0 + j)) = M 168 := by funext j; rw [Nat.zero_add]
    rw [e9]
    exact ⟨hA, hW⟩
  have hBB : BA (fun j => M 170 (261 * i + j)) (n, k, sz', ce') := ⟨hB, hW2⟩
  have w1 := hW.2.2.1 c hc
  have w4 := h4 c hc
  refine CT.ofWP (by decide +kernel) (Nat.le_of_ble_eq_true rfl) ?_
  show WP sc0 2 m_X8_isFirstOfAlike 0 [vR 167, vI ((c : Nat) : Int), vU, vU] [] M (Rt (some (vI (bi (foa (n, k, sz, ce) c (w c))))) M)
  refine WP.iconst dX8_isFirstOfAlike_0 ?_
  refine WP.istore_n (lt := [vR 167, vI ((c : Nat) : Int), vI ((-1) : Int), vU]) dX8_isFirstOfAlike_1 (by decide) rfl ?_
  refine WP.iconst dX8_isFirstOfAlike_2 ?_
  refine WP.istore_n (lt := [vR 167, vI ((c : Nat) : Int), vI ((-1) : Int), vI (0 : Int)]) dX8_isFirstOfAlike_3 (by decide) rfl ?_
  have L4 : ∀ (n9 : Nat) (v : Nat) (u : Int) (hv : v ≤ sz c) (hu : u = -1 ∨ ∃ a, a < v ∧ (∀ r, r < n → ce r c ≠ a) ∧ u = ((imo (w c) a : Nat) : Int)) (hF : ∀ a, a < v → (∀ r, r < n → ce r c ≠ a) → ((imo (w c) a : Nat) : Int) ≤ u) (hG : ∀ a b, a < b → b < v → (∀ r, r < n → ce r c ≠ a) → (∀ r, r < n → ce r c ≠ b) → imo (w c) a < imo (w c) b), sz c - v < n9 → WP sc0 2 m_X8_isFirstOfAlike 4 [vR 167, vI ((c : Nat) : Int), vI u, vI ((v : Nat) : Int)] [] M (Rt (some (vI (bi (foa (n, k, sz, ce) c (w c))))) M) := by
    intro n9
    induction n9 with
    | zero =>
      intro v u hv hu hF hG hm9
      exact absurd hm9 (Nat.not_lt_zero _)
    | succ n9 ih4 =>
      intro v u hv hu hF hG hm9
      have hur : -1 ≤ u ∧ u ≤ 3 := by
        rcases hu with z | ⟨a, _, _, z⟩
        · omega
        · have := imo_4 (w c) a; omega
      have wi := imo_4 (w c) v
      refine WP.iload_n dX8_isFirstOfAlike_4 rfl ?_
      refine WP.aload_n dX8_isFirstOfAlike_5 rfl ?_
      refine WP.getR (y := 168) dX8_isFirstOfAlike_6 fl_X8_7 (rfl) (by decide) (rfl) ?_
      refine WP.iconst dX8_isFirstOfAlike_9 ?_
      refine WP.iload_n dX8_isFirstOfAlike_10 rfl ?_
      refine WP.iadd dX8_isFirstOfAlike_11 ?_
      refine WP.iaload (y := (2 + c)) (x := ((sz c : Nat) : Int)) dX8_isFirstOfAlike_12 (rfl) (by omega) (by omega) (hA.2.2.1 _ (by omega)) ?_
      refine WP.icmp_ge (tgt := 70) dX8_isFirstOfAlike_13 (by decide) (by omega) (by omega) (fun h13 => ?_) (fun h13 => ?_)
      · skip
        refine WP.iconst dX8_isFirstOfAlike_70 ?_
        refine WP.zret dX8_isFirstOfAlike_71 rfl (by decide) ?_
        exact ⟨congrArg some (congrArg vI (bi_t (fun a b hab hb => hG a b hab (by have : b < sz c := hb; omega))).symm), rfl⟩
      · skip
        refine WP.aload_n dX8_isFirstOfAlike_16 rfl ?_
        refine WP.getR (y := 168) dX8_isFirstOfAlike_17 fl_X8_7 (rfl) (by decide) (rfl) ?_
        refine WP.iconst dX8_isFirstOfAlike_20 ?_
        refine WP.iload_n dX8_isFirstOfAlike_21 rfl ?_
        refine WP.iload_n dX8_isFirstOfAlike_22 rfl ?_
        refine WP.eqs (st' := [vI ((v : Nat) : Int), vI ((c : Nat) : Int), vI ((0 : Nat) : Int), vR 168]) rfl (lc (rfl) (lc (rfl) (lc (congrArg vI (rfl)) (lc (rfl) (rfl))))) ?_
        refine WP.callSp (as := [vR 168, vI ((0 : Nat) : Int), vI ((c : Nat) : Int), vI ((v : Nat) : Int)]) dX8_isFirstOfAlike_23 ms_X8_190 rfl (w_occurrences (a := 168) (L := 261) (o := 0) (A := (n, k, sz, ce)) (c := c) (v := v) rfl (by decide) (by decide) hBA hc (by omega)) rfl (Nat.le_of_ble_eq_true rfl) (by omega) ?_
        have hol : occ (n, k, sz, ce) c v ≤ n := cn_le _ _
        refine WP.if_ne (tgt := 64) dX8_isFirstOfAlike_26 (by decide) (by omega) (fun h26 => ?_) (fun h26 => ?_)
        · skip
          have hus : ¬ (∀ r, r < n → ce r c ≠ v) := fun z => h26 (by
            have h0 : occ (n, k, sz, ce) c v = 0 := cn_0.mpr z
            rw [h0]; rfl)
          refine WP.iinc (lt := [vR 167, vI ((c : Nat) : Int), vI u, vI (((v : Nat) : Int) + 1)]) dX8_isFirstOfAlike_64 rfl (by decide) rfl ?_
          refine WP.goto (tgt := 4) dX8_isFirstOfAlike_67 (by decide) ?_
          refine WP.fgt (lt := [vR 167, vI ((c : Nat) : Int), vI u, vI (((v + 1) : Nat) : Int)]) ⟨Or.inr rfl, Or.inr rfl, Or.inr rfl, Or.inr (congrArg vI (by omega)), trivial⟩ ?_
          exact ih4 (v + 1) (u) (by omega) (hu.elim Or.inl (fun ⟨a, z1, z2⟩ => Or.inr ⟨a, by omega, z2⟩)) (fun a ha hna => by
            by_cases e9 : a = v
            · rw [e9] at hna ⊢
              exact absurd hna hus
            · exact hF a (by omega) hna) (fun a b hab hb hna hnb => by
            by_cases e9 : b = v
            · rw [e9] at hnb ⊢
              exact absurd hnb hus
            · exact hG a b hab (by omega) hna hnb) (by omega)
        · skip
          have hun : (∀ r, r < n → ce r c ≠ v) := cn_0.mp (show occ (n, k, sz, ce) c v = 0 by omega)
          refine WP.aload_n dX8_isFirstOfAlike_29 rfl ?_
          refine WP.getR (y := 176) dX8_isFirstOfAlike_30 fl_X8_34 (rfl) (by decide) (rfl) ?_
          refine WP.iload_n dX8_isFirstOfAlike_33 rfl ?_
          refine WP.iaload (y := c) (x := ((w c : Nat) : Int)) dX8_isFirstOfAlike_34 (rfl) (by omega) (by omega) ((hw c (Nat.le_refl _)).1) ?_
          refine WP.sipush dX8_isFirstOfAlike_35 (by decide) ?_
          refine WP.irem dX8_isFirstOfAlike_38 (by have := (hw c (Nat.le_refl _)).2; omega) (by omega) ?_
          refine WP.eqs (st' := [vI ((w c % 256 : Nat) : Int)]) rfl (lc (congrArg vI (by omega)) rfl) ?_
          refine WP.iload_n dX8_isFirstOfAlike_39 rfl ?_
          refine WP.callSp (as := [vI ((w c % 256 : Nat) : Int), vI ((v : Nat) : Int)]) dX8_isFirstOfAlike_40 ms_X8_187 rfl (w_im (w := w c) (v := v) (by omega)) rfl (Nat.le_of_ble_eq_true rfl) (by omega) ?_
          refine WP.iload_n dX8_isFirstOfAlike_43 rfl ?_
          refine WP.icmp_ge (tgt := 49) dX8_isFirstOfAlike_44 (by decide) (by omega) (by omega) (fun h44 => ?_) (fun h44 => ?_)
          · skip
            refine WP.aload_n dX8_isFirstOfAlike_49 rfl ?_
            refine WP.getR (y := 176) dX8_isFirstOfAlike_50 fl_X8_34 (rfl) (by decide) (rfl) ?_
            refine WP.iload_n dX8_isFirstOfAlike_53 rfl ?_
            refine WP.iaload (y := c) (x := ((w c : Nat) : Int)) dX8_isFirstOfAlike_54 (rfl) (by omega) (by omega) ((hw c (Nat.le_refl _)).1) ?_
            refine WP.sipush dX8_isFirstOfAlike_55 (by decide) ?_
            refine WP.irem dX8_isFirstOfAlike_58 (by have := (hw c (Nat.le_refl _)).2; omega) (by omega) ?_
            refine WP.eqs (st' := [vI ((w c % 256 : Nat) : Int)]) rfl (lc (congrArg vI (by omega)) rfl) ?_
            refine WP.iload_n dX8_isFirstOfAlike_59 rfl ?_
            refine WP.callSp (as := [vI ((w c % 256 : Nat) : Int), vI ((v : Nat) : Int)]) dX8_isFirstOfAlike_60 ms_X8_187 rfl (w_im (w := w c) (v := v) (by omega)) rfl (Nat.le_of_ble_eq_true rfl) (by omega) ?_
            refine WP.istore_n (lt := [vR 167, vI ((c : Nat) : Int), vI ((imo (w c) v : Nat) : Int), vI ((v : Nat) : Int)]) dX8_isFirstOfAlike_63 (by decide) rfl ?_
            refine WP.iinc (lt := [vR 167, vI ((c : Nat) : Int), vI ((imo (w c) v : Nat) : Int), vI (((v : Nat) : Int) + 1)]) dX8_isFirstOfAlike_64 rfl (by decide) rfl ?_
            refine WP.goto (tgt := 4) dX8_isFirstOfAlike_67 (by decide) ?_
            refine WP.fgt (lt := [vR 167, vI ((c : Nat) : Int), vI (((imo (w c) v : Nat) : Int)), vI (((v + 1) : Nat) : Int)]) ⟨Or.inr rfl, Or.inr rfl, Or.inr (congrArg vI (by omega)), Or.inr (congrArg vI (by omega)), trivial⟩ ?_
            exact ih4 (v + 1) (((imo (w c) v : Nat) : Int)) (by omega) (Or.inr ⟨v, by omega, hun, rfl⟩) (fun a ha hna => by
              by_cases e9 : a = v
              · rw [e9] at hna ⊢
                exact Int.le_refl _
              · have := hF a (by omega) hna
                omega) (fun a b hab hb hna hnb => by
              by_cases e9 : b = v
              · rw [e9] at hnb ⊢
                have h8 := hF a (by omega) hna
                have h7 : imo (w c) a ≠ imo (w c) v := fun z => by have := hp.2.1 a v (by omega) (by omega) z; omega
                omega
              · exact hG a b hab (by omega) hna hnb) (by omega)
          · skip
            refine WP.iconst dX8_isFirstOfAlike_47 ?_
            refine WP.zret dX8_isFirstOfAlike_48 rfl (by decide) ?_
            exact ⟨congrArg some (congrArg vI (bi_f (fun z => by
              rcases hu with q | ⟨a, q1, q2, q3⟩
              · omega
              · have := z a v q1 (show v < sz c by omega) q2 hun
                omega)).symm), rfl⟩
  refine WP.fgt (lt := [vR 167, vI ((c : Nat) : Int), vI (-1), vI ((0 : Nat) : Int)]) ⟨Or.inr rfl, Or.inr rfl, Or.inr (congrArg vI (by omega)), Or.inr (congrArg vI (by omega)), trivial⟩ ?_
  exact L4 _ (0) (-1) (Nat.zero_le _) (Or.inl rfl) (fun a ha => absurd ha (Nat.not_lt_zero a)) (fun a b _ hb => absurd hb (Nat.not_lt_zero b)) (Nat.lt_succ_self _)
set_option maxHeartbeats 4000000 in
set_option maxRecDepth 20000 in
theorem w_sameRows {M : Mem} {i n k : Nat} {sz sz' : Nat → Nat} {ce ce' : Nat → Nat → Nat} {w : Nat → Nat} (hi : i < 2) (hA : BX (M 168) n k sz ce) (hB : BX (fun j => M 170 (261 * i + j)) n k sz' ce') (hW : Wf n k sz ce) (hW2 : Wf n k sz' ce') (hn : n ≤ 18) (h4 : ∀ c, c < k → sz c ≤ 4) {m : Nat} (hm : m ≤ k) (hw : ∀ c, c < m → M 176 c = (w c : Int) ∧ w c < 256 * k ∧ sz' (w c / 256) = sz c) : CT 2 m_X8_areSameRows [vR 167, vI ((i : Nat) : Int), vI ((m : Nat) : Int)] M (fun z M' => z = some (vI (bi (rwm (n, k, sz, ce) (n, k, sz', ce') w m))) ∧ ∀ a, a ≠ 177 → a ≠ 178 → M' a = M a) := by
  have b1 := hW.1
  have b2 := hW.2.1
  have b3 := hW2.2.1
  refine CT.ofWP (by decide +kernel) (Nat.le_of_ble_eq_true rfl) ?_
  show WP sc0 2 m_X8_areSameRows 0 [vR 167, vI ((i : Nat) : Int), vI ((m : Nat) : Int), vU, vU, vU, vU] [] M (fun z M' => z = some (vI (bi (rwm (n, k, sz, ce) (n, k, sz', ce') w m))) ∧ ∀ a, a ≠ 177 → a ≠ 178 → M' a = M a)
  refine WP.iconst dX8_areSameRows_0 ?_
  refine WP.istore_n (lt := [vR 167, vI ((i : Nat) : Int), vI ((m : Nat) : Int), vI (0 : Int), vU, vU, vU]) dX8_areSameRows_1 (by decide) rfl ?_
  have L2 : ∀ (n9 : Nat) (r : Nat) (M1 : Mem) (hr : r ≤ n) (hF1 : ∀ a, a ≠ 177 → a ≠ 178 → M1 a = M a) (hD1 : ∀ q, q < r → M1 177 q = (((cd4 (fun y9 => imo (w y9) (ce q y9)) m) : Nat) : Int) ∧ M1 178 q = (((cd4 (fun y9 => ce' q (w y9 / 256)) m) : Nat) : Int)), n - r < n9 → WP sc0 2 m_X8_areSameRows 2 [vR 167, vI ((i : Nat) : Int), vI ((m : Nat) : Int), vI ((r : Nat) : Int), vU, vU, vU] [] M1 (fun z M' => z = some (vI (bi (rwm (n, k, sz, ce) (n, k, sz', ce') w m))) ∧ ∀ a, a ≠ 177 → a ≠ 178 → M' a = M a) := by
    intro n9
    induction n9 with
    | zero =>
      intro r M1 hr hF1 hD1 hm9
      exact absurd hm9 (Nat.not_lt_zero _)
    | succ n9 ih2 =>
      intro r M1 hr hF1 hD1 hm9
      have hA1 : BX (M1 168) n k sz ce := by rw [hF1 168 (by decide) (by decide)]; exact hA
      refine WP.iload_n dX8_areSameRows_2 rfl ?_
      refine WP.aload_n dX8_areSameRows_3 rfl ?_
      refine WP.getR (y := 168) dX8_areSameRows_4 fl_X8_7 (rfl) (by decide) (rfl) ?_
      refine WP.iconst dX8_areSameRows_7 ?_
      refine WP.iaload (y := 0) (x := ((n : Nat) : Int)) dX8_areSameRows_8 (rfl) (by omega) (by omega) (hA1.1) ?_
      refine WP.icmp_ge (tgt := 122) dX8_areSameRows_9 (by decide) (by omega) (by omega) (fun h9 => ?_) (fun h9 => ?_)
      · skip
        have hrn : r = n := by omega
        rw [hrn] at hD1
        have hcA : ∀ q p, ((cd4 (fun y9 => imo (w y9) (ce q y9)) m) = (cd4 (fun y9 => imo (w y9) (ce p y9)) m) ↔ ∀ c, c < m → imo (w c) (ce q c) = imo (w c) (ce p c)) := fun q p => cd4_inj (fun c _ => ⟨imo_4 _ _, imo_4 _ _⟩)
        have hcB : ∀ q p, q < n → ((cd4 (fun y9 => ce' q (w y9 / 256)) m) = (cd4 (fun y9 => imo (w y9) (ce p y9)) m) ↔ ∀ c, c < m → ce' q (w c / 256) = imo (w c) (ce p c)) := fun q p hq => cd4_inj (fun c hc => ⟨by
          obtain ⟨wv1, wv2, wv3⟩ := hw c (by omega)
          have := hW2.2.2.2 q hq (w c / 256) (by omega)
          have := h4 c (by omega)
          omega, imo_4 _ _⟩)
        have hlA : ∀ q, (cd4 (fun y9 => imo (w y9) (ce q y9)) m) < 4 ^ 7 := fun q => Nat.lt_of_lt_of_le (cd4_lt (fun c _ => imo_4 _ _)) (Nat.pow_le_pow_right (by decide) (by omega))
        have hlB : ∀ q, q < n → (cd4 (fun y9 => ce' q (w y9 / 256)) m) < 4 ^ 7 := fun q hq => Nat.lt_of_lt_of_le (cd4_lt (fun c hc => by
          obtain ⟨wv1, wv2, wv3⟩ := hw c (by omega)
          have := hW2.2.2.2 q hq (w c / 256) (by omega)
          have := h4 c (by omega)
          omega)) (Nat.pow_le_pow_right (by decide) (by omega))
        have h47 : 4 ^ 7 = 16384 := rfl
        refine WP.iconst dX8_areSameRows_122 ?_
        refine WP.istore_n (lt := [vR 167, vI ((i : Nat) : Int), vI ((m : Nat) : Int), vI (0 : Int), vU, vU, vU]) dX8_areSameRows_123 (by decide) rfl ?_
        have L124 : ∀ (n9 : Nat) (p : Nat) (hp : p ≤ n) (hok : ∀ a, a < p → cn (fun y9 => ∀ c, c < m → imo (w c) (ce y9 c) = imo (w c) (ce a c)) n = cn (fun y9 => ∀ c, c < m → ce' y9 (w c / 256) = imo (w c) (ce a c)) n), n - p < n9 → WP sc0 2 m_X8_areSameRows 124 [vR 167, vI ((i : Nat) : Int), vI ((m : Nat) : Int), vI ((p : Nat) : Int), vU, vU, vU] [] M1 (fun z M' => z = some (vI (bi (rwm (n, k, sz, ce) (n, k, sz', ce') w m))) ∧ ∀ a, a ≠ 177 → a ≠ 178 → M' a = M a) := by
          intro n9
          induction n9 with
          | zero =>
            intro p hp hok hm9
            exact absurd hm9 (Nat.not_lt_zero _)
          | succ n9 ih124 =>
            intro p hp hok hm9
            refine WP.iload_n dX8_areSameRows_124 rfl ?_
            refine WP.aload_n dX8_areSameRows_125 rfl ?_
            refine WP.getR (y := 168) dX8_areSameRows_126 fl_X8_7 (rfl) (by decide) (rfl) ?_
            refine WP.iconst dX8_areSameRows_129 ?_
            refine WP.iaload (y := 0) (x := ((n : Nat) : Int)) dX8_areSameRows_130 (rfl) (by omega) (by omega) (hA1.1) ?_
            refine WP.icmp_ge (tgt := 227) dX8_areSameRows_131 (by decide) (by omega) (by omega) (fun h131 => ?_) (fun h131 => ?_)
            · skip
              refine WP.iconst dX8_areSameRows_227 ?_
              refine WP.zret dX8_areSameRows_228 rfl (by decide) ?_
              exact ⟨congrArg some (congrArg vI (bi_t (fun a (ha : a < n) => hok a (by omega))).symm), hF1⟩
            · skip
              refine WP.iconst dX8_areSameRows_134 ?_
              refine WP.istore (lt := [vR 167, vI ((i : Nat) : Int), vI ((m : Nat) : Int), vI ((p : Nat) : Int), vI (0 : Int), vU, vU]) dX8_areSameRows_135 (by decide) rfl ?_
              refine WP.iconst dX8_areSameRows_137 ?_
              refine WP.istore (lt := [vR 167, vI ((i : Nat) : Int), vI ((m : Nat) : Int), vI ((p : Nat) : Int), vI (0 : Int), vI (0 : Int), vU]) dX8_areSameRows_138 (by decide) rfl ?_
              refine WP.iconst dX8_areSameRows_140 ?_
              refine WP.istore (lt := [vR 167, vI ((i : Nat) : Int), vI ((m : Nat) : Int), vI ((p : Nat) : Int), vI (0 : Int), vI (0 : Int), vI (0 : Int)]) dX8_areSameRows_141 (by decide) rfl ?_
              have L143 : ∀ (n9 : Nat) (q : Nat) (hq : q ≤ n), n - q < n9 → WP sc0 2 m_X8_areSameRows 143 [vR 167, vI ((i : Nat) : Int), vI ((m : Nat) : Int), vI ((p : Nat) : Int), vI ((cn (fun y9 => ∀ c, c < m → imo (w c) (ce y9 c) = imo (w c) (ce p c)) q : Nat) : Int), vI ((cn (fun y9 => ∀ c, c < m → ce' y9 (w c / 256) = imo (w c) (ce p c)) q : Nat) : Int), vI ((q : Nat) : Int)] [] M1 (fun z M' => z = some (vI (bi (rwm (n, k, sz, ce) (n, k, sz', ce') w m))) ∧ ∀ a, a ≠ 177 → a ≠ 178 → M' a = M a) := by
                intro n9
                induction n9 with
                | zero =>
                  intro q hq hm9
                  exact absurd hm9 (Nat.not_lt_zero _)
                | succ n9 ih143 =>
                  intro q hq hm9
                  have hc1 := cn_le (fun y9 => ∀ c, c < m → imo (w c) (ce y9 c) = imo (w c) (ce p c)) q
                  have hc2 := cn_le (fun y9 => ∀ c, c < m → ce' y9 (w c / 256) = imo (w c) (ce p c)) q
                  refine WP.iload dX8_areSameRows_143 rfl ?_
                  refine WP.aload_n dX8_areSameRows_145 rfl ?_
                  refine WP.getR (y := 168) dX8_areSameRows_146 fl_X8_7 (rfl) (by decide) (rfl) ?_
                  refine WP.iconst dX8_areSameRows_149 ?_
                  refine WP.iaload (y := 0) (x := ((n : Nat) : Int)) dX8_areSameRows_150 (rfl) (by omega) (by omega) (hA1.1) ?_
                  refine WP.icmp_ge (tgt := 212) dX8_areSameRows_151 (by decide) (by omega) (by omega) (fun h151 => ?_) (fun h151 => ?_)
                  · skip
                    refine WP.iload dX8_areSameRows_212 rfl ?_
                    refine WP.iload dX8_areSameRows_214 rfl ?_
                    refine WP.icmp_eq (tgt := 221) dX8_areSameRows_216 (by decide) (by omega) (by omega) (fun h216 => ?_) (fun h216 => ?_)
                    · skip
                      refine WP.iinc (lt := [vR 167, vI ((i : Nat) : Int), vI ((m : Nat) : Int), vI (((p : Nat) : Int) + 1), vI ((cn (fun y9 => ∀ c, c < m → imo (w c) (ce y9 c) = imo (w c) (ce p c)) q : Nat) : Int), vI ((cn (fun y9 => ∀ c, c < m → ce' y9 (w c / 256) = imo (w c) (ce p c)) q : Nat) : Int), vI ((q : Nat) : Int)]) dX8_areSameRows_221 rfl (by decide) rfl ?_
                      refine WP.goto (tgt := 124) dX8_areSameRows_224 (by decide) ?_
                      refine WP.fgt (lt := [vR 167, vI ((i : Nat) : Int), vI ((m : Nat) : Int), vI (((p + 1) : Nat) : Int), vU, vU, vU]) ⟨Or.inr rfl, Or.inr rfl, Or.inr rfl, Or.inr (congrArg vI (by omega)), Or.inl rfl, Or.inl rfl, Or.inl rfl, trivial⟩ ?_
                      exact ih124 (p + 1) (by omega) (fun a ha => by
                        by_cases e9 : a = p
                        · rw [e9, ← show q = n by omega]; omega
                        · exact hok a (by omega)) (by omega)
                    · skip
                      refine WP.iconst dX8_areSameRows_219 ?_
                      refine WP.zret dX8_areSameRows_220 rfl (by decide) ?_
                      exact ⟨congrArg some (congrArg vI (bi_f (fun z => by
                        have h9 : cn (fun y9 => ∀ c, c < m → imo (w c) (ce y9 c) = imo (w c) (ce p c)) n = cn (fun y9 => ∀ c, c < m → ce' y9 (w c / 256) = imo (w c) (ce p c)) n := z p (show p < n by omega)
                        rw [← show q = n by omega] at h9
                        omega)).symm), hF1⟩
                  · skip
                    have l1 := hlA p
                    have l2 := hlA q
                    have l3 := hlB q (by omega)
                    refine WP.iload dX8_areSameRows_154 rfl ?_
                    refine WP.aload_n dX8_areSameRows_156 rfl ?_
                    refine WP.getR (y := 177) dX8_areSameRows_157 fl_X8_37 (rfl) (by decide) (rfl) ?_
                    refine WP.iload dX8_areSameRows_160 rfl ?_
                    refine WP.iaload (y := q) (x := (((cd4 (fun y9 => imo (w y9) (ce q y9)) m) : Nat) : Int)) dX8_areSameRows_162 (rfl) (by omega) (by omega) ((hD1 q (by omega)).1) ?_
                    refine WP.aload_n dX8_areSameRows_163 rfl ?_
                    refine WP.getR (y := 177) dX8_areSameRows_164 fl_X8_37 (rfl) (by decide) (rfl) ?_
                    refine WP.iload_n dX8_areSameRows_167 rfl ?_
                    refine WP.iaload (y := p) (x := (((cd4 (fun y9 => imo (w y9) (ce p y9)) m) : Nat) : Int)) dX8_areSameRows_168 (rfl) (by omega) (by omega) ((hD1 p (by omega)).1) ?_
                    refine WP.icmp_ne (tgt := 176) dX8_areSameRows_169 (by decide) (by omega) (by omega) (fun h169 => ?_) (fun h169 => ?_)
                    · skip
                      have q169 : cn (fun y9 => ∀ c, c < m → imo (w c) (ce y9 c) = imo (w c) (ce p c)) (q + 1) = cn (fun y9 => ∀ c, c < m → imo (w c) (ce y9 c) = imo (w c) (ce p c)) q := cn_f (p := (fun y9 => ∀ c, c < m → imo (w c) (ce y9 c) = imo (w c) (ce p c))) (fun z => by have := (hcA q p).mpr z; omega)
                      refine WP.iconst dX8_areSameRows_176 ?_
                      refine WP.iadd dX8_areSameRows_177 ?_
                      refine WP.istore (lt := [vR 167, vI ((i : Nat) : Int), vI ((m : Nat) : Int), vI ((p : Nat) : Int), vI (((cn (fun y9 => ∀ c, c < m → imo (w c) (ce y9 c) = imo (w c) (ce p c)) q : Nat) : Int) + (0 : Int)), vI ((cn (fun y9 => ∀ c, c < m → ce' y9 (w c / 256) = imo (w c) (ce p c)) q : Nat) : Int), vI ((q : Nat) : Int)]) dX8_areSameRows_178 (by decide) rfl ?_
                      refine WP.iload dX8_areSameRows_180 rfl ?_
                      refine WP.aload_n dX8_areSameRows_182 rfl ?_
                      refine WP.getR (y := 178) dX8_areSameRows_183 fl_X8_40 (rfl) (by decide) (rfl) ?_
                      refine WP.iload dX8_areSameRows_186 rfl ?_
                      refine WP.iaload (y := q) (x := (((cd4 (fun y9 => ce' q (w y9 / 256)) m) : Nat) : Int)) dX8_areSameRows_188 (rfl) (by omega) (by omega) ((hD1 q (by omega)).2) ?_
                      refine WP.aload_n dX8_areSameRows_189 rfl ?_
                      refine WP.getR (y := 177) dX8_areSameRows_190 fl_X8_37 (rfl) (by decide) (rfl) ?_
                      refine WP.iload_n dX8_areSameRows_193 rfl ?_
                      refine WP.iaload (y := p) (x := (((cd4 (fun y9 => imo (w y9) (ce p y9)) m) : Nat) : Int)) dX8_areSameRows_194 (rfl) (by omega) (by omega) ((hD1 p (by omega)).1) ?_
                      refine WP.icmp_ne (tgt := 202) dX8_areSameRows_195 (by decide) (by omega) (by omega) (fun h195 => ?_) (fun h195 => ?_)
                      · skip
                        have q195 : cn (fun y9 => ∀ c, c < m → ce' y9 (w c / 256) = imo (w c) (ce p c)) (q + 1) = cn (fun y9 => ∀ c, c < m → ce' y9 (w c / 256) = imo (w c) (ce p c)) q := cn_f (p := (fun y9 => ∀ c, c < m → ce' y9 (w c / 256) = imo (w c) (ce p c))) (fun z => by have := (hcB q p (by omega)).mpr z; omega)
                        refine WP.iconst dX8_areSameRows_202 ?_
                        refine WP.iadd dX8_areSameRows_203 ?_
                        refine WP.istore (lt := [vR 167, vI ((i : Nat) : Int), vI ((m : Nat) : Int), vI ((p : Nat) : Int), vI (((cn (fun y9 => ∀ c, c < m → imo (w c) (ce y9 c) = imo (w c) (ce p c)) q : Nat) : Int) + (0 : Int)), vI (((cn (fun y9 => ∀ c, c < m → ce' y9 (w c / 256) = imo (w c) (ce p c)) q : Nat) : Int) + (0 : Int)), vI ((q : Nat) : Int)]) dX8_areSameRows_204 (by decide) rfl ?_
                        refine WP.iinc (lt := [vR 167, vI ((i : Nat) : Int), vI ((m : Nat) : Int), vI ((p : Nat) : Int), vI (((cn (fun y9 => ∀ c, c < m → imo (w c) (ce y9 c) = imo (w c) (ce p c)) q : Nat) : Int) + (0 : Int)), vI (((cn (fun y9 => ∀ c, c < m → ce' y9 (w c / 256) = imo (w c) (ce p c)) q : Nat) : Int) + (0 : Int)), vI (((q : Nat) : Int) + 1)]) dX8_areSameRows_206 rfl (by decide) rfl ?_
                        refine WP.goto (tgt := 143) dX8_areSameRows_209 (by decide) ?_
                        refine WP.fgt (lt := [vR 167, vI ((i : Nat) : Int), vI ((m : Nat) : Int), vI ((p : Nat) : Int), vI ((cn (fun y9 => ∀ c, c < m → imo (w c) (ce y9 c) = imo (w c) (ce p c)) (q + 1) : Nat) : Int), vI ((cn (fun y9 => ∀ c, c < m → ce' y9 (w c / 256) = imo (w c) (ce p c)) (q + 1) : Nat) : Int), vI (((q + 1) : Nat) : Int)]) ⟨Or.inr rfl, Or.inr rfl, Or.inr rfl, Or.inr rfl, Or.inr (congrArg vI (by rw [q169]; omega)), Or.inr (congrArg vI (by rw [q195]; omega)), Or.inr (congrArg vI (by omega)), trivial⟩ ?_
                        exact ih143 (q + 1) (by omega) (by omega)
                      · skip
                        have q195 : cn (fun y9 => ∀ c, c < m → ce' y9 (w c / 256) = imo (w c) (ce p c)) (q + 1) = cn (fun y9 => ∀ c, c < m → ce' y9 (w c / 256) = imo (w c) (ce p c)) q + 1 := cn_t (p := (fun y9 => ∀ c, c < m → ce' y9 (w c / 256) = imo (w c) (ce p c))) ((hcB q p (by omega)).mp (by omega))
                        refine WP.iconst dX8_areSameRows_198 ?_
                        refine WP.goto (tgt := 203) dX8_areSameRows_199 (by decide) ?_
                        refine WP.iadd dX8_areSameRows_203 ?_
                        refine WP.istore (lt := [vR 167, vI ((i : Nat) : Int), vI ((m : Nat) : Int), vI ((p : Nat) : Int), vI (((cn (fun y9 => ∀ c, c < m → imo (w c) (ce y9 c) = imo (w c) (ce p c)) q : Nat) : Int) + (0 : Int)), vI (((cn (fun y9 => ∀ c, c < m → ce' y9 (w c / 256) = imo (w c) (ce p c)) q : Nat) : Int) + (1 : Int)), vI ((q : Nat) : Int)]) dX8_areSameRows_204 (by decide) rfl ?_
                        refine WP.iinc (lt := [vR 167, vI ((i : Nat) : Int), vI ((m : Nat) : Int), vI ((p : Nat) : Int), vI (((cn (fun y9 => ∀ c, c < m → imo (w c) (ce y9 c) = imo (w c) (ce p c)) q : Nat) : Int) + (0 : Int)), vI (((cn (fun y9 => ∀ c, c < m → ce' y9 (w c / 256) = imo (w c) (ce p c)) q : Nat) : Int) + (1 : Int)), vI (((q : Nat) : Int) + 1)]) dX8_areSameRows_206 rfl (by decide) rfl ?_
                        refine WP.goto (tgt := 143) dX8_areSameRows_209 (by decide) ?_
                        refine WP.fgt (lt := [vR 167, vI ((i : Nat) : Int), vI ((m : Nat) : Int), vI ((p : Nat) : Int), vI ((cn (fun y9 => ∀ c, c < m → imo (w c) (ce y9 c) = imo (w c) (ce p c)) (q + 1) : Nat) : Int), vI ((cn (fun y9 => ∀ c, c < m → ce' y9 (w c / 256) = imo (w c) (ce p c)) (q + 1) : Nat) : Int), vI (((q + 1) : Nat) : Int)]) ⟨Or.inr rfl, Or.inr rfl, Or.inr rfl, Or.inr rfl, Or.inr (congrArg vI (by rw [q169]; omega)), Or.inr (congrArg vI (by rw [q195]; omega)), Or.inr (congrArg vI (by omega)), trivial⟩ ?_
                        exact ih143 (q + 1) (by omega) (by omega)
                    · skip
                      have q169 : cn (fun y9 => ∀ c, c < m → imo (w c) (ce y9 c) = imo (w c) (ce p c)) (q + 1) = cn (fun y9 => ∀ c, c < m → imo (w c) (ce y9 c) = imo (w c) (ce p c)) q + 1 := cn_t (p := (fun y9 => ∀ c, c < m → imo (w c) (ce y9 c) = imo (w c) (ce p c))) ((hcA q p).mp (by omega))
                      refine WP.iconst dX8_areSameRows_172 ?_
                      refine WP.goto (tgt := 177) dX8_areSameRows_173 (by decide) ?_
                      refine WP.iadd dX8_areSameRows_177 ?_
                      refine WP.istore (lt := [vR 167, vI ((i : Nat) : Int), vI ((m : Nat) : Int), vI ((p : Nat) : Int), vI (((cn (fun y9 => ∀ c, c < m → imo (w c) (ce y9 c) = imo (w c) (ce p c)) q : Nat) : Int) + (1 : Int)), vI ((cn (fun y9 => ∀ c, c < m → ce' y9 (w c / 256) = imo (w c) (ce p c)) q : Nat) : Int), vI ((q : Nat) : Int)]) dX8_areSameRows_178 (by decide) rfl ?_
                      refine WP.iload dX8_areSameRows_180 rfl ?_
                      refine WP.aload_n dX8_areSameRows_182 rfl ?_
                      refine WP.getR (y := 178) dX8_areSameRows_183 fl_X8_40 (rfl) (by decide) (rfl) ?_
                      refine WP.iload dX8_areSameRows_186 rfl ?_
                      refine WP.iaload (y := q) (x := (((cd4 (fun y9 => ce' q (w y9 / 256)) m) : Nat) : Int)) dX8_areSameRows_188 (rfl) (by omega) (by omega) ((hD1 q (by omega)).2) ?_
                      refine WP.aload_n dX8_areSameRows_189 rfl ?_
                      refine WP.getR (y := 177) dX8_areSameRows_190 fl_X8_37 (rfl) (by decide) (rfl) ?_
                      refine WP.iload_n dX8_areSameRows_193 rfl ?_
                      refine WP.iaload (y := p) (x := (((cd4 (fun y9 => imo (w y9) (ce p y9)) m) : Nat) : Int)) dX8_areSameRows_194 (rfl) (by omega) (by omega) ((hD1 p (by omega)).1) ?_
                      refine WP.icmp_ne (tgt := 202) dX8_areSameRows_195 (by decide) (by omega) (by omega) (fun h195 => ?_) (fun h195 => ?_)
                      · skip
                        have q195 : cn (fun y9 => ∀ c, c < m → ce' y9 (w c / 256) = imo (w c) (ce p c)) (q + 1) = cn (fun y9 => ∀ c, c < m → ce' y9 (w c / 256) = imo (w c) (ce p c)) q := cn_f (p := (fun y9 => ∀ c, c < m → ce' y9 (w c / 256) = imo (w c) (ce p c))) (fun z => by have := (hcB q p (by omega)).mpr z; omega)
                        refine WP.iconst dX8_areSameRows_202 ?_
                        refine WP.iadd dX8_areSameRows_203 ?_
                        refine WP.istore (lt := [vR 167, vI ((i : Nat) : Int), vI ((m : Nat) : Int), vI ((p : Nat) : Int), vI (((cn (fun y9 => ∀ c, c < m → imo (w c) (ce y9 c) = imo (w c) (ce p c)) q : Nat) : Int) + (1 : Int)), vI (((cn (fun y9 => ∀ c, c < m → ce' y9 (w c / 256) = imo (w c) (ce p c)) q : Nat) : Int) + (0 : Int)), vI ((q : Nat) : Int)]) dX8_areSameRows_204 (by decide) rfl ?_
                        refine WP.iinc (lt := [vR 167, vI ((i : Nat) : Int), vI ((m : Nat) : Int), vI ((p : Nat) : Int), vI (((cn (fun y9 => ∀ c, c < m → imo (w c) (ce y9 c) = imo (w c) (ce p c)) q : Nat) : Int) + (1 : Int)), vI (((cn (fun y9 => ∀ c, c < m → ce' y9 (w c / 256) = imo (w c) (ce p c)) q : Nat) : Int) + (0 : Int)), vI (((q : Nat) : Int) + 1)]) dX8_areSameRows_206 rfl (by decide) rfl ?_
                        refine WP.goto (tgt := 143) dX8_areSameRows_209 (by decide) ?_
                        refine WP.fgt (lt := [vR 167, vI ((i : Nat) : Int), vI ((m : Nat) : Int), vI ((p : Nat) : Int), vI ((cn (fun y9 => ∀ c, c < m → imo (w c) (ce y9 c) = imo (w c) (ce p c)) (q + 1) : Nat) : Int), vI ((cn (fun y9 => ∀ c, c < m → ce' y9 (w c / 256) = imo (w c) (ce p c)) (q + 1) : Nat) : Int), vI (((q + 1) : Nat) : Int)]) ⟨Or.inr rfl, Or.inr rfl, Or.inr rfl, Or.inr rfl, Or.inr (congrArg vI (by rw [q169]; omega)), Or.inr (congrArg vI (by rw [q195]; omega)), Or.inr (congrArg vI (by omega)), trivial⟩ ?_
                        exact ih143 (q + 1) (by omega) (by omega)
                      · skip
                        have q195 : cn (fun y9 => ∀ c, c < m → ce' y9 (w c / 256) = imo (w c) (ce p c)) (q + 1) = cn (fun y9 => ∀ c, c < m → ce' y9 (w c / 256) = imo (w c) (ce p c)) q + 1 := cn_t (p := (fun y9 => ∀ c, c < m → ce' y9 (w c / 256) = imo (w c) (ce p c))) ((hcB q p (by omega)).mp (by omega))
                        refine WP.iconst dX8_areSameRows_198 ?_
                        refine WP.goto (tgt := 203) dX8_areSameRows_199 (by decide) ?_
                        refine WP.iadd dX8_areSameRows_203 ?_
                        refine WP.istore (lt := [vR 167, vI ((i : Nat) : Int), vI ((m : Nat) : Int), vI ((p : Nat) : Int), vI (((cn (fun y9 => ∀ c, c < m → imo (w c) (ce y9 c) = imo (w c) (ce p c)) q : Nat) : Int) + (1 : Int)), vI (((cn (fun y9 => ∀ c, c < m → ce' y9 (w c / 256) = imo (w c) (ce p c)) q : Nat) : Int) + (1 : Int)), vI ((q : Nat) : Int)]) dX8_areSameRows_204 (by decide) rfl ?_
                        refine WP.iinc (lt := [vR 167, vI ((i : Nat) : Int), vI ((m : Nat) : Int), vI ((p : Nat) : Int), vI (((cn (fun y9 => ∀ c, c < m → imo (w c) (ce y9 c) = imo (w c) (ce p c)) q : Nat) : Int) + (1 : Int)), vI (((cn (fun y9 => ∀ c, c < m → ce' y9 (w c / 256) = imo (w c) (ce p c)) q : Nat) : Int) + (1 : Int)), vI (((q : Nat) : Int) + 1)]) dX8_areSameRows_206 rfl (by decide) rfl ?_
                        refine WP.goto (tgt := 143) dX8_areSameRows_209 (by decide) ?_
                        refine WP.fgt (lt := [vR 167, vI ((i : Nat) : Int), vI ((m : Nat) : Int), vI ((p : Nat) : Int), vI ((cn (fun y9 => ∀ c, c < m → imo (w c) (ce y9 c) = imo (w c) (ce p c)) (q + 1) : Nat) : Int), vI ((cn (fun y9 => ∀ c, c < m → ce' y9 (w c / 256) = imo (w c) (ce p c)) (q + 1) : Nat) : Int), vI (((q + 1) : Nat) : Int)]) ⟨Or.inr rfl, Or.inr rfl, Or.inr rfl, Or.inr rfl, Or.inr (congrArg vI (by rw [q169]; omega)), Or.inr (congrArg vI (by rw [q195]; omega)), Or.inr (congrArg vI (by omega)), trivial⟩ ?_
                        exact ih143 (q + 1) (by omega) (by omega)
              refine WP.fgt (lt := [vR 167, vI ((i : Nat) : Int), vI ((m : Nat) : Int), vI ((p : Nat) : Int), vI ((cn (fun y9 => ∀ c, c < m → imo (w c) (ce y9 c) = imo (w c) (ce p c)) 0 : Nat) : Int), vI ((cn (fun y9 => ∀ c, c < m → ce' y9 (w c / 256) = imo (w c) (ce p c)) 0 : Nat) : Int), vI ((0 : Nat) : Int)]) ⟨Or.inr rfl, Or.inr rfl, Or.inr rfl, Or.inr rfl, Or.inr (congrArg vI (rfl)), Or.inr (congrArg vI (rfl)), Or.inr (congrArg vI (by omega)), trivial⟩ ?_
              exact L143 _ (0) (Nat.zero_le _) (Nat.lt_succ_self _)
        refine WP.fgt (lt := [vR 167, vI ((i : Nat) : Int), vI ((m : Nat) : Int), vI ((0 : Nat) : Int), vU, vU, vU]) ⟨Or.inr rfl, Or.inr rfl, Or.inr rfl, Or.inr (congrArg vI (by omega)), Or.inl rfl, Or.inl rfl, Or.inl rfl, trivial⟩ ?_
        exact L124 _ (0) (Nat.zero_le _) (fun a ha => absurd ha (Nat.not_lt_zero a)) (Nat.lt_succ_self _)
      · skip
        refine WP.aload_n dX8_areSameRows_12 rfl ?_
        refine WP.getR (y := 177) dX8_areSameRows_13 fl_X8_37 (rfl) (by decide) (rfl) ?_
        refine WP.iload_n dX8_areSameRows_16 rfl ?_
        refine WP.iconst dX8_areSameRows_17 ?_
        refine WP.iastore (y := r) dX8_areSameRows_18 (rfl) (by omega) (by omega) rfl ?_
        obtain ⟨M2, hM2⟩ : ∃ z, z = (mset M1 177 r (0 : Int)) := ⟨_, rfl⟩
        refine WP.eqM hM2.symm ?_
        have hO2 : ∀ a, a ≠ 177 → M2 a = M1 a := fun a ha => by rw [hM2]; exact mset_o a ha
        refine WP.aload_n dX8_areSameRows_19 rfl ?_
        refine WP.getR (y := 178) dX8_areSameRows_20 fl_X8_40 (rfl) (by decide) (rfl) ?_
        refine WP.iload_n dX8_areSameRows_23 rfl ?_
        refine WP.iconst dX8_areSameRows_24 ?_
        refine WP.iastore (y := r) dX8_areSameRows_25 (rfl) (by omega) (by omega) rfl ?_
        obtain ⟨M3, hM3⟩ : ∃ z, z = (mset M2 178 r (0 : Int)) := ⟨_, rfl⟩
        refine WP.eqM hM3.symm ?_
        have hO3 : ∀ a, a ≠ 178 → M3 a = M2 a := fun a ha => by rw [hM3]; exact mset_o a ha
        refine WP.iconst dX8_areSameRows_26 ?_
        refine WP.istore (lt := [vR 167, vI ((i : Nat) : Int), vI ((m : Nat) : Int), vI ((r : Nat) : Int), vI (0 : Int), vU, vU]) dX8_areSameRows_27 (by decide) rfl ?_
        have L29 : ∀ (n9 : Nat) (c : Nat) (M4 : Mem) (hcm : c ≤ m) (hF4 : ∀ a, a ≠ 177 → a ≠ 178 → M4 a = M a) (hP4 : ∀ q, q < r → M4 177 q = (((cd4 (fun y9 => imo (w y9) (ce q y9)) m) : Nat) : Int) ∧ M4 178 q = (((cd4 (fun y9 => ce' q (w y9 / 256)) m) : Nat) : Int)) (hE4 : M4 177 r = (((cd4 (fun y9 => imo (w y9) (ce r y9)) c) : Nat) : Int) ∧ M4 178 r = (((cd4 (fun y9 => ce' r (w y9 / 256)) c) : Nat) : Int)), m - c < n9 → WP sc0 2 m_X8_areSameRows 29 [vR 167, vI ((i : Nat) : Int), vI ((m : Nat) : Int), vI ((r : Nat) : Int), vI ((c : Nat) : Int), vU, vU] [] M4 (fun z M' => z = some (vI (bi (rwm (n, k, sz, ce) (n, k, sz', ce') w m))) ∧ ∀ a, a ≠ 177 → a ≠ 178 → M' a = M a) := by
          intro n9
          induction n9 with
          | zero =>
            intro c M4 hcm hF4 hP4 hE4 hm9
            exact absurd hm9 (Nat.not_lt_zero _)
          | succ n9 ih29 =>
            intro c M4 hcm hF4 hP4 hE4 hm9
            have hA4 : BX (M4 168) n k sz ce := by rw [hF4 168 (by decide) (by decide)]; exact hA
            refine WP.iload dX8_areSameRows_29 rfl ?_
            refine WP.iload_n dX8_areSameRows_31 rfl ?_
            refine WP.icmp_ge (tgt := 116) dX8_areSameRows_32 (by decide) (by omega) (by omega) (fun h32 => ?_) (fun h32 => ?_)
            · skip
              refine WP.iinc (lt := [vR 167, vI ((i : Nat) : Int), vI ((m : Nat) : Int), vI (((r : Nat) : Int) + 1), vI ((c : Nat) : Int), vU, vU]) dX8_areSameRows_116 rfl (by decide) rfl ?_
              refine WP.goto (tgt := 2) dX8_areSameRows_119 (by decide) ?_
              refine WP.fgt (lt := [vR 167, vI ((i : Nat) : Int), vI ((m : Nat) : Int), vI (((r + 1) : Nat) : Int), vU, vU, vU]) ⟨Or.inr rfl, Or.inr rfl, Or.inr rfl, Or.inr (congrArg vI (by omega)), Or.inl rfl, Or.inl rfl, Or.inl rfl, trivial⟩ ?_
              exact ih2 (r + 1) (M4) (by omega) (hF4) (fun q hq => by
                by_cases e9 : q = r
                · rw [e9, ← show c = m by omega]; exact hE4
                · exact hP4 q (by omega)) (by omega)
            · skip
              have hck : c < k := by omega
              obtain ⟨wv1, wv2, wv3⟩ := hw c (by omega)
              have v1 := hW.2.2.2 r (by omega) c hck
              have v2 := hW.2.2.1 c hck
              have v3 := h4 c hck
              have v4 := hW2.2.2.2 r (by omega) (w c / 256) (by omega)
              refine WP.aload_n dX8_areSameRows_35 rfl ?_
              refine WP.getR (y := 177) dX8_areSameRows_36 fl_X8_37 (rfl) (by decide) (rfl) ?_
              refine WP.iload_n dX8_areSameRows_39 rfl ?_
              refine WP.iconst dX8_areSameRows_40 ?_
              refine WP.aload_n dX8_areSameRows_41 rfl ?_
              refine WP.getR (y := 177) dX8_areSameRows_42 fl_X8_37 (rfl) (by decide) (rfl) ?_
              refine WP.iload_n dX8_areSameRows_45 rfl ?_
              refine WP.iaload (y := r) (x := (((cd4 (fun y9 => imo (w y9) (ce r y9)) c) : Nat) : Int)) dX8_areSameRows_46 (rfl) (by omega) (by omega) (hE4.1) ?_
              refine WP.imul dX8_areSameRows_47 ?_
              refine WP.aload_n dX8_areSameRows_48 rfl ?_
              refine WP.getR (y := 176) dX8_areSameRows_49 fl_X8_34 (rfl) (by decide) (rfl) ?_
              refine WP.iload dX8_areSameRows_52 rfl ?_
              refine WP.iaload (y := c) (x := ((w c : Nat) : Int)) dX8_areSameRows_54 (rfl) (by omega) (by omega) (by rw [hF4 176 (by decide) (by decide)]; exact wv1) ?_
              refine WP.sipush dX8_areSameRows_55 (by decide) ?_
              refine WP.irem dX8_areSameRows_58 (by omega) (by omega) ?_
              refine WP.eqs (st' := [vI ((w c % 256 : Nat) : Int), vI ((4 : Int) * (((cd4 (fun y9 => imo (w y9) (ce r y9)) c) : Nat) : Int)), vI ((r : Nat) : Int), vR 177]) rfl (lc (congrArg vI (by omega)) rfl) ?_
              refine WP.aload_n dX8_areSameRows_59 rfl ?_
              refine WP.iload_n dX8_areSameRows_60 rfl ?_
              refine WP.iload dX8_areSameRows_61 rfl ?_
              refine WP.callVp (as := [vI ((r : Nat) : Int), vI ((c : Nat) : Int)]) dX8_areSameRows_63 mv_X8_62 rfl (rfl) (by decide) rfl rfl (w_at (r := r) (c := c) (by omega) (by omega) (hA4.2.2.2 (r) (by omega) (c) (by omega))) rfl (Nat.le_of_ble_eq_true rfl) (by omega) ?_
              refine WP.callSp (as := [vI ((w c % 256 : Nat) : Int), vI ((ce r c : Nat) : Int)]) dX8_areSameRows_66 ms_X8_187 rfl (w_im (w := w c) (v := ce r c) (by omega)) rfl (Nat.le_of_ble_eq_true rfl) (by omega) ?_
              refine WP.iadd dX8_areSameRows_69 ?_
              refine WP.iastore (y := r) dX8_areSameRows_70 (rfl) (by omega) (by omega) rfl ?_
              obtain ⟨M5, hM5⟩ : ∃ z, z = (mset M4 177 r (((4 : Int) * (((cd4 (fun y9 => imo (w y9) (ce r y9)) c) : Nat) : Int)) + ((imo (w c) (ce r c) : Nat) : Int))) := ⟨_, rfl⟩
              refine WP.eqM hM5.symm ?_
              have hO5 : ∀ a, a ≠ 177 → M5 a = M4 a := fun a ha => by rw [hM5]; exact mset_o a ha
              refine WP.aload_n dX8_areSameRows_71 rfl ?_
              refine WP.getR (y := 178) dX8_areSameRows_72 fl_X8_40 (rfl) (by decide) (rfl) ?_
              refine WP.iload_n dX8_areSameRows_75 rfl ?_
              refine WP.iconst dX8_areSameRows_76 ?_
              refine WP.aload_n dX8_areSameRows_77 rfl ?_
              refine WP.getR (y := 178) dX8_areSameRows_78 fl_X8_40 (rfl) (by decide) (rfl) ?_
              refine WP.iload_n dX8_areSameRows_81 rfl ?_
              refine WP.iaload (y := r) (x := (((cd4 (fun y9 => ce' r (w y9 / 256)) c) : Nat) : Int)) dX8_areSameRows_82 (rfl) (by omega) (by omega) (by rw [hO5 178 (by decide)]; exact hE4.2) ?_
              refine WP.imul dX8_areSameRows_83 ?_
              refine WP.aload_n dX8_areSameRows_84 rfl ?_
              refine WP.iload_n dX8_areSameRows_85 rfl ?_
              refine WP.bipush dX8_areSameRows_86 (by decide) ?_
              refine WP.bipush dX8_areSameRows_88 (by decide) ?_
              refine WP.iload_n dX8_areSameRows_90 rfl ?_
              refine WP.imul dX8_areSameRows_91 ?_
              refine WP.iadd dX8_areSameRows_92 ?_
              refine WP.aload_n dX8_areSameRows_93 rfl ?_
              refine WP.getR (y := 176) dX8_areSameRows_94 fl_X8_34 (rfl) (by decide) (rfl) ?_
              refine WP.iload dX8_areSameRows_97 rfl ?_
              refine WP.iaload (y := c) (x := ((w c : Nat) : Int)) dX8_areSameRows_99 (rfl) (by omega) (by omega) (by rw [hO5 176 (by decide), hF4 176 (by decide) (by decide)]; exact wv1) ?_
              refine WP.sipush dX8_areSameRows_100 (by decide) ?_
              refine WP.idiv dX8_areSameRows_103 (by omega) (by omega) ?_
              refine WP.eqs (st' := [vI ((w c / 256 : Nat) : Int), vI ((9 : Int) + ((7 : Int) * ((r : Nat) : Int))), vI ((i : Nat) : Int), vR 167, vI ((4 : Int) * (((cd4 (fun y9 => ce' r (w y9 / 256)) c) : Nat) : Int)), vI ((r : Nat) : Int), vR 178]) rfl (lc (congrArg vI (by omega)) rfl) ?_
              refine WP.iadd dX8_areSameRows_104 ?_
              refine WP.eqs (st' := [vI ((9 + 7 * r + w c / 256 : Nat) : Int), vI ((i : Nat) : Int), vR 167, vI ((4 : Int) * (((cd4 (fun y9 => ce' r (w y9 / 256)) c) : Nat) : Int)), vI ((r : Nat) : Int), vR 178]) rfl (lc (congrArg vI (by omega)) (lc (rfl) (rfl))) ?_
              refine WP.callVp (as := [vI ((i : Nat) : Int), vI ((9 + 7 * r + w c / 256 : Nat) : Int)]) dX8_areSameRows_105 mv_X8_101 rfl (rfl) (by decide) rfl rfl (w_ofImage (i := i) (j := 9 + 7 * r + w c / 256) (x := ((ce' r (w c / 256) : Nat) : Int)) hi (by omega) (by rw [hO5 170 (by decide), hF4 170 (by decide) (by decide)]; exact hB.2.2.2 r (by omega) (w c / 256) (by omega))) rfl (Nat.le_of_ble_eq_true rfl) (by omega) ?_
              refine WP.iadd dX8_areSameRows_108 ?_
              refine WP.iastore (y := r) dX8_areSameRows_109 (rfl) (by omega) (by omega) rfl ?_
              obtain ⟨M6, hM6⟩ : ∃ z, z = (mset M5 178 r (((4 : Int) * (((cd4 (fun y9 => ce' r (w y9 / 256)) c) : Nat) : Int)) + ((ce' r (w c / 256) : Nat) : Int))) := ⟨_, rfl⟩
              refine WP.eqM hM6.symm ?_
              have hO6 : ∀ a, a ≠ 178 → M6 a = M5 a := fun a ha => by rw [hM6]; exact mset_o a ha
              refine WP.iinc (lt := [vR 167, vI ((i : Nat) : Int), vI ((m : Nat) : Int), vI ((r : Nat) : Int), vI (((c : Nat) : Int) + 1), vU, vU]) dX8_areSameRows_110 rfl (by decide) rfl ?_
              refine WP.goto (tgt := 29) dX8_areSameRows_113 (by decide) ?_
              refine WP.fgt (lt := [vR 167, vI ((i : Nat) : Int), vI ((m : Nat) : Int), vI ((r : Nat) : Int), vI (((c + 1) : Nat) : Int), vU, vU]) ⟨Or.inr rfl, Or.inr rfl, Or.inr rfl, Or.inr rfl, Or.inr (congrArg vI (by omega)), Or.inl rfl, Or.inl rfl, trivial⟩ ?_
              exact ih29 (c + 1) (M6) (by omega) (fun a i1 i2 => by rw [hO6 a i2, hO5 a i1]; exact hF4 a i1 i2) (fun q hq => ⟨by rw [hO6 177 (by decide), hM5, mset_n (Or.inr (by omega))]; exact (hP4 q hq).1, by rw [hM6, mset_n (Or.inr (by omega)), hO5 178 (by decide)]; exact (hP4 q hq).2⟩) (⟨by rw [hO6 177 (by decide), hM5, mset_s, cd4]; omega, by rw [hM6, mset_s, cd4]; omega⟩) (by omega)
        refine WP.fgt (lt := [vR 167, vI ((i : Nat) : Int), vI ((m : Nat) : Int), vI ((r : Nat) : Int), vI ((0 : Nat) : Int), vU, vU]) ⟨Or.inr rfl, Or.inr rfl, Or.inr rfl, Or.inr rfl, Or.inr (congrArg vI (by omega)), Or.inl rfl, Or.inl rfl, trivial⟩ ?_
        exact L29 _ (0) (M3) (Nat.zero_le _) (fun a i1 i2 => by rw [hO3 a i2, hO2 a i1]; exact hF1 a i1 i2) (fun q hq => ⟨by rw [hO3 177 (by decide), hM2, mset_n (Or.inr (by omega))]; exact (hD1 q hq).1, by rw [hM3, mset_n (Or.inr (by omega)), hO2 178 (by decide)]; exact (hD1 q hq).2⟩) (⟨by rw [hO3 177 (by decide), hM2, mset_s]; rfl, by rw [hM3, mset_s]; rfl⟩) (Nat.lt_succ_self _)
  refine WP.fgt (lt := [vR 167, vI ((i : Nat) : Int), vI ((m : Nat) : Int), vI ((0 : Nat) : Int), vU, vU, vU]) ⟨Or.inr rfl, Or.inr rfl, Or.inr rfl, Or.inr (congrArg vI (by omega)), Or.inl rfl, Or.inl rfl, Or.inl rfl, trivial⟩ ?_
  exact L2 _ (0) (M) (Nat.zero_le _) (fun _ _ _ => rfl) (fun q hq => absurd hq (Nat.not_lt_zero q)) (Nat.lt_succ_self _)
set_option maxHeartbeats 4000000 in
set_option maxRecDepth 20000 in
theorem w_fits {M : Mem} {i n k : Nat} {sz sz' : Nat → Nat} {ce ce' : Nat → Nat → Nat} {w : Nat → Nat} (hi : i < 2) (hA : BX (M 168) n k sz ce) (hB : BX (fun j => M 170 (261 * i + j)) n k sz' ce') (hW : Wf n k sz ce) (hW2 : Wf n k sz' ce') (hn : n ≤ 18) (h4 : ∀ c, c < k → sz c ≤ 4) {c : Nat} (hc : c < k) (hw : ∀ b, b ≤ c → M 176 b = (w b : Int) ∧ w b < 256 * k) (hpz : ∀ b, b < c → sz' (w b / 256) = sz b) : CT 3 m_X8_fits [vR 167, vI ((i : Nat) : Int), vI ((c : Nat) : Int)] M (fun z M' => z = some (vI (bi (fitsP (n, k, sz, ce) (n, k, sz', ce') w c))) ∧ ∀ a, a ≠ 177 → a ≠ 178 → M' a = M a) := by
  have b1 := hW.1
  have b2 := hW.2.1
  have b3 := hW2.2.1
  have w1 := hW.2.2.1 c hc
  have w4 := h4 c hc
  have wv := (hw c (Nat.le_refl _)).2
  refine CT.ofWP (by decide +kernel) (Nat.le_of_ble_eq_true rfl) ?_
  show WP sc0 3 m_X8_fits 0 [vR 167, vI ((i : Nat) : Int), vI ((c : Nat) : Int), vU] [] M (fun z M' => z = some (vI (bi (fitsP (n, k, sz, ce) (n, k, sz', ce') w c))) ∧ ∀ a, a ≠ 177 → a ≠ 178 → M' a = M a)
  refine WP.aload_n dX8_fits_0 rfl ?_
  refine WP.getR (y := 168) dX8_fits_1 fl_X8_7 (rfl) (by decide) (rfl) ?_
  refine WP.iconst dX8_fits_4 ?_
  refine WP.iload_n dX8_fits_5 rfl ?_
  refine WP.iadd dX8_fits_6 ?_
  refine WP.iaload (y := (2 + c)) (x := ((sz c : Nat) : Int)) dX8_fits_7 (rfl) (by omega) (by omega) (hA.2.2.1 c hc) ?_
  refine WP.istore_n (lt := [vR 167, vI ((i : Nat) : Int), vI ((c : Nat) : Int), vI ((sz c : Nat) : Int)]) dX8_fits_8 (by decide) rfl ?_
  refine WP.aload_n dX8_fits_9 rfl ?_
  refine WP.iload_n dX8_fits_10 rfl ?_
  refine WP.iconst dX8_fits_11 ?_
  refine WP.aload_n dX8_fits_12 rfl ?_
  refine WP.getR (y := 176) dX8_fits_13 fl_X8_34 (rfl) (by decide) (rfl) ?_
  refine WP.iload_n dX8_fits_16 rfl ?_
  refine WP.iaload (y := c) (x := ((w c : Nat) : Int)) dX8_fits_17 (rfl) (by omega) (by omega) ((hw c (Nat.le_refl _)).1) ?_
  refine WP.sipush dX8_fits_18 (by decide) ?_
  refine WP.idiv dX8_fits_21 (by omega) (by omega) ?_
  refine WP.eqs (st' := [vI ((w c / 256 : Nat) : Int), vI (2 : Int), vI ((i : Nat) : Int), vR 167]) rfl (lc (congrArg vI (by omega)) rfl) ?_
  refine WP.iadd dX8_fits_22 ?_
  refine WP.eqs (st' := [vI ((2 + w c / 256 : Nat) : Int), vI ((i : Nat) : Int), vR 167]) rfl (lc (congrArg vI (by omega)) (lc (rfl) (rfl))) ?_
  refine WP.callVp (as := [vI ((i : Nat) : Int), vI ((2 + w c / 256 : Nat) : Int)]) dX8_fits_23 mv_X8_101 rfl (rfl) (by decide) rfl rfl (w_ofImage (i := i) (j := 2 + w c / 256) (x := ((sz' (w c / 256) : Nat) : Int)) hi (by omega) (hB.2.2.1 (w c / 256) (by omega))) rfl (Nat.le_of_ble_eq_true rfl) (by omega) ?_
  have v5 := hW2.2.2.1 (w c / 256) (by omega)
  refine WP.iload_n dX8_fits_26 rfl ?_
  refine WP.icmp_ne (tgt := 79) dX8_fits_27 (by decide) (by omega) (by omega) (fun h27 => ?_) (fun h27 => ?_)
  · skip
    have hbad : ¬ fitsP (n, k, sz, ce) (n, k, sz', ce') w c := fun z => by have : sz' (w c / 256) = sz c := z.1; omega
    refine WP.iconst dX8_fits_79 ?_
    refine WP.zret dX8_fits_80 rfl (by decide) ?_
    exact ⟨congrArg some (congrArg vI (bi_f hbad).symm), fun _ _ _ => rfl⟩
  · skip
    have hz : sz' (w c / 256) = sz c := by omega
    refine WP.aload_n dX8_fits_30 rfl ?_
    refine WP.aload_n dX8_fits_31 rfl ?_
    refine WP.getR (y := 176) dX8_fits_32 fl_X8_34 (rfl) (by decide) (rfl) ?_
    refine WP.iload_n dX8_fits_35 rfl ?_
    refine WP.iaload (y := c) (x := ((w c : Nat) : Int)) dX8_fits_36 (rfl) (by omega) (by omega) ((hw c (Nat.le_refl _)).1) ?_
    refine WP.sipush dX8_fits_37 (by decide) ?_
    refine WP.irem dX8_fits_40 (by omega) (by omega) ?_
    refine WP.eqs (st' := [vI ((w c % 256 : Nat) : Int), vR 167]) rfl (lc (congrArg vI (by omega)) rfl) ?_
    refine WP.iload_n dX8_fits_41 rfl ?_
    refine WP.callVp (as := [vI ((w c % 256 : Nat) : Int), vI ((sz c : Nat) : Int)]) dX8_fits_42 mv_X8_202 rfl (rfl) (by decide) rfl rfl (w_prm (w := w c) (s := sz c) w4) rfl (Nat.le_of_ble_eq_true rfl) (by omega) ?_
    refine WP.if_eq (tgt := 79) dX8_fits_45 (by decide) (bi_rng) (fun h45 => ?_) (fun h45 => ?_)
    · skip
      have hbad : ¬ fitsP (n, k, sz, ce) (n, k, sz', ce') w c := fun z => bi_0 h45 z.2.1
      refine WP.iconst dX8_fits_79 ?_
      refine WP.zret dX8_fits_80 rfl (by decide) ?_
      exact ⟨congrArg some (congrArg vI (bi_f hbad).symm), fun _ _ _ => rfl⟩
    · skip
      have hp := bi_1 h45
      refine WP.aload_n dX8_fits_48 rfl ?_
      refine WP.iload_n dX8_fits_49 rfl ?_
      refine WP.callVp (as := [vI ((c : Nat) : Int)]) dX8_fits_50 mv_X8_205 rfl (rfl) (by decide) rfl rfl (w_isTaken (k := k) (w := w) (by omega) b2 hw) rfl (Nat.le_of_ble_eq_true rfl) (by omega) ?_
      refine WP.if_ne (tgt := 79) dX8_fits_53 (by decide) (bi_rng) (fun h53 => ?_) (fun h53 => ?_)
      · skip
        have hbad : ¬ fitsP (n, k, sz, ce) (n, k, sz', ce') w c := fun z => by
          obtain ⟨b, e1, e2⟩ := bi_1 h53
          exact z.2.2.1 b e1 e2
        refine WP.iconst dX8_fits_79 ?_
        refine WP.zret dX8_fits_80 rfl (by decide) ?_
        exact ⟨congrArg some (congrArg vI (bi_f hbad).symm), fun _ _ _ => rfl⟩
      · skip
        have htk : ∀ b, b < c → w b / 256 ≠ w c / 256 := fun b hb e => bi_0 h53 ⟨b, hb, e⟩
        refine WP.aload_n dX8_fits_56 rfl ?_
        refine WP.iload_n dX8_fits_57 rfl ?_
        refine WP.callVp (as := [vI ((c : Nat) : Int)]) dX8_fits_58 mv_X8_208 rfl (rfl) (by decide) rfl rfl (w_alike (w := w) hi hA hB hW hW2 hn h4 hc hw hp) rfl (Nat.le_of_ble_eq_true rfl) (by omega) ?_
        refine WP.if_eq (tgt := 79) dX8_fits_61 (by decide) (bi_rng) (fun h61 => ?_) (fun h61 => ?_)
        · skip
          have hbad : ¬ fitsP (n, k, sz, ce) (n, k, sz', ce') w c := fun z => bi_0 h61 z.2.2.2.1
          refine WP.iconst dX8_fits_79 ?_
          refine WP.zret dX8_fits_80 rfl (by decide) ?_
          exact ⟨congrArg some (congrArg vI (bi_f hbad).symm), fun _ _ _ => rfl⟩
        · skip
          have hfa := bi_1 h61
          refine WP.aload_n dX8_fits_64 rfl ?_
          refine WP.iload_n dX8_fits_65 rfl ?_
          refine WP.iload_n dX8_fits_66 rfl ?_
          refine WP.iconst dX8_fits_67 ?_
          refine WP.iadd dX8_fits_68 ?_
          refine WP.eqs (st' := [vI ((c + 1 : Nat) : Int), vI ((i : Nat) : Int), vR 167]) rfl (lc (congrArg vI (by omega)) (lc (rfl) (rfl))) ?_
          refine WP.callV (as := [vI ((i : Nat) : Int), vI ((c + 1 : Nat) : Int)]) dX8_fits_69 mv_X8_211 rfl (rfl) (by decide) rfl rfl (w_sameRows (w := w) (m := c + 1) hi hA hB hW hW2 hn h4 (by omega) (fun b hb => ⟨(hw b (by omega)).1, (hw b (by omega)).2, by
            by_cases e9 : b = c
            · rw [e9]; exact hz
            · exact hpz b (by omega)⟩)) rfl (Nat.le_of_ble_eq_true rfl) (by omega) (fun r9 M1 h9 => ?_)
          obtain ⟨rfl, f1⟩ := h9
          show WP sc0 3 m_X8_fits 72 [vR 167, vI ((i : Nat) : Int), vI ((c : Nat) : Int), vI ((sz c : Nat) : Int)] [vI (bi (rwm (n, k, sz, ce) (n, k, sz', ce') w (c + 1)))] M1 (fun z M' => z = some (vI (bi (fitsP (n, k, sz, ce) (n, k, sz', ce') w c))) ∧ ∀ a, a ≠ 177 → a ≠ 178 → M' a = M a)
          refine WP.if_eq (tgt := 79) dX8_fits_72 (by decide) (bi_rng) (fun h72 => ?_) (fun h72 => ?_)
          · skip
            have hbad : ¬ fitsP (n, k, sz, ce) (n, k, sz', ce') w c := fun z => bi_0 h72 z.2.2.2.2
            refine WP.iconst dX8_fits_79 ?_
            refine WP.zret dX8_fits_80 rfl (by decide) ?_
            exact ⟨congrArg some (congrArg vI (bi_f hbad).symm), f1⟩
          · skip
            have hrw := bi_1 h72
            refine WP.iconst dX8_fits_75 ?_
            refine WP.goto (tgt := 80) dX8_fits_76 (by decide) ?_
            refine WP.zret dX8_fits_80 rfl (by decide) ?_
            exact ⟨congrArg some (congrArg vI (bi_t ⟨hz, hp, htk, hfa, hrw⟩).symm), f1⟩
