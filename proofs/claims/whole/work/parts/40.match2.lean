set_option maxHeartbeats 4000000 in
set_option maxRecDepth 20000 in
theorem c_M_same {M : Mem} {t n k : Nat} {sz sz' : Nat → Nat} {ce ce' : Nat → Nat → Nat} (ht : isT t) (hT : TX M 0 n k sz ce) (hT2 : TX M t n k sz' ce') (hW : Wf n k sz ce) (hW2 : Wf n k sz' ce') : CT 1 m_X3_haveSameSizes [vR 0, vR t] M (Rt (some (vI (bi (∀ y, 2 ≤ y → y ≤ 6 → cn (fun y9 => sz y9 = y) k = cn (fun y9 => sz' y9 = y) k)))) M) := by
  have hb := hW.2.1
  refine CT.ofWP (by decide +kernel) (Nat.le_of_ble_eq_true rfl) ?_
  show WP sc0 1 m_X3_haveSameSizes 0 [vR 0, vR t, vU, vU, vU] [] M (Rt (some (vI (bi (∀ y, 2 ≤ y → y ≤ 6 → cn (fun y9 => sz y9 = y) k = cn (fun y9 => sz' y9 = y) k)))) M)
  refine WP.iconst dX3_haveSameSizes_0 ?_
  refine WP.istore_n (lt := [vR 0, vR t, vI (2 : Int), vU, vU]) dX3_haveSameSizes_1 (by decide) rfl ?_
  have L2 : ∀ (n9 : Nat) (s : Nat) (hs : 2 ≤ s ∧ s ≤ 7) (hE : ∀ y, 2 ≤ y → y < s → cn (fun y9 => sz y9 = y) k = cn (fun y9 => sz' y9 = y) k), 7 - s < n9 → WP sc0 1 m_X3_haveSameSizes 2 [vR 0, vR t, vI ((s : Nat) : Int), vU, vU] [] M (Rt (some (vI (bi (∀ y, 2 ≤ y → y ≤ 6 → cn (fun y9 => sz y9 = y) k = cn (fun y9 => sz' y9 = y) k)))) M) := by
    intro n9
    induction n9 with
    | zero =>
      intro s hs hE hm9
      exact absurd hm9 (Nat.not_lt_zero _)
    | succ n9 ih2 =>
      intro s hs hE hm9
      refine WP.iload_n dX3_haveSameSizes_2 rfl ?_
      refine WP.bipush dX3_haveSameSizes_3 (by decide) ?_
      refine WP.icmp_gt (tgt := 78) dX3_haveSameSizes_5 (by decide) (by omega) (by omega) (fun h5 => ?_) (fun h5 => ?_)
      · skip
        refine WP.iconst dX3_haveSameSizes_78 ?_
        refine WP.zret dX3_haveSameSizes_79 rfl (by decide) ?_
        exact ⟨congrArg some (congrArg vI (bi_t (fun y h1 h2 => hE y h1 (by omega))).symm), rfl⟩
      · skip
        refine WP.iconst dX3_haveSameSizes_8 ?_
        refine WP.istore_n (lt := [vR 0, vR t, vI ((s : Nat) : Int), vI (0 : Int), vU]) dX3_haveSameSizes_9 (by decide) rfl ?_
        refine WP.iconst dX3_haveSameSizes_10 ?_
        refine WP.istore (lt := [vR 0, vR t, vI ((s : Nat) : Int), vI (0 : Int), vI (0 : Int)]) dX3_haveSameSizes_11 (by decide) rfl ?_
        have L13 : ∀ (n9 : Nat) (c : Nat) (hc : c ≤ k), k - c < n9 → WP sc0 1 m_X3_haveSameSizes 13 [vR 0, vR t, vI ((s : Nat) : Int), vI (((cn (fun y9 => sz y9 = s) c : Nat) : Int) - ((cn (fun y9 => sz' y9 = s) c : Nat) : Int)), vI ((c : Nat) : Int)] [] M (Rt (some (vI (bi (∀ y, 2 ≤ y → y ≤ 6 → cn (fun y9 => sz y9 = y) k = cn (fun y9 => sz' y9 = y) k)))) M) := by
          intro n9
          induction n9 with
          | zero =>
            intro c hc hm9
            exact absurd hm9 (Nat.not_lt_zero _)
          | succ n9 ih13 =>
            intro c hc hm9
            refine WP.iload dX3_haveSameSizes_13 rfl ?_
            refine WP.aload_n dX3_haveSameSizes_15 rfl ?_
            refine WP.getI (x := ((k : Nat) : Int)) dX3_haveSameSizes_16 fl_X3_37 (rfl) (by decide) (hT.2.1) ?_
            refine WP.icmp_ge (tgt := 66) dX3_haveSameSizes_19 (by decide) (by omega) (by omega) (fun h19 => ?_) (fun h19 => ?_)
            · skip
              refine WP.iload_n dX3_haveSameSizes_66 rfl ?_
              refine WP.if_eq (tgt := 72) dX3_haveSameSizes_67 (by decide) (by have := cn_le (fun y9 => sz y9 = s) c; have := cn_le (fun y9 => sz' y9 = s) c; omega) (fun h67 => ?_) (fun h67 => ?_)
              · skip
                refine WP.iinc (lt := [vR 0, vR t, vI (((s : Nat) : Int) + 1), vI (((cn (fun y9 => sz y9 = s) c : Nat) : Int) - ((cn (fun y9 => sz' y9 = s) c : Nat) : Int)), vI ((c : Nat) : Int)]) dX3_haveSameSizes_72 rfl (by decide) rfl ?_
                refine WP.goto (tgt := 2) dX3_haveSameSizes_75 (by decide) ?_
                refine WP.fgt (lt := [vR 0, vR t, vI (((s + 1) : Nat) : Int), vU, vU]) ⟨Or.inr rfl, Or.inr rfl, Or.inr (congrArg vI (by omega)), Or.inl rfl, Or.inl rfl, trivial⟩ ?_
                exact ih2 (s + 1) (by omega) (fun y h1 h2 => by
                  by_cases e9 : y = s
                  · rw [e9, ← show c = k by omega]; omega
                  · exact hE y h1 (by omega)) (by omega)
              · skip
                refine WP.iconst dX3_haveSameSizes_70 ?_
                refine WP.zret dX3_haveSameSizes_71 rfl (by decide) ?_
                exact ⟨congrArg some (congrArg vI (bi_f (fun z => by
                  have h9 := z s (by omega) (by omega)
                  rw [← show c = k by omega] at h9
                  omega)).symm), rfl⟩
            · skip
              have w1 := hW.2.2.1 c (by omega)
              have w2 := hW2.2.2.1 c (by omega)
              refine WP.iload_n dX3_haveSameSizes_22 rfl ?_
              refine WP.aload_n dX3_haveSameSizes_23 rfl ?_
              refine WP.getR (y := 1) dX3_haveSameSizes_24 fl_X3_63 (rfl) (by decide) (rfl) ?_
              refine WP.iload dX3_haveSameSizes_27 rfl ?_
              refine WP.iaload (y := c) (x := ((sz c : Nat) : Int)) dX3_haveSameSizes_29 (rfl) (by omega) (by omega) (hT.2.2.1 c (by omega)) ?_
              refine WP.iload_n dX3_haveSameSizes_30 rfl ?_
              refine WP.icmp_ne (tgt := 38) dX3_haveSameSizes_31 (by decide) (by omega) (by omega) (fun h31 => ?_) (fun h31 => ?_)
              · skip
                have q31 : cn (fun y9 => sz y9 = s) (c + 1) = cn (fun y9 => sz y9 = s) c := cn_f (p := (fun y9 => sz y9 = s)) (by omega)
                refine WP.iconst dX3_haveSameSizes_38 ?_
                refine WP.iadd dX3_haveSameSizes_39 ?_
                refine WP.istore_n (lt := [vR 0, vR t, vI ((s : Nat) : Int), vI ((((cn (fun y9 => sz y9 = s) c : Nat) : Int) - ((cn (fun y9 => sz' y9 = s) c : Nat) : Int)) + (0 : Int)), vI ((c : Nat) : Int)]) dX3_haveSameSizes_40 (by decide) rfl ?_
                refine WP.iload_n dX3_haveSameSizes_41 rfl ?_
                refine WP.aload_n dX3_haveSameSizes_42 rfl ?_
                refine WP.getR (y := (t + 1)) dX3_haveSameSizes_43 fl_X3_63 (shT0 ht) (by decide) (srT1 ht) ?_
                refine WP.iload dX3_haveSameSizes_46 rfl ?_
                refine WP.iaload (y := c) (x := ((sz' c : Nat) : Int)) dX3_haveSameSizes_48 (shT1 ht) (by omega) (by omega) (hT2.2.2.1 c (by omega)) ?_
                refine WP.iload_n dX3_haveSameSizes_49 rfl ?_
                refine WP.icmp_ne (tgt := 57) dX3_haveSameSizes_50 (by decide) (by omega) (by omega) (fun h50 => ?_) (fun h50 => ?_)
                · skip
                  have q49 : cn (fun y9 => sz' y9 = s) (c + 1) = cn (fun y9 => sz' y9 = s) c := cn_f (p := (fun y9 => sz' y9 = s)) (by omega)
                  refine WP.iconst dX3_haveSameSizes_57 ?_
                  refine WP.isub dX3_haveSameSizes_58 ?_
                  refine WP.istore_n (lt := [vR 0, vR t, vI ((s : Nat) : Int), vI (((((cn (fun y9 => sz y9 = s) c : Nat) : Int) - ((cn (fun y9 => sz' y9 = s) c : Nat) : Int)) + (0 : Int)) - (0 : Int)), vI ((c : Nat) : Int)]) dX3_haveSameSizes_59 (by decide) rfl ?_
                  refine WP.iinc (lt := [vR 0, vR t, vI ((s : Nat) : Int), vI (((((cn (fun y9 => sz y9 = s) c : Nat) : Int) - ((cn (fun y9 => sz' y9 = s) c : Nat) : Int)) + (0 : Int)) - (0 : Int)), vI (((c : Nat) : Int) + 1)]) dX3_haveSameSizes_60 rfl (by decide) rfl ?_
                  refine WP.goto (tgt := 13) dX3_haveSameSizes_63 (by decide) ?_
                  refine WP.fgt (lt := [vR 0, vR t, vI ((s : Nat) : Int), vI (((cn (fun y9 => sz y9 = s) (c + 1) : Nat) : Int) - ((cn (fun y9 => sz' y9 = s) (c + 1) : Nat) : Int)), vI (((c + 1) : Nat) : Int)]) ⟨Or.inr rfl, Or.inr rfl, Or.inr rfl, Or.inr (congrArg vI (by omega)), Or.inr (congrArg vI (by omega)), trivial⟩ ?_
                  exact ih13 (c + 1) (by omega) (by omega)
                · skip
                  have q49 : cn (fun y9 => sz' y9 = s) (c + 1) = cn (fun y9 => sz' y9 = s) c + 1 := cn_t (p := (fun y9 => sz' y9 = s)) (by show sz' c = s; omega)
                  refine WP.iconst dX3_haveSameSizes_53 ?_
                  refine WP.goto (tgt := 58) dX3_haveSameSizes_54 (by decide) ?_
                  refine WP.isub dX3_haveSameSizes_58 ?_
                  refine WP.istore_n (lt := [vR 0, vR t, vI ((s : Nat) : Int), vI (((((cn (fun y9 => sz y9 = s) c : Nat) : Int) - ((cn (fun y9 => sz' y9 = s) c : Nat) : Int)) + (0 : Int)) - (1 : Int)), vI ((c : Nat) : Int)]) dX3_haveSameSizes_59 (by decide) rfl ?_
                  refine WP.iinc (lt := [vR 0, vR t, vI ((s : Nat) : Int), vI (((((cn (fun y9 => sz y9 = s) c : Nat) : Int) - ((cn (fun y9 => sz' y9 = s) c : Nat) : Int)) + (0 : Int)) - (1 : Int)), vI (((c : Nat) : Int) + 1)]) dX3_haveSameSizes_60 rfl (by decide) rfl ?_
                  refine WP.goto (tgt := 13) dX3_haveSameSizes_63 (by decide) ?_
                  refine WP.fgt (lt := [vR 0, vR t, vI ((s : Nat) : Int), vI (((cn (fun y9 => sz y9 = s) (c + 1) : Nat) : Int) - ((cn (fun y9 => sz' y9 = s) (c + 1) : Nat) : Int)), vI (((c + 1) : Nat) : Int)]) ⟨Or.inr rfl, Or.inr rfl, Or.inr rfl, Or.inr (congrArg vI (by omega)), Or.inr (congrArg vI (by omega)), trivial⟩ ?_
                  exact ih13 (c + 1) (by omega) (by omega)
              · skip
                have q31 : cn (fun y9 => sz y9 = s) (c + 1) = cn (fun y9 => sz y9 = s) c + 1 := cn_t (p := (fun y9 => sz y9 = s)) (by show sz c = s; omega)
                refine WP.iconst dX3_haveSameSizes_34 ?_
                refine WP.goto (tgt := 39) dX3_haveSameSizes_35 (by decide) ?_
                refine WP.iadd dX3_haveSameSizes_39 ?_
                refine WP.istore_n (lt := [vR 0, vR t, vI ((s : Nat) : Int), vI ((((cn (fun y9 => sz y9 = s) c : Nat) : Int) - ((cn (fun y9 => sz' y9 = s) c : Nat) : Int)) + (1 : Int)), vI ((c : Nat) : Int)]) dX3_haveSameSizes_40 (by decide) rfl ?_
                refine WP.iload_n dX3_haveSameSizes_41 rfl ?_
                refine WP.aload_n dX3_haveSameSizes_42 rfl ?_
                refine WP.getR (y := (t + 1)) dX3_haveSameSizes_43 fl_X3_63 (shT0 ht) (by decide) (srT1 ht) ?_
                refine WP.iload dX3_haveSameSizes_46 rfl ?_
                refine WP.iaload (y := c) (x := ((sz' c : Nat) : Int)) dX3_haveSameSizes_48 (shT1 ht) (by omega) (by omega) (hT2.2.2.1 c (by omega)) ?_
                refine WP.iload_n dX3_haveSameSizes_49 rfl ?_
                refine WP.icmp_ne (tgt := 57) dX3_haveSameSizes_50 (by decide) (by omega) (by omega) (fun h50 => ?_) (fun h50 => ?_)
                · skip
                  have q49 : cn (fun y9 => sz' y9 = s) (c + 1) = cn (fun y9 => sz' y9 = s) c := cn_f (p := (fun y9 => sz' y9 = s)) (by omega)
                  refine WP.iconst dX3_haveSameSizes_57 ?_
                  refine WP.isub dX3_haveSameSizes_58 ?_
                  refine WP.istore_n (lt := [vR 0, vR t, vI ((s : Nat) : Int), vI (((((cn (fun y9 => sz y9 = s) c : Nat) : Int) - ((cn (fun y9 => sz' y9 = s) c : Nat) : Int)) + (1 : Int)) - (0 : Int)), vI ((c : Nat) : Int)]) dX3_haveSameSizes_59 (by decide) rfl ?_
                  refine WP.iinc (lt := [vR 0, vR t, vI ((s : Nat) : Int), vI (((((cn (fun y9 => sz y9 = s) c : Nat) : Int) - ((cn (fun y9 => sz' y9 = s) c : Nat) : Int)) + (1 : Int)) - (0 : Int)), vI (((c : Nat) : Int) + 1)]) dX3_haveSameSizes_60 rfl (by decide) rfl ?_
                  refine WP.goto (tgt := 13) dX3_haveSameSizes_63 (by decide) ?_
                  refine WP.fgt (lt := [vR 0, vR t, vI ((s : Nat) : Int), vI (((cn (fun y9 => sz y9 = s) (c + 1) : Nat) : Int) - ((cn (fun y9 => sz' y9 = s) (c + 1) : Nat) : Int)), vI (((c + 1) : Nat) : Int)]) ⟨Or.inr rfl, Or.inr rfl, Or.inr rfl, Or.inr (congrArg vI (by omega)), Or.inr (congrArg vI (by omega)), trivial⟩ ?_
                  exact ih13 (c + 1) (by omega) (by omega)
                · skip
                  have q49 : cn (fun y9 => sz' y9 = s) (c + 1) = cn (fun y9 => sz' y9 = s) c + 1 := cn_t (p := (fun y9 => sz' y9 = s)) (by show sz' c = s; omega)
                  refine WP.iconst dX3_haveSameSizes_53 ?_
                  refine WP.goto (tgt := 58) dX3_haveSameSizes_54 (by decide) ?_
                  refine WP.isub dX3_haveSameSizes_58 ?_
                  refine WP.istore_n (lt := [vR 0, vR t, vI ((s : Nat) : Int), vI (((((cn (fun y9 => sz y9 = s) c : Nat) : Int) - ((cn (fun y9 => sz' y9 = s) c : Nat) : Int)) + (1 : Int)) - (1 : Int)), vI ((c : Nat) : Int)]) dX3_haveSameSizes_59 (by decide) rfl ?_
                  refine WP.iinc (lt := [vR 0, vR t, vI ((s : Nat) : Int), vI (((((cn (fun y9 => sz y9 = s) c : Nat) : Int) - ((cn (fun y9 => sz' y9 = s) c : Nat) : Int)) + (1 : Int)) - (1 : Int)), vI (((c : Nat) : Int) + 1)]) dX3_haveSameSizes_60 rfl (by decide) rfl ?_
                  refine WP.goto (tgt := 13) dX3_haveSameSizes_63 (by decide) ?_
                  refine WP.fgt (lt := [vR 0, vR t, vI ((s : Nat) : Int), vI (((cn (fun y9 => sz y9 = s) (c + 1) : Nat) : Int) - ((cn (fun y9 => sz' y9 = s) (c + 1) : Nat) : Int)), vI (((c + 1) : Nat) : Int)]) ⟨Or.inr rfl, Or.inr rfl, Or.inr rfl, Or.inr (congrArg vI (by omega)), Or.inr (congrArg vI (by omega)), trivial⟩ ?_
                  exact ih13 (c + 1) (by omega) (by omega)
        refine WP.fgt (lt := [vR 0, vR t, vI ((s : Nat) : Int), vI (((cn (fun y9 => sz y9 = s) 0 : Nat) : Int) - ((cn (fun y9 => sz' y9 = s) 0 : Nat) : Int)), vI ((0 : Nat) : Int)]) ⟨Or.inr rfl, Or.inr rfl, Or.inr rfl, Or.inr (congrArg vI (rfl)), Or.inr (congrArg vI (by omega)), trivial⟩ ?_
        exact L13 _ (0) (Nat.zero_le _) (Nat.lt_succ_self _)
  refine WP.fgt (lt := [vR 0, vR t, vI ((2 : Nat) : Int), vU, vU]) ⟨Or.inr rfl, Or.inr rfl, Or.inr (congrArg vI (by omega)), Or.inl rfl, Or.inl rfl, trivial⟩ ?_
  exact L2 _ (2) (by omega) (fun y h1 h2 => by omega) (Nat.lt_succ_self _)
set_option maxHeartbeats 4000000 in
set_option maxRecDepth 20000 in
theorem c_M_swap {M : Mem} {i j : Nat} (hi : i < 28) (hj : j < 28) : CT 1 m_X3_swapImages [vR 99, vI ((i : Nat) : Int), vI ((j : Nat) : Int)] M (fun z M' => z = none ∧ (∀ x, x ≠ 101 → M' x = M x) ∧ ∀ l, M' 101 l = M 101 (if l = i then j else if l = j then i else l)) := by
  refine CT.ofWP (by decide +kernel) (Nat.le_of_ble_eq_true rfl) ?_
  show WP sc0 1 m_X3_swapImages 0 [vR 99, vI ((i : Nat) : Int), vI ((j : Nat) : Int), vU] [] M (fun z M' => z = none ∧ (∀ x, x ≠ 101 → M' x = M x) ∧ ∀ l, M' 101 l = M 101 (if l = i then j else if l = j then i else l))
  refine WP.aload_n dX3_swapImages_0 rfl ?_
  refine WP.getR (y := 101) dX3_swapImages_1 fl_X3_15 (rfl) (by decide) (rfl) ?_
  refine WP.iload_n dX3_swapImages_4 rfl ?_
  refine WP.iaload (y := i) (x := (M 101 i)) dX3_swapImages_5 (rfl) (by omega) (by omega) (rfl) ?_
  refine WP.istore_n (lt := [vR 99, vI ((i : Nat) : Int), vI ((j : Nat) : Int), vI (M 101 i)]) dX3_swapImages_6 (by decide) rfl ?_
  refine WP.aload_n dX3_swapImages_7 rfl ?_
  refine WP.getR (y := 101) dX3_swapImages_8 fl_X3_15 (rfl) (by decide) (rfl) ?_
  refine WP.iload_n dX3_swapImages_11 rfl ?_
  refine WP.aload_n dX3_swapImages_12 rfl ?_
  refine WP.getR (y := 101) dX3_swapImages_13 fl_X3_15 (rfl) (by decide) (rfl) ?_
  refine WP.iload_n dX3_swapImages_16 rfl ?_
  refine WP.iaload (y := j) (x := (M 101 j)) dX3_swapImages_17 (rfl) (by omega) (by omega) (rfl) ?_
  refine WP.iastore (y := i) dX3_swapImages_18 (rfl) (by omega) (by omega) rfl ?_
  refine WP.aload_n dX3_swapImages_19 rfl ?_
  refine WP.getR (y := 101) dX3_swapImages_20 fl_X3_15 (rfl) (by decide) (rfl) ?_
  refine WP.iload_n dX3_swapImages_23 rfl ?_
  refine WP.iload_n dX3_swapImages_24 rfl ?_
  refine WP.iastore (y := j) dX3_swapImages_25 (rfl) (by omega) (by omega) rfl ?_
  refine WP.vret dX3_swapImages_26 rfl ?_
  refine ⟨rfl, fun x hx => by rw [mset_o x hx, mset_o x hx], fun l => ?_⟩
  by_cases e : l = j
  · subst e
    rw [mset_s]
    by_cases e2 : l = i
    · subst e2; rw [if_pos rfl]
    · rw [if_neg e2, if_pos rfl]
  · rw [mset_n (Or.inr e)]
    by_cases e2 : l = i
    · subst e2; rw [mset_s, if_pos rfl]
    · rw [mset_n (Or.inr e2), if_neg e2, if_neg e]
set_option maxHeartbeats 4000000 in
set_option maxRecDepth 20000 in
theorem c_M_next {M : Mem} {c s x : Nat} (hc : c < 7) (hs2 : 1 < s ∧ s ≤ 4) (hx : x < 256) (hp : pmo s x) (hM : ∀ v, v < s → M 101 (c * 4 + v) = ((imo x v : Nat) : Int)) : CT 2 m_X3_nextOrder [vR 99, vI ((c * 4 : Nat) : Int), vI ((s : Nat) : Int)] M (fun z M' => ∃ v : Int, z = some (vI v) ∧ ((v = 0 ∧ M' = M ∧ ∀ y, y < 256 → x < y → ¬ pmo s y) ∨ (v = 1 ∧ (∀ a, a ≠ 101 → M' a = M a) ∧ (∀ i, (i < c * 4 ∨ c * 4 + s ≤ i) → M' 101 i = M 101 i) ∧ ∃ x', pmo s x' ∧ x' < 256 ∧ x < x' ∧ rkB s x' = rkB s x + 1 ∧ (∀ y, y < x' → x < y → ¬ pmo s y) ∧ ∀ v, v < s → M' 101 (c * 4 + v) = ((imo x' v : Nat) : Int)))) := by
  refine CT.ofWP (by decide +kernel) (Nat.le_of_ble_eq_true rfl) ?_
  show WP sc0 2 m_X3_nextOrder 0 [vR 99, vI ((c * 4 : Nat) : Int), vI ((s : Nat) : Int), vU, vU, vU, vU] [] M (fun z M' => ∃ v : Int, z = some (vI v) ∧ ((v = 0 ∧ M' = M ∧ ∀ y, y < 256 → x < y → ¬ pmo s y) ∨ (v = 1 ∧ (∀ a, a ≠ 101 → M' a = M a) ∧ (∀ i, (i < c * 4 ∨ c * 4 + s ≤ i) → M' 101 i = M 101 i) ∧ ∃ x', pmo s x' ∧ x' < 256 ∧ x < x' ∧ rkB s x' = rkB s x + 1 ∧ (∀ y, y < x' → x < y → ¬ pmo s y) ∧ ∀ v, v < s → M' 101 (c * 4 + v) = ((imo x' v : Nat) : Int))))
  refine WP.iload_n dX3_nextOrder_0 rfl ?_
  refine WP.iload_n dX3_nextOrder_1 rfl ?_
  refine WP.iadd dX3_nextOrder_2 ?_
  refine WP.iconst dX3_nextOrder_3 ?_
  refine WP.isub dX3_nextOrder_4 ?_
  refine WP.istore_n (lt := [vR 99, vI ((c * 4 : Nat) : Int), vI ((s : Nat) : Int), vI ((((c * 4 : Nat) : Int) + ((s : Nat) : Int)) - (2 : Int)), vU, vU, vU]) dX3_nextOrder_5 (by decide) rfl ?_
  have L6 : ∀ (n9 : Nat) (l : Nat) (hl : l + 1 ≤ s) (hD : ∀ v, l ≤ v → v + 1 < s → imo x (v + 1) < imo x v), l < n9 → WP sc0 2 m_X3_nextOrder 6 [vR 99, vI ((c * 4 : Nat) : Int), vI ((s : Nat) : Int), vI (((c * 4 + l : Nat) : Int) - 1), vU, vU, vU] [] M (fun z M' => ∃ v : Int, z = some (vI v) ∧ ((v = 0 ∧ M' = M ∧ ∀ y, y < 256 → x < y → ¬ pmo s y) ∨ (v = 1 ∧ (∀ a, a ≠ 101 → M' a = M a) ∧ (∀ i, (i < c * 4 ∨ c * 4 + s ≤ i) → M' 101 i = M 101 i) ∧ ∃ x', pmo s x' ∧ x' < 256 ∧ x < x' ∧ rkB s x' = rkB s x + 1 ∧ (∀ y, y < x' → x < y → ¬ pmo s y) ∧ ∀ v, v < s → M' 101 (c * 4 + v) = ((imo x' v : Nat) : Int)))) := by
    intro n9
    induction n9 with
    | zero =>
      intro l hl hD hm9
      exact absurd hm9 (Nat.not_lt_zero _)
    | succ n9 ih6 =>
      intro l hl hD hm9
      refine WP.iload_n dX3_nextOrder_6 rfl ?_
      refine WP.iload_n dX3_nextOrder_7 rfl ?_
      refine WP.icmp_lt (tgt := 34) dX3_nextOrder_8 (by decide) (by omega) (by omega) (fun h8 => ?_) (fun h8 => ?_)
      · skip
        have hl0 : l = 0 := by omega
        refine WP.iload_n dX3_nextOrder_34 rfl ?_
        refine WP.iload_n dX3_nextOrder_35 rfl ?_
        refine WP.icmp_ge (tgt := 41) dX3_nextOrder_36 (by decide) (by omega) (by omega) (fun h36 => ?_) (fun h36 => ?_)
        · skip
          exfalso
          omega
        · skip
          refine WP.iconst dX3_nextOrder_39 ?_
          refine WP.zret dX3_nextOrder_40 rfl (by decide) ?_
          subst hl0
          exact ⟨_, rfl, Or.inl ⟨rfl, rfl, fun y hy hxy => nx_last (by omega) hs2.1 hx hp (fun v hv => hD v (Nat.zero_le _) hv) hy hxy⟩⟩
      · skip
        have m0 := imo_4 x (l - 1)
        have m1 := imo_4 x l
        refine WP.aload_n dX3_nextOrder_11 rfl ?_
        refine WP.getR (y := 101) dX3_nextOrder_12 fl_X3_15 (rfl) (by decide) (rfl) ?_
        refine WP.iload_n dX3_nextOrder_15 rfl ?_
        refine WP.iaload (y := (c * 4 + (l - 1))) (x := ((imo x (l - 1) : Nat) : Int)) dX3_nextOrder_16 (rfl) (by omega) (by omega) (hM (l - 1) (by omega)) ?_
        refine WP.aload_n dX3_nextOrder_17 rfl ?_
        refine WP.getR (y := 101) dX3_nextOrder_18 fl_X3_15 (rfl) (by decide) (rfl) ?_
        refine WP.iload_n dX3_nextOrder_21 rfl ?_
        refine WP.iconst dX3_nextOrder_22 ?_
        refine WP.iadd dX3_nextOrder_23 ?_
        refine WP.iaload (y := (c * 4 + l)) (x := ((imo x l : Nat) : Int)) dX3_nextOrder_24 (rfl) (by omega) (by omega) (hM l (by omega)) ?_
        refine WP.icmp_le (tgt := 34) dX3_nextOrder_25 (by decide) (by omega) (by omega) (fun h25 => ?_) (fun h25 => ?_)
        · skip
          have hle : imo x (l - 1) ≤ imo x l := by omega
          refine WP.iload_n dX3_nextOrder_34 rfl ?_
          refine WP.iload_n dX3_nextOrder_35 rfl ?_
          refine WP.icmp_ge (tgt := 41) dX3_nextOrder_36 (by decide) (by omega) (by omega) (fun h36 => ?_) (fun h36 => ?_)
          · skip
            refine WP.iload_n dX3_nextOrder_41 rfl ?_
            refine WP.iload_n dX3_nextOrder_42 rfl ?_
            refine WP.iadd dX3_nextOrder_43 ?_
            refine WP.iconst dX3_nextOrder_44 ?_
            refine WP.isub dX3_nextOrder_45 ?_
            refine WP.istore (lt := [vR 99, vI ((c * 4 : Nat) : Int), vI ((s : Nat) : Int), vI (((c * 4 + l : Nat) : Int) - 1), vI ((((c * 4 : Nat) : Int) + ((s : Nat) : Int)) - (1 : Int)), vU, vU]) dX3_nextOrder_46 (by decide) rfl ?_
            have L48 : ∀ (n9 : Nat) (h : Nat) (hh : l ≤ h ∧ h < s) (hU : ∀ v, v < s → h < v → imo x v < imo x (l - 1)), h < n9 → WP sc0 2 m_X3_nextOrder 48 [vR 99, vI ((c * 4 : Nat) : Int), vI ((s : Nat) : Int), vI (((c * 4 + l : Nat) : Int) - 1), vI ((c * 4 + h : Nat) : Int), vU, vU] [] M (fun z M' => ∃ v : Int, z = some (vI v) ∧ ((v = 0 ∧ M' = M ∧ ∀ y, y < 256 → x < y → ¬ pmo s y) ∨ (v = 1 ∧ (∀ a, a ≠ 101 → M' a = M a) ∧ (∀ i, (i < c * 4 ∨ c * 4 + s ≤ i) → M' 101 i = M 101 i) ∧ ∃ x', pmo s x' ∧ x' < 256 ∧ x < x' ∧ rkB s x' = rkB s x + 1 ∧ (∀ y, y < x' → x < y → ¬ pmo s y) ∧ ∀ v, v < s → M' 101 (c * 4 + v) = ((imo x' v : Nat) : Int)))) := by
              intro n9
              induction n9 with
              | zero =>
                intro h hh hU hm9
                exact absurd hm9 (Nat.not_lt_zero _)
              | succ n9 ih48 =>
                intro h hh hU hm9
                have m2 := imo_4 x h
                refine WP.iload dX3_nextOrder_48 rfl ?_
                refine WP.iload_n dX3_nextOrder_50 rfl ?_
                refine WP.iconst dX3_nextOrder_51 ?_
                refine WP.iadd dX3_nextOrder_52 ?_
                refine WP.icmp_le (tgt := 78) dX3_nextOrder_53 (by decide) (by omega) (by omega) (fun h53 => ?_) (fun h53 => ?_)
                · skip
                  have hhi : h = (l - 1) + 1 ∨ imo x (l - 1) ≤ imo x h := by omega
                  refine WP.aload_n dX3_nextOrder_78 rfl ?_
                  refine WP.iload_n dX3_nextOrder_79 rfl ?_
                  refine WP.iload dX3_nextOrder_80 rfl ?_
                  refine WP.eqs (st' := [vI ((c * 4 + h : Nat) : Int), vI ((c * 4 + (l - 1) : Nat) : Int), vR 99]) rfl (lc (rfl) (lc (congrArg vI (by omega)) (rfl))) ?_
                  refine WP.callV (as := [vI ((c * 4 + (l - 1) : Nat) : Int), vI ((c * 4 + h : Nat) : Int)]) dX3_nextOrder_82 mv_X3_113 rfl (rfl) (by decide) rfl rfl (c_M_swap (i := c * 4 + (l - 1)) (j := c * 4 + h) (by omega) (by omega)) rfl (Nat.le_of_ble_eq_true rfl) (by omega) (fun r9 M1 h9 => ?_)
                  obtain ⟨rfl, f1, g1⟩ := h9
                  have hN := nx_ok (s := s) (x := x) (low := l - 1) (high := h) (by omega) hx hp (by omega) (by omega) (by rw [show l - 1 + 1 = l by omega]; exact hle) (fun v h1 h2 => hD v (by omega) h2) hhi (fun v h1 h2 => hU v h1 h2)
                  show WP sc0 2 m_X3_nextOrder 85 [vR 99, vI ((c * 4 : Nat) : Int), vI ((s : Nat) : Int), vI (((c * 4 + l : Nat) : Int) - 1), vI ((c * 4 + h : Nat) : Int), vU, vU] [] M1 (fun z M' => ∃ v : Int, z = some (vI v) ∧ ((v = 0 ∧ M' = M ∧ ∀ y, y < 256 → x < y → ¬ pmo s y) ∨ (v = 1 ∧ (∀ a, a ≠ 101 → M' a = M a) ∧ (∀ i, (i < c * 4 ∨ c * 4 + s ≤ i) → M' 101 i = M 101 i) ∧ ∃ x', pmo s x' ∧ x' < 256 ∧ x < x' ∧ rkB s x' = rkB s x + 1 ∧ (∀ y, y < x' → x < y → ¬ pmo s y) ∧ ∀ v, v < s → M' 101 (c * 4 + v) = ((imo x' v : Nat) : Int))))
                  refine WP.iload_n dX3_nextOrder_85 rfl ?_
                  refine WP.iload_n dX3_nextOrder_86 rfl ?_
                  refine WP.iadd dX3_nextOrder_87 ?_
                  refine WP.iconst dX3_nextOrder_88 ?_
                  refine WP.isub dX3_nextOrder_89 ?_
                  refine WP.istore (lt := [vR 99, vI ((c * 4 : Nat) : Int), vI ((s : Nat) : Int), vI (((c * 4 + l : Nat) : Int) - 1), vI ((c * 4 + h : Nat) : Int), vI ((((c * 4 : Nat) : Int) + ((s : Nat) : Int)) - (1 : Int)), vU]) dX3_nextOrder_90 (by decide) rfl ?_
                  refine WP.iload_n dX3_nextOrder_92 rfl ?_
                  refine WP.iconst dX3_nextOrder_93 ?_
                  refine WP.iadd dX3_nextOrder_94 ?_
                  refine WP.istore (lt := [vR 99, vI ((c * 4 : Nat) : Int), vI ((s : Nat) : Int), vI (((c * 4 + l : Nat) : Int) - 1), vI ((c * 4 + h : Nat) : Int), vI ((((c * 4 : Nat) : Int) + ((s : Nat) : Int)) - (1 : Int)), vI ((((c * 4 + l : Nat) : Int) - 1) + (1 : Int))]) dX3_nextOrder_95 (by decide) rfl ?_
                  have L97 : ∀ (n9 : Nat) (a : Nat) (M2 : Mem) (ha : l ≤ a ∧ 2 * a ≤ s + l ∧ a < s) (f2 : ∀ y, y ≠ 101 → M2 y = M1 y) (g2 : ∀ i, i < s → M2 101 (c * 4 + i) = M1 101 (c * 4 + (if (l ≤ i ∧ i < a) ∨ s - 1 + l - a < i then s - 1 + l - i else i))) (e2 : ∀ i, (i < c * 4 ∨ c * 4 + s ≤ i) → M2 101 i = M1 101 i), s - a < n9 → WP sc0 2 m_X3_nextOrder 97 [vR 99, vI ((c * 4 : Nat) : Int), vI ((s : Nat) : Int), vI (((c * 4 + l : Nat) : Int) - 1), vI ((c * 4 + h : Nat) : Int), vI ((c * 4 + (s - 1 + l - a) : Nat) : Int), vI ((c * 4 + a : Nat) : Int)] [] M2 (fun z M' => ∃ v : Int, z = some (vI v) ∧ ((v = 0 ∧ M' = M ∧ ∀ y, y < 256 → x < y → ¬ pmo s y) ∨ (v = 1 ∧ (∀ a, a ≠ 101 → M' a = M a) ∧ (∀ i, (i < c * 4 ∨ c * 4 + s ≤ i) → M' 101 i = M 101 i) ∧ ∃ x', pmo s x' ∧ x' < 256 ∧ x < x' ∧ rkB s x' = rkB s x + 1 ∧ (∀ y, y < x' → x < y → ¬ pmo s y) ∧ ∀ v, v < s → M' 101 (c * 4 + v) = ((imo x' v : Nat) : Int)))) := by
                    intro n9
                    induction n9 with
                    | zero =>
                      intro a M2 ha f2 g2 e2 hm9
                      exact absurd hm9 (Nat.not_lt_zero _)
                    | succ n9 ih97 =>
                      intro a M2 ha f2 g2 e2 hm9
                      refine WP.iload dX3_nextOrder_97 rfl ?_
                      refine WP.iload dX3_nextOrder_99 rfl ?_
                      refine WP.icmp_ge (tgt := 121) dX3_nextOrder_101 (by decide) (by omega) (by omega) (fun h101 => ?_) (fun h101 => ?_)
                      · skip
                        refine WP.iconst dX3_nextOrder_121 ?_
                        refine WP.zret dX3_nextOrder_122 rfl (by decide) ?_
                        obtain ⟨n1, n2, n3, n4, n5, n6⟩ := hN
                        refine ⟨_, rfl, Or.inr ⟨rfl, fun y hy => (f2 y hy).trans (f1 y hy), fun i hi => by rw [e2 i hi, g1, if_neg (by omega), if_neg (by omega)], _, n1, n2, n3, n4, n5, fun v hv => ?_⟩⟩
                        rw [n6 v hv, g2 v hv, g1]
                        unfold nxi
                        have key : ∀ j : Nat, j < s → (M 101 (if c * 4 + j = c * 4 + (l - 1) then c * 4 + h else if c * 4 + j = c * 4 + h then c * 4 + (l - 1) else c * 4 + j) = ((imo x (if j = l - 1 then h else if j = h then l - 1 else j) : Nat) : Int)) := fun j hj => by
                          by_cases q1 : j = l - 1
                          · rw [if_pos (by omega), if_pos q1]; exact hM h (by omega)
                          · rw [if_neg (by omega), if_neg q1]
                            by_cases q2 : j = h
                            · rw [if_pos (by omega), if_pos q2]; exact hM (l - 1) (by omega)
                            · rw [if_neg (by omega), if_neg q2]; exact hM j hj
                        by_cases e9 : v ≤ l - 1
                        · have q1 : (if (l ≤ v ∧ v < a) ∨ s - 1 + l - a < v then s - 1 + l - v else v) = v := if_neg (by omega)
                          have q2 : (if v ≤ l - 1 then v else s + (l - 1) - v) = v := if_pos e9
                          rw [q1, q2]
                          exact key v hv
                        · have q2 : (if v ≤ l - 1 then v else s + (l - 1) - v) = s + (l - 1) - v := if_neg e9
                          have q1 : (if (l ≤ v ∧ v < a) ∨ s - 1 + l - a < v then s - 1 + l - v else v) = s + (l - 1) - v := by
                            split <;> omega
                          rw [q1, q2]
                          exact key _ (by omega)
                      · skip
                        refine WP.aload_n dX3_nextOrder_104 rfl ?_
                        refine WP.iload dX3_nextOrder_105 rfl ?_
                        refine WP.iload dX3_nextOrder_107 rfl ?_
                        refine WP.callV (as := [vI ((c * 4 + a : Nat) : Int), vI ((c * 4 + (s - 1 + l - a) : Nat) : Int)]) dX3_nextOrder_109 mv_X3_113 rfl (rfl) (by decide) rfl rfl (c_M_swap (i := c * 4 + a) (j := c * 4 + (s - 1 + l - a)) (by omega) (by omega)) rfl (Nat.le_of_ble_eq_true rfl) (by omega) (fun r9 M3 h9 => ?_)
                        obtain ⟨rfl, f3, g3⟩ := h9
                        show WP sc0 2 m_X3_nextOrder 112 [vR 99, vI ((c * 4 : Nat) : Int), vI ((s : Nat) : Int), vI (((c * 4 + l : Nat) : Int) - 1), vI ((c * 4 + h : Nat) : Int), vI ((c * 4 + (s - 1 + l - a) : Nat) : Int), vI ((c * 4 + a : Nat) : Int)] [] M3 (fun z M' => ∃ v : Int, z = some (vI v) ∧ ((v = 0 ∧ M' = M ∧ ∀ y, y < 256 → x < y → ¬ pmo s y) ∨ (v = 1 ∧ (∀ a, a ≠ 101 → M' a = M a) ∧ (∀ i, (i < c * 4 ∨ c * 4 + s ≤ i) → M' 101 i = M 101 i) ∧ ∃ x', pmo s x' ∧ x' < 256 ∧ x < x' ∧ rkB s x' = rkB s x + 1 ∧ (∀ y, y < x' → x < y → ¬ pmo s y) ∧ ∀ v, v < s → M' 101 (c * 4 + v) = ((imo x' v : Nat) : Int))))
                        refine WP.iinc (lt := [vR 99, vI ((c * 4 : Nat) : Int), vI ((s : Nat) : Int), vI (((c * 4 + l : Nat) : Int) - 1), vI ((c * 4 + h : Nat) : Int), vI (((c * 4 + (s - 1 + l - a) : Nat) : Int) + (-1)), vI ((c * 4 + a : Nat) : Int)]) dX3_nextOrder_112 rfl (by decide) rfl ?_
                        refine WP.iinc (lt := [vR 99, vI ((c * 4 : Nat) : Int), vI ((s : Nat) : Int), vI (((c * 4 + l : Nat) : Int) - 1), vI ((c * 4 + h : Nat) : Int), vI (((c * 4 + (s - 1 + l - a) : Nat) : Int) + (-1)), vI (((c * 4 + a : Nat) : Int) + 1)]) dX3_nextOrder_115 rfl (by decide) rfl ?_
                        refine WP.goto (tgt := 97) dX3_nextOrder_118 (by decide) ?_
                        refine WP.fgt (lt := [vR 99, vI ((c * 4 : Nat) : Int), vI ((s : Nat) : Int), vI (((c * 4 + l : Nat) : Int) - 1), vI ((c * 4 + h : Nat) : Int), vI ((c * 4 + (s - 1 + l - (a + 1)) : Nat) : Int), vI ((c * 4 + (a + 1) : Nat) : Int)]) ⟨Or.inr rfl, Or.inr rfl, Or.inr rfl, Or.inr rfl, Or.inr rfl, Or.inr (congrArg vI (by omega)), Or.inr (congrArg vI (by omega)), trivial⟩ ?_
                        exact ih97 (a + 1) (M3) (by omega) (fun y hy => (f3 y hy).trans (f2 y hy)) (fun i hi => by
                          rw [g3]
                          by_cases e1 : i = a
                          · rw [e1, if_pos rfl, g2 _ (by omega), if_neg (by omega), if_pos (by omega)]
                          · by_cases e2 : i = s - 1 + l - a
                            · rw [if_neg (by omega), if_pos (by omega), g2 _ (by omega), if_neg (by omega), if_pos (by omega)]; congr 1; omega
                            · rw [if_neg (by omega), if_neg (by omega), g2 _ hi]
                              by_cases e3 : (l ≤ i ∧ i < a) ∨ s - 1 + l - a < i
                              · rw [if_pos e3, if_pos (by omega)]
                              · rw [if_neg e3, if_neg (by omega)]) (fun i hi => by rw [g3, if_neg (by omega), if_neg (by omega)]; exact e2 i hi) (by omega)
                  refine WP.fgt (lt := [vR 99, vI ((c * 4 : Nat) : Int), vI ((s : Nat) : Int), vI (((c * 4 + l : Nat) : Int) - 1), vI ((c * 4 + h : Nat) : Int), vI ((c * 4 + (s - 1 + l - l) : Nat) : Int), vI ((c * 4 + l : Nat) : Int)]) ⟨Or.inr rfl, Or.inr rfl, Or.inr rfl, Or.inr rfl, Or.inr rfl, Or.inr (congrArg vI (by omega)), Or.inr (congrArg vI (by omega)), trivial⟩ ?_
                  exact L97 _ (l) (M1) (by omega) (fun _ _ => rfl) (fun i hi => by rw [if_neg (by omega)]) (fun _ _ => rfl) (Nat.lt_succ_self _)
                · skip
                  refine WP.aload_n dX3_nextOrder_56 rfl ?_
                  refine WP.getR (y := 101) dX3_nextOrder_57 fl_X3_15 (rfl) (by decide) (rfl) ?_
                  refine WP.iload dX3_nextOrder_60 rfl ?_
                  refine WP.iaload (y := (c * 4 + h)) (x := ((imo x h : Nat) : Int)) dX3_nextOrder_62 (rfl) (by omega) (by omega) (hM h (by omega)) ?_
                  refine WP.aload_n dX3_nextOrder_63 rfl ?_
                  refine WP.getR (y := 101) dX3_nextOrder_64 fl_X3_15 (rfl) (by decide) (rfl) ?_
                  refine WP.iload_n dX3_nextOrder_67 rfl ?_
                  refine WP.iaload (y := (c * 4 + (l - 1))) (x := ((imo x (l - 1) : Nat) : Int)) dX3_nextOrder_68 (rfl) (by omega) (by omega) (hM (l - 1) (by omega)) ?_
                  refine WP.icmp_ge (tgt := 78) dX3_nextOrder_69 (by decide) (by omega) (by omega) (fun h69 => ?_) (fun h69 => ?_)
                  · skip
                    have hhi : h = (l - 1) + 1 ∨ imo x (l - 1) ≤ imo x h := by omega
                    refine WP.aload_n dX3_nextOrder_78 rfl ?_
                    refine WP.iload_n dX3_nextOrder_79 rfl ?_
                    refine WP.iload dX3_nextOrder_80 rfl ?_
                    refine WP.eqs (st' := [vI ((c * 4 + h : Nat) : Int), vI ((c * 4 + (l - 1) : Nat) : Int), vR 99]) rfl (lc (rfl) (lc (congrArg vI (by omega)) (rfl))) ?_
                    refine WP.callV (as := [vI ((c * 4 + (l - 1) : Nat) : Int), vI ((c * 4 + h : Nat) : Int)]) dX3_nextOrder_82 mv_X3_113 rfl (rfl) (by decide) rfl rfl (c_M_swap (i := c * 4 + (l - 1)) (j := c * 4 + h) (by omega) (by omega)) rfl (Nat.le_of_ble_eq_true rfl) (by omega) (fun r9 M1 h9 => ?_)
                    obtain ⟨rfl, f1, g1⟩ := h9
                    have hN := nx_ok (s := s) (x := x) (low := l - 1) (high := h) (by omega) hx hp (by omega) (by omega) (by rw [show l - 1 + 1 = l by omega]; exact hle) (fun v h1 h2 => hD v (by omega) h2) hhi (fun v h1 h2 => hU v h1 h2)
                    show WP sc0 2 m_X3_nextOrder 85 [vR 99, vI ((c * 4 : Nat) : Int), vI ((s : Nat) : Int), vI (((c * 4 + l : Nat) : Int) - 1), vI ((c * 4 + h : Nat) : Int), vU, vU] [] M1 (fun z M' => ∃ v : Int, z = some (vI v) ∧ ((v = 0 ∧ M' = M ∧ ∀ y, y < 256 → x < y → ¬ pmo s y) ∨ (v = 1 ∧ (∀ a, a ≠ 101 → M' a = M a) ∧ (∀ i, (i < c * 4 ∨ c * 4 + s ≤ i) → M' 101 i = M 101 i) ∧ ∃ x', pmo s x' ∧ x' < 256 ∧ x < x' ∧ rkB s x' = rkB s x + 1 ∧ (∀ y, y < x' → x < y → ¬ pmo s y) ∧ ∀ v, v < s → M' 101 (c * 4 + v) = ((imo x' v : Nat) : Int))))
                    refine WP.iload_n dX3_nextOrder_85 rfl ?_
                    refine WP.iload_n dX3_nextOrder_86 rfl ?_
                    refine WP.iadd dX3_nextOrder_87 ?_
                    refine WP.iconst dX3_nextOrder_88 ?_
                    refine WP.isub dX3_nextOrder_89 ?_
                    refine WP.istore (lt := [vR 99, vI ((c * 4 : Nat) : Int), vI ((s : Nat) : Int), vI (((c * 4 + l : Nat) : Int) - 1), vI ((c * 4 + h : Nat) : Int), vI ((((c * 4 : Nat) : Int) + ((s : Nat) : Int)) - (1 : Int)), vU]) dX3_nextOrder_90 (by decide) rfl ?_
                    refine WP.iload_n dX3_nextOrder_92 rfl ?_
                    refine WP.iconst dX3_nextOrder_93 ?_
                    refine WP.iadd dX3_nextOrder_94 ?_
                    refine WP.istore (lt := [vR 99, vI ((c * 4 : Nat) : Int), vI ((s : Nat) : Int), vI (((c * 4 + l : Nat) : Int) - 1), vI ((c * 4 + h : Nat) : Int), vI ((((c * 4 : Nat) : Int) + ((s : Nat) : Int)) - (1 : Int)), vI ((((c * 4 + l : Nat) : Int) - 1) + (1 : Int))]) dX3_nextOrder_95 (by decide) rfl ?_
                    have L97 : ∀ (n9 : Nat) (a : Nat) (M2 : Mem) (ha : l ≤ a ∧ 2 * a ≤ s + l ∧ a < s) (f2 : ∀ y, y ≠ 101 → M2 y = M1 y) (g2 : ∀ i, i < s → M2 101 (c * 4 + i) = M1 101 (c * 4 + (if (l ≤ i ∧ i < a) ∨ s - 1 + l - a < i then s - 1 + l - i else i))) (e2 : ∀ i, (i < c * 4 ∨ c * 4 + s ≤ i) → M2 101 i = M1 101 i), s - a < n9 → WP sc0 2 m_X3_nextOrder 97 [vR 99, vI ((c * 4 : Nat) : Int), vI ((s : Nat) : Int), vI (((c * 4 + l : Nat) : Int) - 1), vI ((c * 4 + h : Nat) : Int), vI ((c * 4 + (s - 1 + l - a) : Nat) : Int), vI ((c * 4 + a : Nat) : Int)] [] M2 (fun z M' => ∃ v : Int, z = some (vI v) ∧ ((v = 0 ∧ M' = M ∧ ∀ y, y < 256 → x < y → ¬ pmo s y) ∨ (v = 1 ∧ (∀ a, a ≠ 101 → M' a = M a) ∧ (∀ i, (i < c * 4 ∨ c * 4 + s ≤ i) → M' 101 i = M 101 i) ∧ ∃ x', pmo s x' ∧ x' < 256 ∧ x < x' ∧ rkB s x' = rkB s x + 1 ∧ (∀ y, y < x' → x < y → ¬ pmo s y) ∧ ∀ v, v < s → M' 101 (c * 4 + v) = ((imo x' v : Nat) : Int)))) := by
                      intro n9
                      induction n9 with
                      | zero =>
                        intro a M2 ha f2 g2 e2 hm9
                        exact absurd hm9 (Nat.not_lt_zero _)
                      | succ n9 ih97 =>
                        intro a M2 ha f2 g2 e2 hm9
                        refine WP.iload dX3_nextOrder_97 rfl ?_
                        refine WP.iload dX3_nextOrder_99 rfl ?_
                        refine WP.icmp_ge (tgt := 121) dX3_nextOrder_101 (by decide) (by omega) (by omega) (fun h101 => ?_) (fun h101 => ?_)
                        · skip
                          refine WP.iconst dX3_nextOrder_121 ?_
                          refine WP.zret dX3_nextOrder_122 rfl (by decide) ?_
                          obtain ⟨n1, n2, n3, n4, n5, n6⟩ := hN
                          refine ⟨_, rfl, Or.inr ⟨rfl, fun y hy => (f2 y hy).trans (f1 y hy), fun i hi => by rw [e2 i hi, g1, if_neg (by omega), if_neg (by omega)], _, n1, n2, n3, n4, n5, fun v hv => ?_⟩⟩
                          rw [n6 v hv, g2 v hv, g1]
                          unfold nxi
                          have key : ∀ j : Nat, j < s → (M 101 (if c * 4 + j = c * 4 + (l - 1) then c * 4 + h else if c * 4 + j = c * 4 + h then c * 4 + (l - 1) else c * 4 + j) = ((imo x (if j = l - 1 then h else if j = h then l - 1 else j) : Nat) : Int)) := fun j hj => by
                            by_cases q1 : j = l - 1
                            · rw [if_pos (by omega), if_pos q1]; exact hM h (by omega)
                            · rw [if_neg (by omega), if_neg q1]
                              by_cases q2 : j = h
                              · rw [if_pos (by omega), if_pos q2]; exact hM (l - 1) (by omega)
                              · rw [if_neg (by omega), if_neg q2]; exact hM j hj
                          by_cases e9 : v ≤ l - 1
                          · have q1 : (if (l ≤ v ∧ v < a) ∨ s - 1 + l - a < v then s - 1 + l - v else v) = v := if_neg (by omega)
                            have q2 : (if v ≤ l - 1 then v else s + (l - 1) - v) = v := if_pos e9
                            rw [q1, q2]
                            exact key v hv
                          · have q2 : (if v ≤ l - 1 then v else s + (l - 1) - v) = s + (l - 1) - v := if_neg e9
                            have q1 : (if (l ≤ v ∧ v < a) ∨ s - 1 + l - a < v then s - 1 + l - v else v) = s + (l - 1) - v := by
                              split <;> omega
                            rw [q1, q2]
                            exact key _ (by omega)
                        · skip
                          refine WP.aload_n dX3_nextOrder_104 rfl ?_
                          refine WP.iload dX3_nextOrder_105 rfl ?_
                          refine WP.iload dX3_nextOrder_107 rfl ?_
                          refine WP.callV (as := [vI ((c * 4 + a : Nat) : Int), vI ((c * 4 + (s - 1 + l - a) : Nat) : Int)]) dX3_nextOrder_109 mv_X3_113 rfl (rfl) (by decide) rfl rfl (c_M_swap (i := c * 4 + a) (j := c * 4 + (s - 1 + l - a)) (by omega) (by omega)) rfl (Nat.le_of_ble_eq_true rfl) (by omega) (fun r9 M3 h9 => ?_)
                          obtain ⟨rfl, f3, g3⟩ := h9
                          show WP sc0 2 m_X3_nextOrder 112 [vR 99, vI ((c * 4 : Nat) : Int), vI ((s : Nat) : Int), vI (((c * 4 + l : Nat) : Int) - 1), vI ((c * 4 + h : Nat) : Int), vI ((c * 4 + (s - 1 + l - a) : Nat) : Int), vI ((c * 4 + a : Nat) : Int)] [] M3 (fun z M' => ∃ v : Int, z = some (vI v) ∧ ((v = 0 ∧ M' = M ∧ ∀ y, y < 256 → x < y → ¬ pmo s y) ∨ (v = 1 ∧ (∀ a, a ≠ 101 → M' a = M a) ∧ (∀ i, (i < c * 4 ∨ c * 4 + s ≤ i) → M' 101 i = M 101 i) ∧ ∃ x', pmo s x' ∧ x' < 256 ∧ x < x' ∧ rkB s x' = rkB s x + 1 ∧ (∀ y, y < x' → x < y → ¬ pmo s y) ∧ ∀ v, v < s → M' 101 (c * 4 + v) = ((imo x' v : Nat) : Int))))
                          refine WP.iinc (lt := [vR 99, vI ((c * 4 : Nat) : Int), vI ((s : Nat) : Int), vI (((c * 4 + l : Nat) : Int) - 1), vI ((c * 4 + h : Nat) : Int), vI (((c * 4 + (s - 1 + l - a) : Nat) : Int) + (-1)), vI ((c * 4 + a : Nat) : Int)]) dX3_nextOrder_112 rfl (by decide) rfl ?_
                          refine WP.iinc (lt := [vR 99, vI ((c * 4 : Nat) : Int), vI ((s : Nat) : Int), vI (((c * 4 + l : Nat) : Int) - 1), vI ((c * 4 + h : Nat) : Int), vI (((c * 4 + (s - 1 + l - a) : Nat) : Int) + (-1)), vI (((c * 4 + a : Nat) : Int) + 1)]) dX3_nextOrder_115 rfl (by decide) rfl ?_
                          refine WP.goto (tgt := 97) dX3_nextOrder_118 (by decide) ?_
                          refine WP.fgt (lt := [vR 99, vI ((c * 4 : Nat) : Int), vI ((s : Nat) : Int), vI (((c * 4 + l : Nat) : Int) - 1), vI ((c * 4 + h : Nat) : Int), vI ((c * 4 + (s - 1 + l - (a + 1)) : Nat) : Int), vI ((c * 4 + (a + 1) : Nat) : Int)]) ⟨Or.inr rfl, Or.inr rfl, Or.inr rfl, Or.inr rfl, Or.inr rfl, Or.inr (congrArg vI (by omega)), Or.inr (congrArg vI (by omega)), trivial⟩ ?_
                          exact ih97 (a + 1) (M3) (by omega) (fun y hy => (f3 y hy).trans (f2 y hy)) (fun i hi => by
                            rw [g3]
                            by_cases e1 : i = a
                            · rw [e1, if_pos rfl, g2 _ (by omega), if_neg (by omega), if_pos (by omega)]
                            · by_cases e2 : i = s - 1 + l - a
                              · rw [if_neg (by omega), if_pos (by omega), g2 _ (by omega), if_neg (by omega), if_pos (by omega)]; congr 1; omega
                              · rw [if_neg (by omega), if_neg (by omega), g2 _ hi]
                                by_cases e3 : (l ≤ i ∧ i < a) ∨ s - 1 + l - a < i
                                · rw [if_pos e3, if_pos (by omega)]
                                · rw [if_neg e3, if_neg (by omega)]) (fun i hi => by rw [g3, if_neg (by omega), if_neg (by omega)]; exact e2 i hi) (by omega)
                    refine WP.fgt (lt := [vR 99, vI ((c * 4 : Nat) : Int), vI ((s : Nat) : Int), vI (((c * 4 + l : Nat) : Int) - 1), vI ((c * 4 + h : Nat) : Int), vI ((c * 4 + (s - 1 + l - l) : Nat) : Int), vI ((c * 4 + l : Nat) : Int)]) ⟨Or.inr rfl, Or.inr rfl, Or.inr rfl, Or.inr rfl, Or.inr rfl, Or.inr (congrArg vI (by omega)), Or.inr (congrArg vI (by omega)), trivial⟩ ?_
                    exact L97 _ (l) (M1) (by omega) (fun _ _ => rfl) (fun i hi => by rw [if_neg (by omega)]) (fun _ _ => rfl) (Nat.lt_succ_self _)
                  · skip
                    refine WP.iinc (lt := [vR 99, vI ((c * 4 : Nat) : Int), vI ((s : Nat) : Int), vI (((c * 4 + l : Nat) : Int) - 1), vI (((c * 4 + h : Nat) : Int) + (-1)), vU, vU]) dX3_nextOrder_72 rfl (by decide) rfl ?_
                    refine WP.goto (tgt := 48) dX3_nextOrder_75 (by decide) ?_
                    refine WP.fgt (lt := [vR 99, vI ((c * 4 : Nat) : Int), vI ((s : Nat) : Int), vI (((c * 4 + l : Nat) : Int) - 1), vI ((c * 4 + (h - 1) : Nat) : Int), vU, vU]) ⟨Or.inr rfl, Or.inr rfl, Or.inr rfl, Or.inr rfl, Or.inr (congrArg vI (by omega)), Or.inl rfl, Or.inl rfl, trivial⟩ ?_
                    exact ih48 (h - 1) (by omega) (fun v h1 h2 => by
                      by_cases e9 : v = h
                      · rw [e9]; omega
                      · exact hU v h1 (by omega)) (by omega)
            refine WP.fgt (lt := [vR 99, vI ((c * 4 : Nat) : Int), vI ((s : Nat) : Int), vI (((c * 4 + l : Nat) : Int) - 1), vI ((c * 4 + (s - 1) : Nat) : Int), vU, vU]) ⟨Or.inr rfl, Or.inr rfl, Or.inr rfl, Or.inr rfl, Or.inr (congrArg vI (by omega)), Or.inl rfl, Or.inl rfl, trivial⟩ ?_
            exact L48 _ (s - 1) (by omega) (fun v h1 h2 => by omega) (Nat.lt_succ_self _)
          · skip
            exfalso
            omega
        · skip
          refine WP.iinc (lt := [vR 99, vI ((c * 4 : Nat) : Int), vI ((s : Nat) : Int), vI ((((c * 4 + l : Nat) : Int) - 1) + (-1)), vU, vU, vU]) dX3_nextOrder_28 rfl (by decide) rfl ?_
          refine WP.goto (tgt := 6) dX3_nextOrder_31 (by decide) ?_
          refine WP.fgt (lt := [vR 99, vI ((c * 4 : Nat) : Int), vI ((s : Nat) : Int), vI (((c * 4 + (l - 1) : Nat) : Int) - 1), vU, vU, vU]) ⟨Or.inr rfl, Or.inr rfl, Or.inr rfl, Or.inr (congrArg vI (by omega)), Or.inl rfl, Or.inl rfl, Or.inl rfl, trivial⟩ ?_
          exact ih6 (l - 1) (by omega) (fun v h1 h2 => by
            by_cases e9 : v = l - 1
            · rw [e9, show l - 1 + 1 = l by omega]; omega
            · exact hD v (by omega) h2) (by omega)
  refine WP.fgt (lt := [vR 99, vI ((c * 4 : Nat) : Int), vI ((s : Nat) : Int), vI (((c * 4 + (s - 1) : Nat) : Int) - 1), vU, vU, vU]) ⟨Or.inr rfl, Or.inr rfl, Or.inr rfl, Or.inr (congrArg vI (by omega)), Or.inl rfl, Or.inl rfl, Or.inl rfl, trivial⟩ ?_
  exact L6 _ (s - 1) (by omega) (fun v h1 h2 => by omega) (Nat.lt_succ_self _)
