set_option maxHeartbeats 4000000 in
set_option maxRecDepth 20000 in
theorem c_T_appendCopy {M : Mem} {t o n k k1 d : Nat} {sz sz1 : Nat → Nat} {ce ce1 : Nat → Nat → Nat} (ht : isT t) (ho : isT o) (hto : o + 2 < t ∨ t + 2 < o) (hT : TX M t n k1 sz1 ce1) (hO : TX M o n k sz ce) (b1 : n ≤ 36) (b2 : k1 < 7) (b3 : k ≤ 7) (hd : d < k) : CT 3 m_X6_appendCopy [vR t, vR o, vI ((d : Nat) : Int)] M (fun z M' => z = none ∧ (∀ a, a ≠ t → a ≠ t + 1 → a ≠ t + 2 → M' a = M a) ∧ TX M' t n (k1 + 1) (apS sz1 k1 (sz d)) (apC ce1 k1 (fun r => ce r d))) := by
  refine CT.ofWP (by decide +kernel) (Nat.le_of_ble_eq_true rfl) ?_
  show WP sc0 3 m_X6_appendCopy 0 [vR t, vR o, vI ((d : Nat) : Int), vU, vU] [] M (fun z M' => z = none ∧ (∀ a, a ≠ t → a ≠ t + 1 → a ≠ t + 2 → M' a = M a) ∧ TX M' t n (k1 + 1) (apS sz1 k1 (sz d)) (apC ce1 k1 (fun r => ce r d)))
  refine WP.aload_n dX6_appendCopy_0 rfl ?_
  refine WP.aload_n dX6_appendCopy_1 rfl ?_
  refine WP.getR (y := (o + 1)) dX6_appendCopy_2 fl_X6_18 (shT0 ho) (by decide) (srT1 ho) ?_
  refine WP.iload_n dX6_appendCopy_5 rfl ?_
  refine WP.iaload (y := d) (x := ((sz d : Nat) : Int)) dX6_appendCopy_6 (shT1 ho) (by omega) (by omega) (hO.2.2.1 d hd) ?_
  refine WP.callV (as := [vI ((sz d : Nat) : Int)]) dX6_appendCopy_7 mv_X6_64 rfl (shT0 ht) (by decide) rfl rfl (c_T_append (s := sz d) ht hT b1 b2) rfl (Nat.le_of_ble_eq_true rfl) (by omega) (fun r9 M1 h9 => ?_)
  obtain ⟨rfl, f1, f2⟩ := h9
  show WP sc0 3 m_X6_appendCopy 10 [vR t, vR o, vI ((d : Nat) : Int), vU, vU] [vI ((k1 : Nat) : Int)] M1 (fun z M' => z = none ∧ (∀ a, a ≠ t → a ≠ t + 1 → a ≠ t + 2 → M' a = M a) ∧ TX M' t n (k1 + 1) (apS sz1 k1 (sz d)) (apC ce1 k1 (fun r => ce r d)))
  refine WP.istore_n (lt := [vR t, vR o, vI ((d : Nat) : Int), vI ((k1 : Nat) : Int), vU]) dX6_appendCopy_10 (by decide) rfl ?_
  have hO1 : TX M1 o n k sz ce := hO.fr (f1 o (by omega) (by omega) (by omega)) (f1 (o + 1) (by omega) (by omega) (by omega)) (f1 (o + 2) (by omega) (by omega) (by omega))
  refine WP.iconst dX6_appendCopy_11 ?_
  refine WP.istore (lt := [vR t, vR o, vI ((d : Nat) : Int), vI ((k1 : Nat) : Int), vI (0 : Int)]) dX6_appendCopy_12 (by decide) rfl ?_
  have L14 : ∀ (n9 : Nat) (r : Nat) (M2 : Mem) (hr : r ≤ n) (g1 : ∀ a, a ≠ t + 2 → M2 a = M1 a) (g2 : TX M2 t n (k1 + 1) (apS sz1 k1 (sz d)) (fil (apC ce1 k1 (fun _ => 0)) k1 (fun q => ce q d) r)), n - r < n9 → WP sc0 3 m_X6_appendCopy 14 [vR t, vR o, vI ((d : Nat) : Int), vI ((k1 : Nat) : Int), vI ((r : Nat) : Int)] [] M2 (fun z M' => z = none ∧ (∀ a, a ≠ t → a ≠ t + 1 → a ≠ t + 2 → M' a = M a) ∧ TX M' t n (k1 + 1) (apS sz1 k1 (sz d)) (apC ce1 k1 (fun r => ce r d))) := by
    intro n9
    induction n9 with
    | zero =>
      intro r M2 hr g1 g2 hm9
      exact absurd hm9 (Nat.not_lt_zero _)
    | succ n9 ih14 =>
      intro r M2 hr g1 g2 hm9
      have hO2 : TX M2 o n k sz ce := hO1.fr (g1 o (by omega)) (g1 (o + 1) (by omega)) (g1 (o + 2) (by omega))
      refine WP.iload dX6_appendCopy_14 rfl ?_
      refine WP.aload_n dX6_appendCopy_16 rfl ?_
      refine WP.getI (x := ((n : Nat) : Int)) dX6_appendCopy_17 fl_X6_9 (shT0 ht) (by decide) (g2.1) ?_
      refine WP.icmp_ge (tgt := 43) dX6_appendCopy_20 (by decide) (by omega) (by omega) (fun h20 => ?_) (fun h20 => ?_)
      · skip
        refine WP.vret dX6_appendCopy_43 rfl ?_
        refine ⟨rfl, fun a h1 h2 h3 => by rw [g1 a h3, f1 a h1 h2 h3], g2.cg (fun _ _ => rfl) (fun q hq c _ => ?_)⟩
        unfold fil apC
        dsimp only
        by_cases e : c = k1
        · rw [if_pos (by omega), if_pos e]
        · rw [if_neg (by omega), if_neg e, if_neg e]
      · skip
        refine WP.aload_n dX6_appendCopy_23 rfl ?_
        refine WP.iload dX6_appendCopy_24 rfl ?_
        refine WP.iload_n dX6_appendCopy_26 rfl ?_
        refine WP.aload_n dX6_appendCopy_27 rfl ?_
        refine WP.iload dX6_appendCopy_28 rfl ?_
        refine WP.iload_n dX6_appendCopy_30 rfl ?_
        refine WP.callVp (as := [vI ((r : Nat) : Int), vI ((d : Nat) : Int)]) dX6_appendCopy_31 mv_X6_35 rfl (shT0 ho) (by decide) rfl rfl (c_T_at (r := r) (c := d) ho (by omega) (by omega) (hO2.2.2.2 r (by omega) d hd)) rfl (Nat.le_of_ble_eq_true rfl) (by omega) ?_
        refine WP.callV (as := [vI ((r : Nat) : Int), vI ((k1 : Nat) : Int), vI ((ce r d : Nat) : Int)]) dX6_appendCopy_34 mv_X6_31 rfl (shT0 ht) (by decide) rfl rfl (c_T_setX (r := r) (c := k1) (v := ce r d) ht g2 (by omega) (by omega) (by omega)) rfl (Nat.le_of_ble_eq_true rfl) (by omega) (fun r9 M3 h9 => ?_)
        obtain ⟨rfl, e1, e2⟩ := h9
        show WP sc0 3 m_X6_appendCopy 37 [vR t, vR o, vI ((d : Nat) : Int), vI ((k1 : Nat) : Int), vI ((r : Nat) : Int)] [] M3 (fun z M' => z = none ∧ (∀ a, a ≠ t → a ≠ t + 1 → a ≠ t + 2 → M' a = M a) ∧ TX M' t n (k1 + 1) (apS sz1 k1 (sz d)) (apC ce1 k1 (fun r => ce r d)))
        refine WP.iinc (lt := [vR t, vR o, vI ((d : Nat) : Int), vI ((k1 : Nat) : Int), vI (((r : Nat) : Int) + 1)]) dX6_appendCopy_37 rfl (by decide) rfl ?_
        refine WP.goto (tgt := 14) dX6_appendCopy_40 (by decide) ?_
        refine WP.fgt (lt := [vR t, vR o, vI ((d : Nat) : Int), vI ((k1 : Nat) : Int), vI (((r + 1) : Nat) : Int)]) ⟨Or.inr rfl, Or.inr rfl, Or.inr rfl, Or.inr rfl, Or.inr (congrArg vI (by omega)), trivial⟩ ?_
        exact ih14 (r + 1) (M3) (by omega) (fun a ha => (e1 a ha).trans (g1 a ha)) (e2.cg (fun _ _ => rfl) (fun q _ c _ => fil_s (f := fun q => ce q d) rfl q c)) (by omega)
  refine WP.fgt (lt := [vR t, vR o, vI ((d : Nat) : Int), vI ((k1 : Nat) : Int), vI ((0 : Nat) : Int)]) ⟨Or.inr rfl, Or.inr rfl, Or.inr rfl, Or.inr rfl, Or.inr (congrArg vI (by omega)), trivial⟩ ?_
  exact L14 _ (0) (M1) (Nat.zero_le _) (fun _ _ => rfl) (f2.cg (fun _ _ => rfl) (fun q _ c _ => (if_neg (by omega)).symm)) (Nat.lt_succ_self _)
def rpS (sz sz2 : Nat → Nat) (c k2 : Nat) : Nat → Nat := fun b => if b < c then sz b else if b < c + k2 then sz2 (b - c) else sz (b - k2 + 1)
def rpC (ce ce2 : Nat → Nat → Nat) (c k2 : Nat) : Nat → Nat → Nat := fun r b => if b < c then ce r b else if b < c + k2 then ce2 (ce r c) (b - c) else ce r (b - k2 + 1)
set_option maxHeartbeats 4000000 in
set_option maxRecDepth 20000 in
theorem c_T_becomeReplaced {M : Mem} {t o im n k n2 k2 c : Nat} {sz sz2 : Nat → Nat} {ce ce2 : Nat → Nat → Nat} (ht : isT t) (ho : isT o) (hi : isT im) (hto : o + 2 < t ∨ t + 2 < o) (hti : im + 2 < t ∨ t + 2 < im) (hO : TX M o n k sz ce) (hW : Wf n k sz ce) (hI : TX M im n2 k2 sz2 ce2) (b1 : n ≤ 36) (b3 : k ≤ 7) (hc : c < k) (hn2 : n2 = sz c) (b5 : n2 ≤ 36) (b4 : k - 1 + k2 ≤ 7) : CT 4 m_X6_becomeReplaced [vR t, vR o, vI ((c : Nat) : Int), vR im] M (fun z M' => z = none ∧ (∀ a, a ≠ t → a ≠ t + 1 → a ≠ t + 2 → M' a = M a) ∧ TX M' t n (k - 1 + k2) (rpS sz sz2 c k2) (rpC ce ce2 c k2)) := by
  refine CT.ofWP (by decide +kernel) (Nat.le_of_ble_eq_true rfl) ?_
  show WP sc0 4 m_X6_becomeReplaced 0 [vR t, vR o, vI ((c : Nat) : Int), vR im, vU, vU, vU] [] M (fun z M' => z = none ∧ (∀ a, a ≠ t → a ≠ t + 1 → a ≠ t + 2 → M' a = M a) ∧ TX M' t n (k - 1 + k2) (rpS sz sz2 c k2) (rpC ce ce2 c k2))
  refine WP.aload_n dX6_becomeReplaced_0 rfl ?_
  refine WP.aload_n dX6_becomeReplaced_1 rfl ?_
  refine WP.getI (x := ((n : Nat) : Int)) dX6_becomeReplaced_2 fl_X6_9 (shT0 ho) (by decide) (hO.1) ?_
  refine WP.callV (as := [vI ((n : Nat) : Int)]) dX6_becomeReplaced_5 mv_X6_59 rfl (shT0 ht) (by decide) rfl rfl (c_T_reset ht) rfl (Nat.le_of_ble_eq_true rfl) (by omega) (fun r9 M1 h9 => ?_)
  obtain ⟨rfl, f1, f2, f3⟩ := h9
  show WP sc0 4 m_X6_becomeReplaced 8 [vR t, vR o, vI ((c : Nat) : Int), vR im, vU, vU, vU] [] M1 (fun z M' => z = none ∧ (∀ a, a ≠ t → a ≠ t + 1 → a ≠ t + 2 → M' a = M a) ∧ TX M' t n (k - 1 + k2) (rpS sz sz2 c k2) (rpC ce ce2 c k2))
  have fA : ∀ a, a ≠ t → a ≠ t + 1 → a ≠ t + 2 → M1 a = M a := fun a h1 h2 h3 => f1 a h1
  have hT1 : TX M1 t n 0 (rpS sz sz2 c k2) (rpC ce ce2 c k2) := ⟨f2, f3, fun b hb => absurd hb (Nat.not_lt_zero b), fun r hr b hb => absurd hb (Nat.not_lt_zero b)⟩
  refine WP.iconst dX6_becomeReplaced_8 ?_
  refine WP.istore (lt := [vR t, vR o, vI ((c : Nat) : Int), vR im, vI (0 : Int), vU, vU]) dX6_becomeReplaced_9 (by decide) rfl ?_
  have L11 : ∀ (n9 : Nat) (d : Nat) (M2 : Mem) (hd : d ≤ c) (g1 : ∀ a, a ≠ t → a ≠ t + 1 → a ≠ t + 2 → M2 a = M a) (g2 : TX M2 t n d (rpS sz sz2 c k2) (rpC ce ce2 c k2)), c - d < n9 → WP sc0 4 m_X6_becomeReplaced 11 [vR t, vR o, vI ((c : Nat) : Int), vR im, vI ((d : Nat) : Int), vU, vU] [] M2 (fun z M' => z = none ∧ (∀ a, a ≠ t → a ≠ t + 1 → a ≠ t + 2 → M' a = M a) ∧ TX M' t n (k - 1 + k2) (rpS sz sz2 c k2) (rpC ce ce2 c k2)) := by
    intro n9
    induction n9 with
    | zero =>
      intro d M2 hd g1 g2 hm9
      exact absurd hm9 (Nat.not_lt_zero _)
    | succ n9 ih11 =>
      intro d M2 hd g1 g2 hm9
      have hO2 : TX M2 o n k sz ce := hO.fr (g1 o (by omega) (by omega) (by omega)) (g1 (o + 1) (by omega) (by omega) (by omega)) (g1 (o + 2) (by omega) (by omega) (by omega))
      refine WP.iload dX6_becomeReplaced_11 rfl ?_
      refine WP.iload_n dX6_becomeReplaced_13 rfl ?_
      refine WP.icmp_ge (tgt := 30) dX6_becomeReplaced_14 (by decide) (by omega) (by omega) (fun h14 => ?_) (fun h14 => ?_)
      · skip
        refine WP.iconst dX6_becomeReplaced_30 ?_
        refine WP.istore (lt := [vR t, vR o, vI ((c : Nat) : Int), vR im, vI (0 : Int), vU, vU]) dX6_becomeReplaced_31 (by decide) rfl ?_
        have L33 : ∀ (n9 : Nat) (d : Nat) (M4 : Mem) (hd : d ≤ k2) (h1 : ∀ a, a ≠ t → a ≠ t + 1 → a ≠ t + 2 → M4 a = M a) (h2 : TX M4 t n (c + d) (rpS sz sz2 c k2) (rpC ce ce2 c k2)), k2 - d < n9 → WP sc0 4 m_X6_becomeReplaced 33 [vR t, vR o, vI ((c : Nat) : Int), vR im, vI ((d : Nat) : Int), vU, vU] [] M4 (fun z M' => z = none ∧ (∀ a, a ≠ t → a ≠ t + 1 → a ≠ t + 2 → M' a = M a) ∧ TX M' t n (k - 1 + k2) (rpS sz sz2 c k2) (rpC ce ce2 c k2)) := by
          intro n9
          induction n9 with
          | zero =>
            intro d M4 hd h1 h2 hm9
            exact absurd hm9 (Nat.not_lt_zero _)
          | succ n9 ih33 =>
            intro d M4 hd h1 h2 hm9
            have hO3 : TX M4 o n k sz ce := hO.fr (h1 o (by omega) (by omega) (by omega)) (h1 (o + 1) (by omega) (by omega) (by omega)) (h1 (o + 2) (by omega) (by omega) (by omega))
            have hI3 : TX M4 im n2 k2 sz2 ce2 := hI.fr (h1 im (by omega) (by omega) (by omega)) (h1 (im + 1) (by omega) (by omega) (by omega)) (h1 (im + 2) (by omega) (by omega) (by omega))
            refine WP.iload dX6_becomeReplaced_33 rfl ?_
            refine WP.aload_n dX6_becomeReplaced_35 rfl ?_
            refine WP.getI (x := ((k2 : Nat) : Int)) dX6_becomeReplaced_36 fl_X6_15 (shT0 hi) (by decide) (hI3.2.1) ?_
            refine WP.icmp_ge (tgt := 100) dX6_becomeReplaced_39 (by decide) (by omega) (by omega) (fun h39 => ?_) (fun h39 => ?_)
            · skip
              refine WP.iload_n dX6_becomeReplaced_100 rfl ?_
              refine WP.iconst dX6_becomeReplaced_101 ?_
              refine WP.iadd dX6_becomeReplaced_102 ?_
              refine WP.istore (lt := [vR t, vR o, vI ((c : Nat) : Int), vR im, vI (((c : Nat) : Int) + (1 : Int)), vU, vU]) dX6_becomeReplaced_103 (by decide) rfl ?_
              have L105 : ∀ (n9 : Nat) (d : Nat) (M8 : Mem) (hd3 : c + 1 ≤ d ∧ d ≤ k) (p1 : ∀ a, a ≠ t → a ≠ t + 1 → a ≠ t + 2 → M8 a = M a) (p2 : TX M8 t n (d - 1 + k2) (rpS sz sz2 c k2) (rpC ce ce2 c k2)), k - d < n9 → WP sc0 4 m_X6_becomeReplaced 105 [vR t, vR o, vI ((c : Nat) : Int), vR im, vI ((d : Nat) : Int), vU, vU] [] M8 (fun z M' => z = none ∧ (∀ a, a ≠ t → a ≠ t + 1 → a ≠ t + 2 → M' a = M a) ∧ TX M' t n (k - 1 + k2) (rpS sz sz2 c k2) (rpC ce ce2 c k2)) := by
                intro n9
                induction n9 with
                | zero =>
                  intro d M8 hd3 p1 p2 hm9
                  exact absurd hm9 (Nat.not_lt_zero _)
                | succ n9 ih105 =>
                  intro d M8 hd3 p1 p2 hm9
                  have hO4 : TX M8 o n k sz ce := hO.fr (p1 o (by omega) (by omega) (by omega)) (p1 (o + 1) (by omega) (by omega) (by omega)) (p1 (o + 2) (by omega) (by omega) (by omega))
                  refine WP.iload dX6_becomeReplaced_105 rfl ?_
                  refine WP.aload_n dX6_becomeReplaced_107 rfl ?_
                  refine WP.getI (x := ((k : Nat) : Int)) dX6_becomeReplaced_108 fl_X6_15 (shT0 ho) (by decide) (hO4.2.1) ?_
                  refine WP.icmp_ge (tgt := 127) dX6_becomeReplaced_111 (by decide) (by omega) (by omega) (fun h111 => ?_) (fun h111 => ?_)
                  · skip
                    refine WP.vret dX6_becomeReplaced_127 rfl ?_
                    refine ⟨rfl, p1, ?_⟩
                    have e : d = k := by omega
                    rw [← e]
                    exact p2
                  · skip
                    refine WP.aload_n dX6_becomeReplaced_114 rfl ?_
                    refine WP.aload_n dX6_becomeReplaced_115 rfl ?_
                    refine WP.iload dX6_becomeReplaced_116 rfl ?_
                    refine WP.callV (as := [vR o, vI ((d : Nat) : Int)]) dX6_becomeReplaced_118 mv_X6_68 rfl (shT0 ht) (by decide) rfl rfl (c_T_appendCopy (d := d) ht ho hto p2 hO4 b1 (by omega) b3 (by omega)) rfl (Nat.le_of_ble_eq_true rfl) (by omega) (fun r9 M9 h9 => ?_)
                    obtain ⟨rfl, e1, e2⟩ := h9
                    show WP sc0 4 m_X6_becomeReplaced 121 [vR t, vR o, vI ((c : Nat) : Int), vR im, vI ((d : Nat) : Int), vU, vU] [] M9 (fun z M' => z = none ∧ (∀ a, a ≠ t → a ≠ t + 1 → a ≠ t + 2 → M' a = M a) ∧ TX M' t n (k - 1 + k2) (rpS sz sz2 c k2) (rpC ce ce2 c k2))
                    refine WP.iinc (lt := [vR t, vR o, vI ((c : Nat) : Int), vR im, vI (((d : Nat) : Int) + 1), vU, vU]) dX6_becomeReplaced_121 rfl (by decide) rfl ?_
                    refine WP.goto (tgt := 105) dX6_becomeReplaced_124 (by decide) ?_
                    refine WP.fgt (lt := [vR t, vR o, vI ((c : Nat) : Int), vR im, vI (((d + 1) : Nat) : Int), vU, vU]) ⟨Or.inr rfl, Or.inr rfl, Or.inr rfl, Or.inr rfl, Or.inr (congrArg vI (by omega)), Or.inl rfl, Or.inl rfl, trivial⟩ ?_
                    exact ih105 (d + 1) (M9) (by omega) (fun a h1 h2 h3 => (e1 a h1 h2 h3).trans (p1 a h1 h2 h3)) (by
                      rw [show d + 1 - 1 + k2 = d - 1 + k2 + 1 by omega]
                      exact e2.cg (fun b hb => by
                        unfold apS
                        by_cases e : b = d - 1 + k2
                        · rw [if_pos e, e, rpS, if_neg (by omega), if_neg (by omega), show d - 1 + k2 - k2 + 1 = d by omega]
                        · rw [if_neg e]) (fun r _ b hb => by
                        unfold apC
                        by_cases e : b = d - 1 + k2
                        · rw [if_pos e, e, rpC, if_neg (by omega), if_neg (by omega), show d - 1 + k2 - k2 + 1 = d by omega]
                        · rw [if_neg e])) (by omega)
              refine WP.fgt (lt := [vR t, vR o, vI ((c : Nat) : Int), vR im, vI (((c + 1) : Nat) : Int), vU, vU]) ⟨Or.inr rfl, Or.inr rfl, Or.inr rfl, Or.inr rfl, Or.inr (congrArg vI (by omega)), Or.inl rfl, Or.inl rfl, trivial⟩ ?_
              exact L105 _ (c + 1) (M4) (by omega) (h1) (by rw [show c + 1 - 1 + k2 = c + d by omega]; exact h2) (Nat.lt_succ_self _)
            · skip
              refine WP.aload_n dX6_becomeReplaced_42 rfl ?_
              refine WP.aload_n dX6_becomeReplaced_43 rfl ?_
              refine WP.getR (y := (im + 1)) dX6_becomeReplaced_44 fl_X6_18 (shT0 hi) (by decide) (srT1 hi) ?_
              refine WP.iload dX6_becomeReplaced_47 rfl ?_
              refine WP.iaload (y := d) (x := ((sz2 d : Nat) : Int)) dX6_becomeReplaced_49 (shT1 hi) (by omega) (by omega) (hI3.2.2.1 d (by omega)) ?_
              refine WP.callV (as := [vI ((sz2 d : Nat) : Int)]) dX6_becomeReplaced_50 mv_X6_64 rfl (shT0 ht) (by decide) rfl rfl (c_T_append (s := sz2 d) ht h2 b1 (by omega)) rfl (Nat.le_of_ble_eq_true rfl) (by omega) (fun r9 M5 h9 => ?_)
              obtain ⟨rfl, e1, e2⟩ := h9
              show WP sc0 4 m_X6_becomeReplaced 53 [vR t, vR o, vI ((c : Nat) : Int), vR im, vI ((d : Nat) : Int), vU, vU] [vI ((c + d : Nat) : Int)] M5 (fun z M' => z = none ∧ (∀ a, a ≠ t → a ≠ t + 1 → a ≠ t + 2 → M' a = M a) ∧ TX M' t n (k - 1 + k2) (rpS sz sz2 c k2) (rpC ce ce2 c k2))
              refine WP.istore (lt := [vR t, vR o, vI ((c : Nat) : Int), vR im, vI ((d : Nat) : Int), vI ((c + d : Nat) : Int), vU]) dX6_becomeReplaced_53 (by decide) rfl ?_
              refine WP.iconst dX6_becomeReplaced_55 ?_
              refine WP.istore (lt := [vR t, vR o, vI ((c : Nat) : Int), vR im, vI ((d : Nat) : Int), vI ((c + d : Nat) : Int), vI (0 : Int)]) dX6_becomeReplaced_56 (by decide) rfl ?_
              have L58 : ∀ (n9 : Nat) (r : Nat) (M6 : Mem) (hr : r ≤ n) (q1 : ∀ a, a ≠ t + 2 → M6 a = M5 a) (q2 : TX M6 t n (c + d + 1) (apS (rpS sz sz2 c k2) (c + d) (sz2 d)) (fil (apC (rpC ce ce2 c k2) (c + d) (fun _ => 0)) (c + d) (fun q => ce2 (ce q c) d) r)), n - r < n9 → WP sc0 4 m_X6_becomeReplaced 58 [vR t, vR o, vI ((c : Nat) : Int), vR im, vI ((d : Nat) : Int), vI ((c + d : Nat) : Int), vI ((r : Nat) : Int)] [] M6 (fun z M' => z = none ∧ (∀ a, a ≠ t → a ≠ t + 1 → a ≠ t + 2 → M' a = M a) ∧ TX M' t n (k - 1 + k2) (rpS sz sz2 c k2) (rpC ce ce2 c k2)) := by
                intro n9
                induction n9 with
                | zero =>
                  intro r M6 hr q1 q2 hm9
                  exact absurd hm9 (Nat.not_lt_zero _)
                | succ n9 ih58 =>
                  intro r M6 hr q1 q2 hm9
                  have q3 : ∀ a, a ≠ t → a ≠ t + 1 → a ≠ t + 2 → M6 a = M a := fun a i1 i2 i3 => by rw [q1 a i3, e1 a i1 i2 i3, h1 a i1 i2 i3]
                  have hO6 : TX M6 o n k sz ce := hO.fr (q3 o (by omega) (by omega) (by omega)) (q3 (o + 1) (by omega) (by omega) (by omega)) (q3 (o + 2) (by omega) (by omega) (by omega))
                  have hI6 : TX M6 im n2 k2 sz2 ce2 := hI.fr (q3 im (by omega) (by omega) (by omega)) (q3 (im + 1) (by omega) (by omega) (by omega)) (q3 (im + 2) (by omega) (by omega) (by omega))
                  refine WP.iload dX6_becomeReplaced_58 rfl ?_
                  refine WP.aload_n dX6_becomeReplaced_60 rfl ?_
                  refine WP.getI (x := ((n : Nat) : Int)) dX6_becomeReplaced_61 fl_X6_9 (shT0 ht) (by decide) (q2.1) ?_
                  refine WP.icmp_ge (tgt := 94) dX6_becomeReplaced_64 (by decide) (by omega) (by omega) (fun h64 => ?_) (fun h64 => ?_)
                  · skip
                    refine WP.iinc (lt := [vR t, vR o, vI ((c : Nat) : Int), vR im, vI (((d : Nat) : Int) + 1), vI ((c + d : Nat) : Int), vI ((r : Nat) : Int)]) dX6_becomeReplaced_94 rfl (by decide) rfl ?_
                    refine WP.goto (tgt := 33) dX6_becomeReplaced_97 (by decide) ?_
                    refine WP.fgt (lt := [vR t, vR o, vI ((c : Nat) : Int), vR im, vI (((d + 1) : Nat) : Int), vU, vU]) ⟨Or.inr rfl, Or.inr rfl, Or.inr rfl, Or.inr rfl, Or.inr (congrArg vI (by omega)), Or.inl rfl, Or.inl rfl, trivial⟩ ?_
                    exact ih33 (d + 1) (M6) (by omega) (fun a i1 i2 i3 => by rw [q1 a i3, e1 a i1 i2 i3, h1 a i1 i2 i3]) (q2.cg (fun b hb => by
                      unfold apS
                      by_cases e : b = c + d
                      · rw [if_pos e, e, rpS, if_neg (by omega), if_pos (by omega), show c + d - c = d by omega]
                      · rw [if_neg e]) (fun r hr b hb => by
                      unfold fil apC
                      by_cases e : b = c + d
                      · rw [if_pos (by omega), e, rpC, if_neg (by omega), if_pos (by omega), show c + d - c = d by omega]
                      · rw [if_neg (by omega), if_neg e])) (by omega)
                  · skip
                    refine WP.aload_n dX6_becomeReplaced_67 rfl ?_
                    refine WP.iload dX6_becomeReplaced_68 rfl ?_
                    refine WP.iload dX6_becomeReplaced_70 rfl ?_
                    refine WP.aload_n dX6_becomeReplaced_72 rfl ?_
                    refine WP.aload_n dX6_becomeReplaced_73 rfl ?_
                    refine WP.iload dX6_becomeReplaced_74 rfl ?_
                    refine WP.iload_n dX6_becomeReplaced_76 rfl ?_
                    refine WP.callVp (as := [vI ((r : Nat) : Int), vI ((c : Nat) : Int)]) dX6_becomeReplaced_77 mv_X6_35 rfl (shT0 ho) (by decide) rfl rfl (c_T_at (r := r) (c := c) ho (by omega) (by omega) (hO6.2.2.2 r (by omega) c hc)) rfl (Nat.le_of_ble_eq_true rfl) (by omega) ?_
                    have w1 := hW.2.2.2 r (by omega) c hc
                    refine WP.iload dX6_becomeReplaced_80 rfl ?_
                    refine WP.callVp (as := [vI ((ce r c : Nat) : Int), vI ((d : Nat) : Int)]) dX6_becomeReplaced_82 mv_X6_35 rfl (shT0 hi) (by decide) rfl rfl (c_T_at (r := ce r c) (c := d) hi (by omega) (by omega) (hI6.2.2.2 (ce r c) (by omega) d (by omega))) rfl (Nat.le_of_ble_eq_true rfl) (by omega) ?_
                    refine WP.callV (as := [vI ((r : Nat) : Int), vI ((c + d : Nat) : Int), vI ((ce2 (ce r c) d : Nat) : Int)]) dX6_becomeReplaced_85 mv_X6_31 rfl (shT0 ht) (by decide) rfl rfl (c_T_setX (r := r) (c := c + d) (v := ce2 (ce r c) d) ht q2 (by omega) (by omega) (by omega)) rfl (Nat.le_of_ble_eq_true rfl) (by omega) (fun r9 M7 h9 => ?_)
                    obtain ⟨rfl, j1, j2⟩ := h9
                    show WP sc0 4 m_X6_becomeReplaced 88 [vR t, vR o, vI ((c : Nat) : Int), vR im, vI ((d : Nat) : Int), vI ((c + d : Nat) : Int), vI ((r : Nat) : Int)] [] M7 (fun z M' => z = none ∧ (∀ a, a ≠ t → a ≠ t + 1 → a ≠ t + 2 → M' a = M a) ∧ TX M' t n (k - 1 + k2) (rpS sz sz2 c k2) (rpC ce ce2 c k2))
                    refine WP.iinc (lt := [vR t, vR o, vI ((c : Nat) : Int), vR im, vI ((d : Nat) : Int), vI ((c + d : Nat) : Int), vI (((r : Nat) : Int) + 1)]) dX6_becomeReplaced_88 rfl (by decide) rfl ?_
                    refine WP.goto (tgt := 58) dX6_becomeReplaced_91 (by decide) ?_
                    refine WP.fgt (lt := [vR t, vR o, vI ((c : Nat) : Int), vR im, vI ((d : Nat) : Int), vI ((c + d : Nat) : Int), vI (((r + 1) : Nat) : Int)]) ⟨Or.inr rfl, Or.inr rfl, Or.inr rfl, Or.inr rfl, Or.inr rfl, Or.inr rfl, Or.inr (congrArg vI (by omega)), trivial⟩ ?_
                    exact ih58 (r + 1) (M7) (by omega) (fun a ha => (j1 a ha).trans (q1 a ha)) (j2.cg (fun _ _ => rfl) (fun q _ b _ => fil_s (f := fun q => ce2 (ce q c) d) rfl q b)) (by omega)
              refine WP.fgt (lt := [vR t, vR o, vI ((c : Nat) : Int), vR im, vI ((d : Nat) : Int), vI ((c + d : Nat) : Int), vI ((0 : Nat) : Int)]) ⟨Or.inr rfl, Or.inr rfl, Or.inr rfl, Or.inr rfl, Or.inr rfl, Or.inr rfl, Or.inr (congrArg vI (by omega)), trivial⟩ ?_
              exact L58 _ (0) (M5) (Nat.zero_le _) (fun _ _ => rfl) (e2.cg (fun _ _ => rfl) (fun q _ b _ => (if_neg (by omega)).symm)) (Nat.lt_succ_self _)
        refine WP.fgt (lt := [vR t, vR o, vI ((c : Nat) : Int), vR im, vI ((0 : Nat) : Int), vU, vU]) ⟨Or.inr rfl, Or.inr rfl, Or.inr rfl, Or.inr rfl, Or.inr (congrArg vI (by omega)), Or.inl rfl, Or.inl rfl, trivial⟩ ?_
        exact L33 _ (0) (M2) (Nat.zero_le _) (g1) (by rw [show c + 0 = d by omega]; exact g2) (Nat.lt_succ_self _)
      · skip
        refine WP.aload_n dX6_becomeReplaced_17 rfl ?_
        refine WP.aload_n dX6_becomeReplaced_18 rfl ?_
        refine WP.iload dX6_becomeReplaced_19 rfl ?_
        refine WP.callV (as := [vR o, vI ((d : Nat) : Int)]) dX6_becomeReplaced_21 mv_X6_68 rfl (shT0 ht) (by decide) rfl rfl (c_T_appendCopy (d := d) ht ho hto g2 hO2 b1 (by omega) b3 (by omega)) rfl (Nat.le_of_ble_eq_true rfl) (by omega) (fun r9 M3 h9 => ?_)
        obtain ⟨rfl, e1, e2⟩ := h9
        show WP sc0 4 m_X6_becomeReplaced 24 [vR t, vR o, vI ((c : Nat) : Int), vR im, vI ((d : Nat) : Int), vU, vU] [] M3 (fun z M' => z = none ∧ (∀ a, a ≠ t → a ≠ t + 1 → a ≠ t + 2 → M' a = M a) ∧ TX M' t n (k - 1 + k2) (rpS sz sz2 c k2) (rpC ce ce2 c k2))
        refine WP.iinc (lt := [vR t, vR o, vI ((c : Nat) : Int), vR im, vI (((d : Nat) : Int) + 1), vU, vU]) dX6_becomeReplaced_24 rfl (by decide) rfl ?_
        refine WP.goto (tgt := 11) dX6_becomeReplaced_27 (by decide) ?_
        refine WP.fgt (lt := [vR t, vR o, vI ((c : Nat) : Int), vR im, vI (((d + 1) : Nat) : Int), vU, vU]) ⟨Or.inr rfl, Or.inr rfl, Or.inr rfl, Or.inr rfl, Or.inr (congrArg vI (by omega)), Or.inl rfl, Or.inl rfl, trivial⟩ ?_
        exact ih11 (d + 1) (M3) (by omega) (fun a h1 h2 h3 => (e1 a h1 h2 h3).trans (g1 a h1 h2 h3)) (e2.cg (fun b hb => by
          unfold apS
          by_cases e : b = d
          · rw [if_pos e, e, rpS, if_pos (by omega)]
          · rw [if_neg e]) (fun r _ b hb => by
          unfold apC
          by_cases e : b = d
          · rw [if_pos e, e, rpC, if_pos (by omega)]
          · rw [if_neg e])) (by omega)
  refine WP.fgt (lt := [vR t, vR o, vI ((c : Nat) : Int), vR im, vI ((0 : Nat) : Int), vU, vU]) ⟨Or.inr rfl, Or.inr rfl, Or.inr rfl, Or.inr rfl, Or.inr (congrArg vI (by omega)), Or.inl rfl, Or.inl rfl, trivial⟩ ?_
  exact L11 _ (0) (M1) (Nat.zero_le _) (fA) (hT1) (Nat.lt_succ_self _)
def dvS (sz : Nat → Nat) (k n : Nat) : Nat → Nat := fun c => if c < k then sz 0 else n
def dvC (ce : Nat → Nat → Nat) (k s : Nat) : Nat → Nat → Nat := fun r c => if c < k then (ce (r / s) c + r % s) % s else r / s
set_option maxHeartbeats 4000000 in
set_option maxRecDepth 20000 in
theorem c_T_becomeDeveloped {M : Mem} {t o n k s m : Nat} {sz : Nat → Nat} {ce : Nat → Nat → Nat} {x : Int} (ht : isT t) (ho : isT o) (hto : o + 2 < t ∨ t + 2 < o) (hO : TX M o n k sz ce) (hW : Wf n k sz ce) (hs : sz 0 = s) (hsz : ∀ c, c < k → sz c = s) (b0 : 0 < k) (b1 : n * s ≤ 36) (b3 : n ≤ 36) (hx : x = (m : Int)) (hm : m = 0 ∨ m = 1) (b4 : k + m ≤ 7) : CT 3 m_X6_becomeDeveloped [vR t, vR o, vI x] M (fun z M' => z = none ∧ (∀ a, a ≠ t → a ≠ t + 1 → a ≠ t + 2 → M' a = M a) ∧ TX M' t (n * s) (k + m) (dvS sz k n) (dvC ce k s)) := by
  have hs2 := hW.2.2.1 0 b0
  have b2 := hW.2.1
  refine CT.ofWP (by decide +kernel) (Nat.le_of_ble_eq_true rfl) ?_
  show WP sc0 3 m_X6_becomeDeveloped 0 [vR t, vR o, vI x, vU, vU, vU] [] M (fun z M' => z = none ∧ (∀ a, a ≠ t → a ≠ t + 1 → a ≠ t + 2 → M' a = M a) ∧ TX M' t (n * s) (k + m) (dvS sz k n) (dvC ce k s))
  refine WP.aload_n dX6_becomeDeveloped_0 rfl ?_
  refine WP.getR (y := (o + 1)) dX6_becomeDeveloped_1 fl_X6_18 (shT0 ho) (by decide) (srT1 ho) ?_
  refine WP.iconst dX6_becomeDeveloped_4 ?_
  refine WP.iaload (y := 0) (x := ((s : Nat) : Int)) dX6_becomeDeveloped_5 (shT1 ho) (by omega) (by omega) (by rw [hO.2.2.1 0 b0, hs]) ?_
  refine WP.istore_n (lt := [vR t, vR o, vI x, vI ((s : Nat) : Int), vU, vU]) dX6_becomeDeveloped_6 (by decide) rfl ?_
  refine WP.aload_n dX6_becomeDeveloped_7 rfl ?_
  refine WP.aload_n dX6_becomeDeveloped_8 rfl ?_
  refine WP.getI (x := ((n : Nat) : Int)) dX6_becomeDeveloped_9 fl_X6_9 (shT0 ho) (by decide) (hO.1) ?_
  refine WP.iload_n dX6_becomeDeveloped_12 rfl ?_
  refine WP.imul dX6_becomeDeveloped_13 ?_
  refine WP.eqs (st' := [vI ((n * s : Nat) : Int), vR t]) rfl (lc (congrArg vI (by rw [Int.natCast_mul])) rfl) ?_
  refine WP.callV (as := [vI ((n * s : Nat) : Int)]) dX6_becomeDeveloped_14 mv_X6_59 rfl (shT0 ht) (by decide) rfl rfl (c_T_reset ht) rfl (Nat.le_of_ble_eq_true rfl) (by omega) (fun r9 M1 h9 => ?_)
  obtain ⟨rfl, f1, f2, f3⟩ := h9
  show WP sc0 3 m_X6_becomeDeveloped 17 [vR t, vR o, vI x, vI ((s : Nat) : Int), vU, vU] [] M1 (fun z M' => z = none ∧ (∀ a, a ≠ t → a ≠ t + 1 → a ≠ t + 2 → M' a = M a) ∧ TX M' t (n * s) (k + m) (dvS sz k n) (dvC ce k s))
  have fA : ∀ a, a ≠ t → a ≠ t + 1 → a ≠ t + 2 → M1 a = M a := fun a h1 h2 h3 => f1 a h1
  have hT1 : TX M1 t (n * s) 0 (dvS sz k n) (dvC ce k s) := ⟨f2, f3, fun b hb => absurd hb (Nat.not_lt_zero b), fun r hr b hb => absurd hb (Nat.not_lt_zero b)⟩
  refine WP.iconst dX6_becomeDeveloped_17 ?_
  refine WP.istore (lt := [vR t, vR o, vI x, vI ((s : Nat) : Int), vI (0 : Int), vU]) dX6_becomeDeveloped_18 (by decide) rfl ?_
  have L20 : ∀ (n9 : Nat) (d : Nat) (M2 : Mem) (hd : d ≤ k) (g1 : ∀ a, a ≠ t → a ≠ t + 1 → a ≠ t + 2 → M2 a = M a) (g2 : TX M2 t (n * s) d (dvS sz k n) (dvC ce k s)), k - d < n9 → WP sc0 3 m_X6_becomeDeveloped 20 [vR t, vR o, vI x, vI ((s : Nat) : Int), vI ((d : Nat) : Int), vU] [] M2 (fun z M' => z = none ∧ (∀ a, a ≠ t → a ≠ t + 1 → a ≠ t + 2 → M' a = M a) ∧ TX M' t (n * s) (k + m) (dvS sz k n) (dvC ce k s)) := by
    intro n9
    induction n9 with
    | zero =>
      intro d M2 hd g1 g2 hm9
      exact absurd hm9 (Nat.not_lt_zero _)
    | succ n9 ih20 =>
      intro d M2 hd g1 g2 hm9
      have hO2 : TX M2 o n k sz ce := hO.fr (g1 o (by omega) (by omega) (by omega)) (g1 (o + 1) (by omega) (by omega) (by omega)) (g1 (o + 2) (by omega) (by omega) (by omega))
      refine WP.iload dX6_becomeDeveloped_20 rfl ?_
      refine WP.aload_n dX6_becomeDeveloped_22 rfl ?_
      refine WP.getI (x := ((k : Nat) : Int)) dX6_becomeDeveloped_23 fl_X6_15 (shT0 ho) (by decide) (hO2.2.1) ?_
      refine WP.icmp_ge (tgt := 84) dX6_becomeDeveloped_26 (by decide) (by omega) (by omega) (fun h26 => ?_) (fun h26 => ?_)
      · skip
        have edk : d = k := by omega
        refine WP.iload_n dX6_becomeDeveloped_84 rfl ?_
        refine WP.if_eq (tgt := 128) dX6_becomeDeveloped_85 (by decide) (by omega) (fun h85 => ?_) (fun h85 => ?_)
        · skip
          have hm0 : m = 0 := by omega
          refine WP.vret dX6_becomeDeveloped_128 rfl ?_
          refine ⟨rfl, g1, ?_⟩
          rw [show k + m = d by omega]
          exact g2
        · skip
          have hm1 : m = 1 := by omega
          refine WP.aload_n dX6_becomeDeveloped_88 rfl ?_
          refine WP.aload_n dX6_becomeDeveloped_89 rfl ?_
          refine WP.getI (x := ((n : Nat) : Int)) dX6_becomeDeveloped_90 fl_X6_9 (shT0 ho) (by decide) (hO2.1) ?_
          refine WP.callV (as := [vI ((n : Nat) : Int)]) dX6_becomeDeveloped_93 mv_X6_64 rfl (shT0 ht) (by decide) rfl rfl (c_T_append (s := n) ht g2 b1 (by omega)) rfl (Nat.le_of_ble_eq_true rfl) (by omega) (fun r9 M5 h9 => ?_)
          obtain ⟨rfl, e1, e2⟩ := h9
          show WP sc0 3 m_X6_becomeDeveloped 96 [vR t, vR o, vI x, vI ((s : Nat) : Int), vI ((d : Nat) : Int), vU] [vI ((d : Nat) : Int)] M5 (fun z M' => z = none ∧ (∀ a, a ≠ t → a ≠ t + 1 → a ≠ t + 2 → M' a = M a) ∧ TX M' t (n * s) (k + m) (dvS sz k n) (dvC ce k s))
          refine WP.istore (lt := [vR t, vR o, vI x, vI ((s : Nat) : Int), vI ((d : Nat) : Int), vU]) dX6_becomeDeveloped_96 (by decide) rfl ?_
          refine WP.iconst dX6_becomeDeveloped_98 ?_
          refine WP.istore (lt := [vR t, vR o, vI x, vI ((s : Nat) : Int), vI ((d : Nat) : Int), vI (0 : Int)]) dX6_becomeDeveloped_99 (by decide) rfl ?_
          have L101 : ∀ (n9 : Nat) (r : Nat) (M7 : Mem) (hr : r ≤ n * s) (q1 : ∀ a, a ≠ t + 2 → M7 a = M5 a) (q2 : TX M7 t (n * s) (d + 1) (apS (dvS sz k n) d n) (fil (apC (dvC ce k s) d (fun _ => 0)) d (fun q => q / s) r)), n * s - r < n9 → WP sc0 3 m_X6_becomeDeveloped 101 [vR t, vR o, vU, vI ((s : Nat) : Int), vI ((d : Nat) : Int), vI ((r : Nat) : Int)] [] M7 (fun z M' => z = none ∧ (∀ a, a ≠ t → a ≠ t + 1 → a ≠ t + 2 → M' a = M a) ∧ TX M' t (n * s) (k + m) (dvS sz k n) (dvC ce k s)) := by
            intro n9
            induction n9 with
            | zero =>
              intro r M7 hr q1 q2 hm9
              exact absurd hm9 (Nat.not_lt_zero _)
            | succ n9 ih101 =>
              intro r M7 hr q1 q2 hm9
              refine WP.iload dX6_becomeDeveloped_101 rfl ?_
              refine WP.aload_n dX6_becomeDeveloped_103 rfl ?_
              refine WP.getI (x := ((n * s : Nat) : Int)) dX6_becomeDeveloped_104 fl_X6_9 (shT0 ht) (by decide) (q2.1) ?_
              refine WP.icmp_ge (tgt := 128) dX6_becomeDeveloped_107 (by decide) (by omega) (by omega) (fun h107 => ?_) (fun h107 => ?_)
              · skip
                refine WP.vret dX6_becomeDeveloped_128 rfl ?_
                refine ⟨rfl, fun a i1 i2 i3 => by rw [q1 a i3, e1 a i1 i2 i3, g1 a i1 i2 i3], ?_⟩
                rw [show k + m = d + 1 by omega]
                exact q2.cg (fun b hb => by
                  unfold apS
                  by_cases e : b = d
                  · rw [if_pos e, e, dvS, if_neg (by omega)]
                  · rw [if_neg e]) (fun r hr b hb => by
                  unfold fil apC
                  by_cases e : b = d
                  · rw [if_pos (by omega), e, dvC, if_neg (by omega)]
                  · rw [if_neg (by omega), if_neg e])
              · skip
                refine WP.aload_n dX6_becomeDeveloped_110 rfl ?_
                refine WP.iload dX6_becomeDeveloped_111 rfl ?_
                refine WP.iload dX6_becomeDeveloped_113 rfl ?_
                refine WP.iload dX6_becomeDeveloped_115 rfl ?_
                refine WP.iload_n dX6_becomeDeveloped_117 rfl ?_
                refine WP.idiv dX6_becomeDeveloped_118 (by omega) (by omega) ?_
                refine WP.eqs (st' := [vI ((r / s : Nat) : Int), vI ((d : Nat) : Int), vI ((r : Nat) : Int), vR t]) rfl (lc (congrArg vI (by rw [Int.natCast_ediv])) rfl) ?_
                refine WP.callV (as := [vI ((r : Nat) : Int), vI ((d : Nat) : Int), vI ((r / s : Nat) : Int)]) dX6_becomeDeveloped_119 mv_X6_31 rfl (shT0 ht) (by decide) rfl rfl (c_T_setX (r := r) (c := d) (v := r / s) ht q2 (by omega) (by omega) (by omega)) rfl (Nat.le_of_ble_eq_true rfl) (by omega) (fun r9 M8 h9 => ?_)
                obtain ⟨rfl, j1, j2⟩ := h9
                show WP sc0 3 m_X6_becomeDeveloped 122 [vR t, vR o, vU, vI ((s : Nat) : Int), vI ((d : Nat) : Int), vI ((r : Nat) : Int)] [] M8 (fun z M' => z = none ∧ (∀ a, a ≠ t → a ≠ t + 1 → a ≠ t + 2 → M' a = M a) ∧ TX M' t (n * s) (k + m) (dvS sz k n) (dvC ce k s))
                refine WP.iinc (lt := [vR t, vR o, vU, vI ((s : Nat) : Int), vI ((d : Nat) : Int), vI (((r : Nat) : Int) + 1)]) dX6_becomeDeveloped_122 rfl (by decide) rfl ?_
                refine WP.goto (tgt := 101) dX6_becomeDeveloped_125 (by decide) ?_
                refine WP.fgt (lt := [vR t, vR o, vU, vI ((s : Nat) : Int), vI ((d : Nat) : Int), vI (((r + 1) : Nat) : Int)]) ⟨Or.inr rfl, Or.inr rfl, Or.inl rfl, Or.inr rfl, Or.inr rfl, Or.inr (congrArg vI (by omega)), trivial⟩ ?_
                exact ih101 (r + 1) (M8) (by omega) (fun a ha => (j1 a ha).trans (q1 a ha)) (j2.cg (fun _ _ => rfl) (fun q _ b _ => fil_s (f := fun q => q / s) rfl q b)) (by omega)
          refine WP.fgt (lt := [vR t, vR o, vU, vI ((s : Nat) : Int), vI ((d : Nat) : Int), vI ((0 : Nat) : Int)]) ⟨Or.inr rfl, Or.inr rfl, Or.inl rfl, Or.inr rfl, Or.inr rfl, Or.inr (congrArg vI (by omega)), trivial⟩ ?_
          exact L101 _ (0) (M5) (Nat.zero_le _) (fun _ _ => rfl) (e2.cg (fun _ _ => rfl) (fun q _ b _ => (if_neg (by omega)).symm)) (Nat.lt_succ_self _)
      · skip
        refine WP.aload_n dX6_becomeDeveloped_29 rfl ?_
        refine WP.iload_n dX6_becomeDeveloped_30 rfl ?_
        refine WP.callV (as := [vI ((s : Nat) : Int)]) dX6_becomeDeveloped_31 mv_X6_64 rfl (shT0 ht) (by decide) rfl rfl (c_T_append (s := s) ht g2 b1 (by omega)) rfl (Nat.le_of_ble_eq_true rfl) (by omega) (fun r9 M3 h9 => ?_)
        obtain ⟨rfl, e1, e2⟩ := h9
        show WP sc0 3 m_X6_becomeDeveloped 34 [vR t, vR o, vI x, vI ((s : Nat) : Int), vI ((d : Nat) : Int), vU] [vI ((d : Nat) : Int)] M3 (fun z M' => z = none ∧ (∀ a, a ≠ t → a ≠ t + 1 → a ≠ t + 2 → M' a = M a) ∧ TX M' t (n * s) (k + m) (dvS sz k n) (dvC ce k s))
        refine WP.pop dX6_becomeDeveloped_34 rfl ?_
        refine WP.iconst dX6_becomeDeveloped_35 ?_
        refine WP.istore (lt := [vR t, vR o, vI x, vI ((s : Nat) : Int), vI ((d : Nat) : Int), vI (0 : Int)]) dX6_becomeDeveloped_36 (by decide) rfl ?_
        have L38 : ∀ (n9 : Nat) (r : Nat) (M4 : Mem) (hr : r ≤ n * s) (q1 : ∀ a, a ≠ t + 2 → M4 a = M3 a) (q2 : TX M4 t (n * s) (d + 1) (apS (dvS sz k n) d s) (fil (apC (dvC ce k s) d (fun _ => 0)) d (fun q => (ce (q / s) d + q % s) % s) r)), n * s - r < n9 → WP sc0 3 m_X6_becomeDeveloped 38 [vR t, vR o, vI x, vI ((s : Nat) : Int), vI ((d : Nat) : Int), vI ((r : Nat) : Int)] [] M4 (fun z M' => z = none ∧ (∀ a, a ≠ t → a ≠ t + 1 → a ≠ t + 2 → M' a = M a) ∧ TX M' t (n * s) (k + m) (dvS sz k n) (dvC ce k s)) := by
          intro n9
          induction n9 with
          | zero =>
            intro r M4 hr q1 q2 hm9
            exact absurd hm9 (Nat.not_lt_zero _)
          | succ n9 ih38 =>
            intro r M4 hr q1 q2 hm9
            have q3 : ∀ a, a ≠ t → a ≠ t + 1 → a ≠ t + 2 → M4 a = M a := fun a i1 i2 i3 => by rw [q1 a i3, e1 a i1 i2 i3, g1 a i1 i2 i3]
            have hO4 : TX M4 o n k sz ce := hO.fr (q3 o (by omega) (by omega) (by omega)) (q3 (o + 1) (by omega) (by omega) (by omega)) (q3 (o + 2) (by omega) (by omega) (by omega))
            refine WP.iload dX6_becomeDeveloped_38 rfl ?_
            refine WP.aload_n dX6_becomeDeveloped_40 rfl ?_
            refine WP.getI (x := ((n * s : Nat) : Int)) dX6_becomeDeveloped_41 fl_X6_9 (shT0 ht) (by decide) (q2.1) ?_
            refine WP.icmp_ge (tgt := 78) dX6_becomeDeveloped_44 (by decide) (by omega) (by omega) (fun h44 => ?_) (fun h44 => ?_)
            · skip
              refine WP.iinc (lt := [vR t, vR o, vI x, vI ((s : Nat) : Int), vI (((d : Nat) : Int) + 1), vI ((r : Nat) : Int)]) dX6_becomeDeveloped_78 rfl (by decide) rfl ?_
              refine WP.goto (tgt := 20) dX6_becomeDeveloped_81 (by decide) ?_
              refine WP.fgt (lt := [vR t, vR o, vI x, vI ((s : Nat) : Int), vI (((d + 1) : Nat) : Int), vU]) ⟨Or.inr rfl, Or.inr rfl, Or.inr rfl, Or.inr rfl, Or.inr (congrArg vI (by omega)), Or.inl rfl, trivial⟩ ?_
              exact ih20 (d + 1) (M4) (by omega) (fun a i1 i2 i3 => by rw [q1 a i3, e1 a i1 i2 i3, g1 a i1 i2 i3]) (q2.cg (fun b hb => by
                unfold apS
                by_cases e : b = d
                · rw [if_pos e, e, dvS, if_pos (by omega), hs]
                · rw [if_neg e]) (fun r hr b hb => by
                unfold fil apC
                by_cases e : b = d
                · rw [if_pos (by omega), e, dvC, if_pos (by omega)]
                · rw [if_neg (by omega), if_neg e])) (by omega)
            · skip
              have hrs : r / s < n := Nat.div_lt_of_lt_mul (by rw [Nat.mul_comm]; omega)
              have hrm : r % s < s := Nat.mod_lt _ (by omega)
              refine WP.aload_n dX6_becomeDeveloped_47 rfl ?_
              refine WP.iload dX6_becomeDeveloped_48 rfl ?_
              refine WP.iload dX6_becomeDeveloped_50 rfl ?_
              refine WP.aload_n dX6_becomeDeveloped_52 rfl ?_
              refine WP.iload dX6_becomeDeveloped_53 rfl ?_
              refine WP.iload_n dX6_becomeDeveloped_55 rfl ?_
              refine WP.idiv dX6_becomeDeveloped_56 (by omega) (by omega) ?_
              refine WP.eqs (st' := [vI ((r / s : Nat) : Int), vR o, vI ((d : Nat) : Int), vI ((r : Nat) : Int), vR t]) rfl (lc (congrArg vI (by rw [Int.natCast_ediv])) rfl) ?_
              refine WP.iload dX6_becomeDeveloped_57 rfl ?_
              refine WP.callVp (as := [vI ((r / s : Nat) : Int), vI ((d : Nat) : Int)]) dX6_becomeDeveloped_59 mv_X6_35 rfl (shT0 ho) (by decide) rfl rfl (c_T_at (r := r / s) (c := d) ho (by omega) (by omega) (hO4.2.2.2 (r / s) hrs d (by omega))) rfl (Nat.le_of_ble_eq_true rfl) (by omega) ?_
              have w1 := hW.2.2.2 (r / s) hrs d (by omega)
              have w2 := hW.2.2.1 d (by omega)
              refine WP.iload dX6_becomeDeveloped_62 rfl ?_
              refine WP.iload_n dX6_becomeDeveloped_64 rfl ?_
              refine WP.irem dX6_becomeDeveloped_65 (by omega) (by omega) ?_
              refine WP.eqs (st' := [vI ((r % s : Nat) : Int), vI ((ce (r / s) d : Nat) : Int), vI ((d : Nat) : Int), vI ((r : Nat) : Int), vR t]) rfl (lc (congrArg vI (by rw [Int.natCast_emod])) rfl) ?_
              refine WP.iadd dX6_becomeDeveloped_66 ?_
              refine WP.iload_n dX6_becomeDeveloped_67 rfl ?_
              refine WP.irem dX6_becomeDeveloped_68 (by omega) (by omega) ?_
              refine WP.eqs (st' := [vI (((ce (r / s) d + r % s) % s : Nat) : Int), vI ((d : Nat) : Int), vI ((r : Nat) : Int), vR t]) rfl (lc (congrArg vI (by simp only [Int.natCast_emod, Int.natCast_add])) rfl) ?_
              refine WP.callV (as := [vI ((r : Nat) : Int), vI ((d : Nat) : Int), vI (((ce (r / s) d + r % s) % s : Nat) : Int)]) dX6_becomeDeveloped_69 mv_X6_31 rfl (shT0 ht) (by decide) rfl rfl (c_T_setX (r := r) (c := d) (v := (ce (r / s) d + r % s) % s) ht q2 (by omega) (by omega) (by omega)) rfl (Nat.le_of_ble_eq_true rfl) (by omega) (fun r9 M6 h9 => ?_)
              obtain ⟨rfl, j1, j2⟩ := h9
              show WP sc0 3 m_X6_becomeDeveloped 72 [vR t, vR o, vI x, vI ((s : Nat) : Int), vI ((d : Nat) : Int), vI ((r : Nat) : Int)] [] M6 (fun z M' => z = none ∧ (∀ a, a ≠ t → a ≠ t + 1 → a ≠ t + 2 → M' a = M a) ∧ TX M' t (n * s) (k + m) (dvS sz k n) (dvC ce k s))
              refine WP.iinc (lt := [vR t, vR o, vI x, vI ((s : Nat) : Int), vI ((d : Nat) : Int), vI (((r : Nat) : Int) + 1)]) dX6_becomeDeveloped_72 rfl (by decide) rfl ?_
              refine WP.goto (tgt := 38) dX6_becomeDeveloped_75 (by decide) ?_
              refine WP.fgt (lt := [vR t, vR o, vI x, vI ((s : Nat) : Int), vI ((d : Nat) : Int), vI (((r + 1) : Nat) : Int)]) ⟨Or.inr rfl, Or.inr rfl, Or.inr rfl, Or.inr rfl, Or.inr rfl, Or.inr (congrArg vI (by omega)), trivial⟩ ?_
              exact ih38 (r + 1) (M6) (by omega) (fun a ha => (j1 a ha).trans (q1 a ha)) (j2.cg (fun _ _ => rfl) (fun q _ b _ => fil_s (f := fun q => (ce (q / s) d + q % s) % s) rfl q b)) (by omega)
        refine WP.fgt (lt := [vR t, vR o, vI x, vI ((s : Nat) : Int), vI ((d : Nat) : Int), vI ((0 : Nat) : Int)]) ⟨Or.inr rfl, Or.inr rfl, Or.inr rfl, Or.inr rfl, Or.inr rfl, Or.inr (congrArg vI (by omega)), trivial⟩ ?_
        exact L38 _ (0) (M3) (Nat.zero_le _) (fun _ _ => rfl) (e2.cg (fun _ _ => rfl) (fun q _ b _ => (if_neg (by omega)).symm)) (Nat.lt_succ_self _)
  refine WP.fgt (lt := [vR t, vR o, vI x, vI ((s : Nat) : Int), vI ((0 : Nat) : Int), vU]) ⟨Or.inr rfl, Or.inr rfl, Or.inr rfl, Or.inr rfl, Or.inr (congrArg vI (by omega)), Or.inl rfl, trivial⟩ ?_
  exact L20 _ (0) (M1) (Nat.zero_le _) (fA) (hT1) (Nat.lt_succ_self _)
def dg (L j : Nat) : Nat := L / 10 ^ j % 10
/-- the product of the last j digits -/
def pwd (L : Nat) : Nat → Nat
  | 0 => 1
  | j + 1 => pwd L j * dg L j
def un (i : Nat) : Nat := if i = 0 then 0 else 10 ^ (i - 1)
theorem un_s (i : Nat) : un (i + 1) = 10 ^ i := rfl
theorem un_d : ∀ i, i < 8 → 0 < i → un i / 10 = un (i - 1) := by decide +kernel
theorem un_le : ∀ i, i < 8 → un i ≤ 1000000 := by decide +kernel
theorem un_pos : ∀ i, i < 8 → (0 < un i ↔ 0 < i) := by decide +kernel
def faS (L D : Nat) : Nat → Nat := fun c => dg L (D - 1 - c)
def faC (L D : Nat) : Nat → Nat → Nat := fun r c => r / pwd L (D - 1 - c) % dg L (D - 1 - c)
theorem dg_hi {L D j : Nat} (h : L < 10 ^ D) (hj : D ≤ j) : dg L j = 0 := by
  have h2 : 10 ^ D ≤ 10 ^ j := Nat.pow_le_pow_right (by decide) hj
  unfold dg
  rw [Nat.div_eq_of_lt (by omega)]
theorem dg_lt (L j : Nat) : dg L j < 10 := Nat.mod_lt _ (by decide)
theorem pwd_pos {L D : Nat} (h : ∀ j, j < D → 2 ≤ dg L j ∧ dg L j ≤ 6) : ∀ j, j ≤ D → 0 < pwd L j ∧ pwd L j ≤ 6 ^ j
  | 0, _ => ⟨Nat.one_pos, Nat.le_refl _⟩
  | j + 1, hj => by
    obtain ⟨h1, h2⟩ := pwd_pos h j (by omega)
    have h3 := h j (by omega)
    rw [pwd, Nat.pow_succ]
    exact ⟨Nat.mul_pos h1 (by omega), Nat.mul_le_mul h2 h3.2⟩
set_option maxHeartbeats 4000000 in
set_option maxRecDepth 20000 in
theorem c_T_becomeFactorial {M : Mem} {t n L D : Nat} (ht : isT t) (b1 : n ≤ 36) (hL : L < 10 ^ D) (hD : 1 ≤ D ∧ D ≤ 7) (hL7 : L ≤ 9999999) (hd : ∀ j, j < D → 2 ≤ dg L j ∧ dg L j ≤ 6) : CT 3 m_X6_becomeFactorial [vR t, vI ((L : Nat) : Int), vI ((n : Nat) : Int)] M (fun z M' => z = none ∧ (∀ a, a ≠ t → a ≠ t + 1 → a ≠ t + 2 → M' a = M a) ∧ TX M' t n D (faS L D) (faC L D)) := by
  refine CT.ofWP (by decide +kernel) (Nat.le_of_ble_eq_true rfl) ?_
  show WP sc0 3 m_X6_becomeFactorial 0 [vR t, vI ((L : Nat) : Int), vI ((n : Nat) : Int), vU, vU, vU] [] M (fun z M' => z = none ∧ (∀ a, a ≠ t → a ≠ t + 1 → a ≠ t + 2 → M' a = M a) ∧ TX M' t n D (faS L D) (faC L D))
  refine WP.aload_n dX6_becomeFactorial_0 rfl ?_
  refine WP.iload_n dX6_becomeFactorial_1 rfl ?_
  refine WP.callV (as := [vI ((n : Nat) : Int)]) dX6_becomeFactorial_2 mv_X6_59 rfl (shT0 ht) (by decide) rfl rfl (c_T_reset ht) rfl (Nat.le_of_ble_eq_true rfl) (by omega) (fun r9 M1 h9 => ?_)
  obtain ⟨rfl, f1, f2, f3⟩ := h9
  show WP sc0 3 m_X6_becomeFactorial 5 [vR t, vI ((L : Nat) : Int), vI ((n : Nat) : Int), vU, vU, vU] [] M1 (fun z M' => z = none ∧ (∀ a, a ≠ t → a ≠ t + 1 → a ≠ t + 2 → M' a = M a) ∧ TX M' t n D (faS L D) (faC L D))
  have hT1 : TX M1 t n (D - 7) (faS L D) (fun _ _ => 0) := ⟨f2, by rw [f3]; omega, fun c hc => absurd hc (by omega), fun r hr c hc => absurd hc (by omega)⟩
  have fA : ∀ a, a ≠ t → a ≠ t + 1 → a ≠ t + 2 → M1 a = M a := fun a h1 h2 h3 => f1 a h1
  refine WP.ldc (x := 1000000) dX6_becomeFactorial_5 w_k_X6_63 (by decide) ?_
  refine WP.istore_n (lt := [vR t, vI ((L : Nat) : Int), vI ((n : Nat) : Int), vI (1000000 : Int), vU, vU]) dX6_becomeFactorial_7 (by decide) rfl ?_
  have L8 : ∀ (n9 : Nat) (i : Nat) (M2 : Mem) (hi : i ≤ 7) (g1 : ∀ a, a ≠ t → a ≠ t + 1 → a ≠ t + 2 → M2 a = M a) (g2 : TX M2 t n (D - i) (faS L D) (fun _ _ => 0)), i < n9 → WP sc0 3 m_X6_becomeFactorial 8 [vR t, vI ((L : Nat) : Int), vI ((n : Nat) : Int), vI ((un i : Nat) : Int), vU, vU] [] M2 (fun z M' => z = none ∧ (∀ a, a ≠ t → a ≠ t + 1 → a ≠ t + 2 → M' a = M a) ∧ TX M' t n D (faS L D) (faC L D)) := by
    intro n9
    induction n9 with
    | zero =>
      intro i M2 hi g1 g2 hm9
      exact absurd hm9 (Nat.not_lt_zero _)
    | succ n9 ih8 =>
      intro i M2 hi g1 g2 hm9
      have u1 := un_le i (by omega)
      have u2 := un_pos i (by omega)
      refine WP.iload_n dX6_becomeFactorial_8 rfl ?_
      refine WP.if_le (tgt := 40) dX6_becomeFactorial_9 (by decide) (by omega) (fun h9 => ?_) (fun h9 => ?_)
      · skip
        have hi0 : i = 0 := by omega
        refine WP.iconst dX6_becomeFactorial_40 ?_
        refine WP.istore_n (lt := [vR t, vI ((L : Nat) : Int), vI ((n : Nat) : Int), vI (1 : Int), vU, vU]) dX6_becomeFactorial_41 (by decide) rfl ?_
        refine WP.aload_n dX6_becomeFactorial_42 rfl ?_
        refine WP.getI (x := ((D : Nat) : Int)) dX6_becomeFactorial_43 fl_X6_15 (shT0 ht) (by decide) (by rw [g2.2.1, hi0]; rfl) ?_
        refine WP.iconst dX6_becomeFactorial_46 ?_
        refine WP.isub dX6_becomeFactorial_47 ?_
        refine WP.istore (lt := [vR t, vI ((L : Nat) : Int), vI ((n : Nat) : Int), vI (1 : Int), vI (((D : Nat) : Int) - (1 : Int)), vU]) dX6_becomeFactorial_48 (by decide) rfl ?_
        have L50 : ∀ (n9 : Nat) (j : Nat) (M4 : Mem) (hj : j ≤ D) (p1 : ∀ a, a ≠ t → a ≠ t + 1 → a ≠ t + 2 → M4 a = M a) (p2 : TX M4 t n D (faS L D) (fun r c => if D ≤ c + j then faC L D r c else 0)), D + 1 - j < n9 → WP sc0 3 m_X6_becomeFactorial 50 [vR t, vU, vU, vI ((pwd L j : Nat) : Int), vI (((D : Nat) : Int) - 1 - ((j : Nat) : Int)), vU] [] M4 (fun z M' => z = none ∧ (∀ a, a ≠ t → a ≠ t + 1 → a ≠ t + 2 → M' a = M a) ∧ TX M' t n D (faS L D) (faC L D)) := by
          intro n9
          induction n9 with
          | zero =>
            intro j M4 hj p1 p2 hm9
            exact absurd hm9 (Nat.not_lt_zero _)
          | succ n9 ih50 =>
            intro j M4 hj p1 p2 hm9
            obtain ⟨w1, w2⟩ := pwd_pos hd j hj
            have w3 : 6 ^ j ≤ 6 ^ 7 := Nat.pow_le_pow_right (by decide) (by omega)
            have w4 : 6 ^ 7 = 279936 := by decide
            refine WP.iload dX6_becomeFactorial_50 rfl ?_
            refine WP.if_lt (tgt := 109) dX6_becomeFactorial_52 (by decide) (by omega) (fun h52 => ?_) (fun h52 => ?_)
            · skip
              refine WP.vret dX6_becomeFactorial_109 rfl ?_
              refine ⟨rfl, p1, p2.cg (fun _ _ => rfl) (fun r _ c hc => ?_)⟩
              rw [if_pos (by omega)]
            · skip
              have hjD : j < D := by omega
              have w5 := hd j hjD
              refine WP.iconst dX6_becomeFactorial_55 ?_
              refine WP.istore (lt := [vR t, vU, vU, vI ((pwd L j : Nat) : Int), vI (((D : Nat) : Int) - 1 - ((j : Nat) : Int)), vI (0 : Int)]) dX6_becomeFactorial_56 (by decide) rfl ?_
              have L58 : ∀ (n9 : Nat) (r : Nat) (M5 : Mem) (hr : r ≤ n) (q1 : ∀ a, a ≠ t + 2 → M5 a = M4 a) (q2 : TX M5 t n D (faS L D) (fil (fun r c => if D ≤ c + j then faC L D r c else 0) (D - 1 - j) (fun r => r / pwd L j % dg L j) r)), n - r < n9 → WP sc0 3 m_X6_becomeFactorial 58 [vR t, vU, vU, vI ((pwd L j : Nat) : Int), vI (((D : Nat) : Int) - 1 - ((j : Nat) : Int)), vI ((r : Nat) : Int)] [] M5 (fun z M' => z = none ∧ (∀ a, a ≠ t → a ≠ t + 1 → a ≠ t + 2 → M' a = M a) ∧ TX M' t n D (faS L D) (faC L D)) := by
                intro n9
                induction n9 with
                | zero =>
                  intro r M5 hr q1 q2 hm9
                  exact absurd hm9 (Nat.not_lt_zero _)
                | succ n9 ih58 =>
                  intro r M5 hr q1 q2 hm9
                  refine WP.iload dX6_becomeFactorial_58 rfl ?_
                  refine WP.aload_n dX6_becomeFactorial_60 rfl ?_
                  refine WP.getI (x := ((n : Nat) : Int)) dX6_becomeFactorial_61 fl_X6_9 (shT0 ht) (by decide) (q2.1) ?_
                  refine WP.icmp_ge (tgt := 93) dX6_becomeFactorial_64 (by decide) (by omega) (by omega) (fun h64 => ?_) (fun h64 => ?_)
                  · skip
                    refine WP.iload_n dX6_becomeFactorial_93 rfl ?_
                    refine WP.aload_n dX6_becomeFactorial_94 rfl ?_
                    refine WP.getR (y := (t + 1)) dX6_becomeFactorial_95 fl_X6_18 (shT0 ht) (by decide) (srT1 ht) ?_
                    refine WP.iload dX6_becomeFactorial_98 rfl ?_
                    refine WP.iaload (y := (D - 1 - j)) (x := ((dg L j : Nat) : Int)) dX6_becomeFactorial_100 (shT1 ht) (by omega) (by omega) (by rw [q2.2.2.1 (D - 1 - j) (by omega), faS, show D - 1 - (D - 1 - j) = j by omega]) ?_
                    refine WP.imul dX6_becomeFactorial_101 ?_
                    refine WP.istore_n (lt := [vR t, vU, vU, vI (((pwd L j : Nat) : Int) * ((dg L j : Nat) : Int)), vI (((D : Nat) : Int) - 1 - ((j : Nat) : Int)), vI ((r : Nat) : Int)]) dX6_becomeFactorial_102 (by decide) rfl ?_
                    refine WP.iinc (lt := [vR t, vU, vU, vI (((pwd L j : Nat) : Int) * ((dg L j : Nat) : Int)), vI (((D : Nat) : Int) - 1 - ((j : Nat) : Int) + (-1)), vI ((r : Nat) : Int)]) dX6_becomeFactorial_103 rfl (by decide) rfl ?_
                    refine WP.goto (tgt := 50) dX6_becomeFactorial_106 (by decide) ?_
                    refine WP.fgt (lt := [vR t, vU, vU, vI ((pwd L (j + 1) : Nat) : Int), vI (((D : Nat) : Int) - 1 - (((j + 1) : Nat) : Int)), vU]) ⟨Or.inr rfl, Or.inl rfl, Or.inl rfl, Or.inr (congrArg vI (by rw [pwd]; exact (Int.natCast_mul _ _).symm)), Or.inr (congrArg vI (by omega)), Or.inl rfl, trivial⟩ ?_
                    exact ih50 (j + 1) (M5) (by omega) (fun a i1 i2 i3 => by rw [q1 a i3, p1 a i1 i2 i3]) (q2.cg (fun _ _ => rfl) (fun r hr c hc => by
                      unfold fil
                      dsimp only
                      by_cases e : c = D - 1 - j
                      · rw [if_pos (by omega), if_pos (by omega), e, faC, show D - 1 - (D - 1 - j) = j by omega]
                      · rw [if_neg (by omega)]
                        by_cases e2 : D ≤ c + j
                        · rw [if_pos e2, if_pos (by omega)]
                        · rw [if_neg e2, if_neg (by omega)])) (by omega)
                  · skip
                    refine WP.aload_n dX6_becomeFactorial_67 rfl ?_
                    refine WP.iload dX6_becomeFactorial_68 rfl ?_
                    refine WP.iload dX6_becomeFactorial_70 rfl ?_
                    refine WP.iload dX6_becomeFactorial_72 rfl ?_
                    refine WP.iload_n dX6_becomeFactorial_74 rfl ?_
                    refine WP.idiv dX6_becomeFactorial_75 (by omega) (by omega) ?_
                    refine WP.eqs (st' := [vI ((r / pwd L j : Nat) : Int), vI (((D : Nat) : Int) - 1 - ((j : Nat) : Int)), vI ((r : Nat) : Int), vR t]) rfl (lc (congrArg vI (by rw [Int.natCast_ediv])) rfl) ?_
                    refine WP.aload_n dX6_becomeFactorial_76 rfl ?_
                    refine WP.getR (y := (t + 1)) dX6_becomeFactorial_77 fl_X6_18 (shT0 ht) (by decide) (srT1 ht) ?_
                    refine WP.iload dX6_becomeFactorial_80 rfl ?_
                    refine WP.iaload (y := (D - 1 - j)) (x := ((dg L j : Nat) : Int)) dX6_becomeFactorial_82 (shT1 ht) (by omega) (by omega) (by rw [q2.2.2.1 (D - 1 - j) (by omega), faS, show D - 1 - (D - 1 - j) = j by omega]) ?_
                    refine WP.irem dX6_becomeFactorial_83 (by have h8 := Nat.div_le_self r (pwd L j); revert h8; generalize r / pwd L j = z; intro h8; omega) (by omega) ?_
                    refine WP.eqs (st' := [vI ((r / pwd L j % dg L j : Nat) : Int), vI (((D : Nat) : Int) - 1 - ((j : Nat) : Int)), vI ((r : Nat) : Int), vR t]) rfl (lc (congrArg vI (by rw [Int.natCast_emod])) rfl) ?_
                    refine WP.eqs (st' := [vI ((r / pwd L j % dg L j : Nat) : Int), vI ((D - 1 - j : Nat) : Int), vI ((r : Nat) : Int), vR t]) rfl (lc (rfl) (lc (congrArg vI (by omega)) (lc (rfl) (rfl)))) ?_
                    refine WP.callV (as := [vI ((r : Nat) : Int), vI ((D - 1 - j : Nat) : Int), vI ((r / pwd L j % dg L j : Nat) : Int)]) dX6_becomeFactorial_84 mv_X6_31 rfl (shT0 ht) (by decide) rfl rfl (c_T_setX (r := r) (c := D - 1 - j) (v := r / pwd L j % dg L j) ht q2 (by omega) (by omega) (by omega)) rfl (Nat.le_of_ble_eq_true rfl) (by omega) (fun r9 M6 h9 => ?_)
                    obtain ⟨rfl, j1, j2⟩ := h9
                    show WP sc0 3 m_X6_becomeFactorial 87 [vR t, vU, vU, vI ((pwd L j : Nat) : Int), vI (((D : Nat) : Int) - 1 - ((j : Nat) : Int)), vI ((r : Nat) : Int)] [] M6 (fun z M' => z = none ∧ (∀ a, a ≠ t → a ≠ t + 1 → a ≠ t + 2 → M' a = M a) ∧ TX M' t n D (faS L D) (faC L D))
                    refine WP.iinc (lt := [vR t, vU, vU, vI ((pwd L j : Nat) : Int), vI (((D : Nat) : Int) - 1 - ((j : Nat) : Int)), vI (((r : Nat) : Int) + 1)]) dX6_becomeFactorial_87 rfl (by decide) rfl ?_
                    refine WP.goto (tgt := 58) dX6_becomeFactorial_90 (by decide) ?_
                    refine WP.fgt (lt := [vR t, vU, vU, vI ((pwd L j : Nat) : Int), vI (((D : Nat) : Int) - 1 - ((j : Nat) : Int)), vI (((r + 1) : Nat) : Int)]) ⟨Or.inr rfl, Or.inl rfl, Or.inl rfl, Or.inr rfl, Or.inr rfl, Or.inr (congrArg vI (by omega)), trivial⟩ ?_
                    exact ih58 (r + 1) (M6) (by omega) (fun a ha => (j1 a ha).trans (q1 a ha)) (j2.cg (fun _ _ => rfl) (fun q _ b _ => fil_s (f := fun r => r / pwd L j % dg L j) rfl q b)) (by omega)
              refine WP.fgt (lt := [vR t, vU, vU, vI ((pwd L j : Nat) : Int), vI (((D : Nat) : Int) - 1 - ((j : Nat) : Int)), vI ((0 : Nat) : Int)]) ⟨Or.inr rfl, Or.inl rfl, Or.inl rfl, Or.inr rfl, Or.inr rfl, Or.inr (congrArg vI (by omega)), trivial⟩ ?_
              exact L58 _ (0) (M4) (Nat.zero_le _) (fun _ _ => rfl) (p2.cg (fun _ _ => rfl) (fun q _ b _ => (if_neg (by omega)).symm)) (Nat.lt_succ_self _)
        refine WP.fgt (lt := [vR t, vU, vU, vI ((pwd L 0 : Nat) : Int), vI (((D : Nat) : Int) - 1 - ((0 : Nat) : Int)), vU]) ⟨Or.inr rfl, Or.inl rfl, Or.inl rfl, Or.inr (congrArg vI (rfl)), Or.inr (congrArg vI (by omega)), Or.inl rfl, trivial⟩ ?_
        exact L50 _ (0) (M2) (Nat.zero_le _) (g1) (by rw [hi0] at g2; exact g2.cg (fun _ _ => rfl) (fun r _ c hc => by rw [if_neg (by omega)])) (Nat.lt_succ_self _)
      · skip
        have hip : 0 < i := by omega
        have u3 : un i = 10 ^ (i - 1) := by unfold un; rw [if_neg (by omega)]
        have u4 : 0 < un i := by omega
        have u5 : L / un i ≤ L := Nat.div_le_self _ _
        refine WP.iload_n dX6_becomeFactorial_12 rfl ?_
        refine WP.iload_n dX6_becomeFactorial_13 rfl ?_
        refine WP.idiv dX6_becomeFactorial_14 (by omega) (by omega) ?_
        refine WP.eqs (st' := [vI ((L / un i : Nat) : Int)]) rfl (lc (congrArg vI (by rw [Int.natCast_ediv])) rfl) ?_
        refine WP.bipush dX6_becomeFactorial_15 (by decide) ?_
        refine WP.irem dX6_becomeFactorial_17 (by have h8 := u5; revert h8; generalize L / un i = z; intro h8; omega) (by omega) ?_
        refine WP.eqs (st' := [vI ((dg L (i - 1) : Nat) : Int)]) rfl (lc (congrArg vI (by unfold dg; rw [Int.natCast_emod, u3]; rfl)) rfl) ?_
        have u6 := dg_lt L (i - 1)
        refine WP.istore (lt := [vR t, vI ((L : Nat) : Int), vI ((n : Nat) : Int), vI ((un i : Nat) : Int), vI ((dg L (i - 1) : Nat) : Int), vU]) dX6_becomeFactorial_18 (by decide) rfl ?_
        refine WP.iload dX6_becomeFactorial_20 rfl ?_
        refine WP.if_le (tgt := 32) dX6_becomeFactorial_22 (by decide) (by omega) (fun h22 => ?_) (fun h22 => ?_)
        · skip
          have hDi : D ≤ i - 1 := Nat.le_of_not_lt (fun z => by have := hd (i - 1) z; omega)
          refine WP.iload_n dX6_becomeFactorial_32 rfl ?_
          refine WP.bipush dX6_becomeFactorial_33 (by decide) ?_
          refine WP.idiv dX6_becomeFactorial_35 (by omega) (by omega) ?_
          refine WP.istore_n (lt := [vR t, vI ((L : Nat) : Int), vI ((n : Nat) : Int), vI (((un i : Nat) : Int) / (10 : Int)), vI ((dg L (i - 1) : Nat) : Int), vU]) dX6_becomeFactorial_36 (by decide) rfl ?_
          refine WP.goto (tgt := 8) dX6_becomeFactorial_37 (by decide) ?_
          refine WP.fgt (lt := [vR t, vI ((L : Nat) : Int), vI ((n : Nat) : Int), vI ((un (i - 1) : Nat) : Int), vU, vU]) ⟨Or.inr rfl, Or.inr rfl, Or.inr rfl, Or.inr (congrArg vI (by rw [← un_d i (by omega) (by omega)]; omega)), Or.inl rfl, Or.inl rfl, trivial⟩ ?_
          exact ih8 (i - 1) (M2) (by omega) (g1) (by rw [show D - (i - 1) = D - i by omega]; exact g2) (by omega)
        · skip
          have hDi : i - 1 < D := Nat.lt_of_not_le (fun z => by have := dg_hi hL z; omega)
          refine WP.aload_n dX6_becomeFactorial_25 rfl ?_
          refine WP.iload dX6_becomeFactorial_26 rfl ?_
          refine WP.callV (as := [vI ((dg L (i - 1) : Nat) : Int)]) dX6_becomeFactorial_28 mv_X6_64 rfl (shT0 ht) (by decide) rfl rfl (c_T_append (s := dg L (i - 1)) ht g2 b1 (by omega)) rfl (Nat.le_of_ble_eq_true rfl) (by omega) (fun r9 M3 h9 => ?_)
          obtain ⟨rfl, e1, e2⟩ := h9
          show WP sc0 3 m_X6_becomeFactorial 31 [vR t, vI ((L : Nat) : Int), vI ((n : Nat) : Int), vI ((un i : Nat) : Int), vI ((dg L (i - 1) : Nat) : Int), vU] [vI ((D - i : Nat) : Int)] M3 (fun z M' => z = none ∧ (∀ a, a ≠ t → a ≠ t + 1 → a ≠ t + 2 → M' a = M a) ∧ TX M' t n D (faS L D) (faC L D))
          have e3 : TX M3 t n (D - i + 1) (faS L D) (fun _ _ => 0) := e2.cg (fun c hc => by
            unfold apS
            by_cases e : c = D - i
            · rw [if_pos e, e, faS, show D - 1 - (D - i) = i - 1 by omega]
            · rw [if_neg e]) (fun r _ c _ => by
            unfold apC
            by_cases e : c = D - i
            · rw [if_pos e]
            · rw [if_neg e])
          refine WP.pop dX6_becomeFactorial_31 rfl ?_
          refine WP.iload_n dX6_becomeFactorial_32 rfl ?_
          refine WP.bipush dX6_becomeFactorial_33 (by decide) ?_
          refine WP.idiv dX6_becomeFactorial_35 (by omega) (by omega) ?_
          refine WP.istore_n (lt := [vR t, vI ((L : Nat) : Int), vI ((n : Nat) : Int), vI (((un i : Nat) : Int) / (10 : Int)), vI ((dg L (i - 1) : Nat) : Int), vU]) dX6_becomeFactorial_36 (by decide) rfl ?_
          refine WP.goto (tgt := 8) dX6_becomeFactorial_37 (by decide) ?_
          refine WP.fgt (lt := [vR t, vI ((L : Nat) : Int), vI ((n : Nat) : Int), vI ((un (i - 1) : Nat) : Int), vU, vU]) ⟨Or.inr rfl, Or.inr rfl, Or.inr rfl, Or.inr (congrArg vI (by rw [← un_d i (by omega) (by omega)]; omega)), Or.inl rfl, Or.inl rfl, trivial⟩ ?_
          exact ih8 (i - 1) (M3) (by omega) (fun a h1 h2 h3 => (e1 a h1 h2 h3).trans (g1 a h1 h2 h3)) (by rw [show D - (i - 1) = D - i + 1 by omega]; exact e3) (by omega)
  refine WP.fgt (lt := [vR t, vI ((L : Nat) : Int), vI ((n : Nat) : Int), vI ((un 7 : Nat) : Int), vU, vU]) ⟨Or.inr rfl, Or.inr rfl, Or.inr rfl, Or.inr (congrArg vI (by decide)), Or.inl rfl, Or.inl rfl, trivial⟩ ?_
  exact L8 _ (7) (M1) (by omega) (fA) (hT1) (Nat.lt_succ_self _)
