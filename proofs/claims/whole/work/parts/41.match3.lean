/-- what stays in a search for isomorphisms -/
def MST (t n k : Nat) (sz : Nat → Nat) (ce : Nat → Nat → Nat) (sz' : Nat → Nat) (ce' : Nat → Nat → Nat) : Prop := (isT t ∧ 3 ≤ t ∧ t < 9) ∧ n ≤ 18 ∧ Wf n k sz ce ∧ Wf n k sz' ce' ∧ (∀ c, c < k → sz c ≤ 4) ∧ ∀ c, c < k → sz' c ≤ 4
def MC (M : Mem) (t n k : Nat) (sz : Nat → Nat) (ce : Nat → Nat → Nat) (sz' : Nat → Nat) (ce' : Nat → Nat → Nat) : Prop := TX M 0 n k sz ce ∧ TX M t n k sz' ce' ∧ M 103 0 = ((0 : Nat) : Int) ∧ M 135 0 = (t : Int) ∧ LB M 103 k sz (lF k) (llF k) ∧ (∀ c, c < k → ∀ v, v < sz c → M 106 (c * 4 + v) = ((cn (fun y9 => ce y9 c = v) n : Nat) : Int)) ∧ ∀ d, d ≤ k → KY M 103 d n k sz (kRK n k sz ce lF llF d) (kLK n k sz ce lF llF d) (kCK n k sz ce lF llF d)
theorem MC.fr {M M' : Mem} {t n k : Nat} {sz sz' : Nat → Nat} {ce ce' : Nat → Nat → Nat} (hS : MST t n k sz ce sz' ce') (h : MC M t n k sz ce sz' ce') (hf : ∀ x, (x < 100 ∨ (102 < x ∧ x < 136)) → M' x = M x) : MC M' t n k sz ce sz' ce' := by
  obtain ⟨⟨ht, ht3, ht9⟩, hn, hW, hW2, h4, h42⟩ := hS
  have hb := hW.2.1
  obtain ⟨h1, h2, h3, h5, h6, h7, h8⟩ := h
  refine ⟨h1.fr (hf _ (by omega)) (hf _ (by omega)) (hf _ (by omega)), h2.fr (hf _ (by omega)) (hf _ (by omega)) (hf _ (by omega)), by rw [hf _ (by omega)]; exact h3, by rw [hf _ (by omega)]; exact h5, h6.fr (hf _ (by omega)) (hf _ (by omega)), fun c hc v hv => by rw [hf _ (by omega)]; exact h7 c hc v hv, fun d hd => (h8 d hd).fr (hf _ (by omega)) (hf _ (by omega)) (hf _ (by omega))⟩
/-- the part of the search's state that goes with c assigned columns -/
def MAr (M : Mem) (sz w : Nat → Nat) (c : Nat) : Prop := ∀ b, b < c → M 100 b = ((w b / 256 : Nat) : Int) ∧ ∀ v, v < sz b → M 101 (b * 4 + v) = ((imo (w b) v : Nat) : Int)
def MZ (M : Mem) (n k : Nat) (sz sz' : Nat → Nat) (ce' : Nat → Nat → Nat) (w : Nat → Nat) (c : Nat) : Prop := LB M 135 k sz' (clT w c) (llT w c) ∧ (∀ d, d ≤ c → KY M 135 d n k sz' (kRK n k sz' ce' (clT w) (llT w) d) (kLK n k sz' ce' (clT w) (llT w) d) (kCK n k sz' ce' (clT w) (llT w) d)) ∧ MAr M sz w c
/-- the cells that a search from depth c may change -/
def ZF (c x : Nat) : Prop := x = 100 ∨ x = 101 ∨ x = 102 ∨ x = 136 ∨ x = 137 ∨ x = 166 ∨ (140 + c < x ∧ x < 148) ∨ (149 + c < x ∧ x < 157) ∨ (158 + c < x ∧ x < 166)
def lv (o : Int) (a : Nat) : Int := if o = 1 then (a : Int) else 0
set_option maxHeartbeats 4000000 in
set_option maxRecDepth 20000 in
theorem c_M_unused {M : Mem} {t n k : Nat} {sz sz' : Nat → Nat} {ce ce' : Nat → Nat → Nat} (hS : MST t n k sz ce sz' ce') (hC : MC M t n k sz ce sz' ce') {m : Nat} {g : Nat → Nat} (hm : m < 2 ^ 18) (hg : ∀ d, d < k → M 102 d = (g d : Int) ∧ g d < 4) : CT 2 m_X3_unusedEqual [vR 99, vI ((m : Nat) : Int)] M (fun z M' => ∃ v : Int, z = some (vI v) ∧ M' = M ∧ ((v = -1 ∧ ∀ q, q < n → ¬ mk m q → ¬ ∀ d, d < k → ce' q d = g d) ∨ ∃ q, q < n ∧ v = (q : Int) ∧ ¬ mk m q ∧ ∀ d, d < k → ce' q d = g d)) := by
  obtain ⟨⟨ht, ht3, ht9⟩, hn, hW, hW2, h4, h42⟩ := id hS
  obtain ⟨hT, hT2, hm0, hm1, hLF, hTL, hKF⟩ := id hC
  have b1 := hW.1
  have b2 := hW.2.1
  have t0 : isT 0 := ⟨rfl, by decide⟩
  have ht2 := ht.2
  have hs1 : isS 103 := Or.inl rfl
  have hs2 : isS 135 := Or.inr rfl
  have h128 : 2 ^ 7 = 128 := rfl
  have h18 : 2 ^ 18 = 262144 := rfl
  refine CT.ofWP (by decide +kernel) (Nat.le_of_ble_eq_true rfl) ?_
  show WP sc0 2 m_X3_unusedEqual 0 [vR 99, vI ((m : Nat) : Int), vU, vU, vU] [] M (fun z M' => ∃ v : Int, z = some (vI v) ∧ M' = M ∧ ((v = -1 ∧ ∀ q, q < n → ¬ mk m q → ¬ ∀ d, d < k → ce' q d = g d) ∨ ∃ q, q < n ∧ v = (q : Int) ∧ ¬ mk m q ∧ ∀ d, d < k → ce' q d = g d))
  refine WP.iconst dX3_unusedEqual_0 ?_
  refine WP.istore_n (lt := [vR 99, vI ((m : Nat) : Int), vI (0 : Int), vU, vU]) dX3_unusedEqual_1 (by decide) rfl ?_
  have L2 : ∀ (n9 : Nat) (q : Nat) (hq : q ≤ n) (hno : ∀ p, p < q → ¬ mk m p → ¬ ∀ d, d < k → ce' p d = g d), n - q < n9 → WP sc0 2 m_X3_unusedEqual 2 [vR 99, vI ((m : Nat) : Int), vI ((q : Nat) : Int), vU, vU] [] M (fun z M' => ∃ v : Int, z = some (vI v) ∧ M' = M ∧ ((v = -1 ∧ ∀ q, q < n → ¬ mk m q → ¬ ∀ d, d < k → ce' q d = g d) ∨ ∃ q, q < n ∧ v = (q : Int) ∧ ¬ mk m q ∧ ∀ d, d < k → ce' q d = g d)) := by
    intro n9
    induction n9 with
    | zero =>
      intro q hq hno hm9
      exact absurd hm9 (Nat.not_lt_zero _)
    | succ n9 ih2 =>
      intro q hq hno hm9
      refine WP.iload_n dX3_unusedEqual_2 rfl ?_
      refine WP.aload_n dX3_unusedEqual_3 rfl ?_
      refine WP.getR (y := 135) dX3_unusedEqual_4 fl_X3_25 (rfl) (by decide) (rfl) ?_
      refine WP.getM (y := t) dX3_unusedEqual_7 fl_X3_66 (rfl) (by decide) (hm1) ?_
      refine WP.getI (x := ((n : Nat) : Int)) dX3_unusedEqual_10 fl_X3_31 (shT0 ht) (by decide) (hT2.1) ?_
      refine WP.icmp_ge (tgt := 99) dX3_unusedEqual_13 (by decide) (by omega) (by omega) (fun h13 => ?_) (fun h13 => ?_)
      · skip
        refine WP.iconst dX3_unusedEqual_99 ?_
        refine WP.iret dX3_unusedEqual_100 rfl ?_
        exact ⟨_, rfl, rfl, Or.inl ⟨rfl, fun p hp => hno p (by omega)⟩⟩
      · skip
        refine WP.iload_n dX3_unusedEqual_16 rfl ?_
        refine WP.iload_n dX3_unusedEqual_17 rfl ?_
        refine WP.ishr (z := ((m / 2 ^ q : Nat) : Int)) dX3_unusedEqual_18 (oi_shr (by omega) (by omega)) ?_
        refine WP.iconst dX3_unusedEqual_19 ?_
        refine WP.iand (z := ((m / 2 ^ q % 2 : Nat) : Int)) dX3_unusedEqual_20 (oi_and1 (bit_lt (by omega))) ?_
        have hb2 : m / 2 ^ q % 2 < 2 := Nat.mod_lt _ (by decide)
        refine WP.if_ne (tgt := 28) dX3_unusedEqual_21 (by decide) (by omega) (fun h21 => ?_) (fun h21 => ?_)
        · skip
          have hmm : mk m q := by unfold mk; omega
          refine WP.iconst dX3_unusedEqual_28 ?_
          refine WP.istore_n (lt := [vR 99, vI ((m : Nat) : Int), vI ((q : Nat) : Int), vI (0 : Int), vU]) dX3_unusedEqual_29 (by decide) rfl ?_
          refine WP.iconst dX3_unusedEqual_30 ?_
          refine WP.istore (lt := [vR 99, vI ((m : Nat) : Int), vI ((q : Nat) : Int), vI (0 : Int), vI (0 : Int)]) dX3_unusedEqual_31 (by decide) rfl ?_
          have L33 : ∀ (n9 : Nat) (d : Nat) (f : Int) (hd : d ≤ k) (hf : (f = 1 ∧ ¬ mk m q ∧ ∀ e, e < d → ce' q e = g e) ∨ (f = 0 ∧ (¬ mk m q → ¬ ∀ d, d < k → ce' q d = g d))), k - d < n9 → WP sc0 2 m_X3_unusedEqual 33 [vR 99, vI ((m : Nat) : Int), vI ((q : Nat) : Int), vI f, vI ((d : Nat) : Int)] [] M (fun z M' => ∃ v : Int, z = some (vI v) ∧ M' = M ∧ ((v = -1 ∧ ∀ q, q < n → ¬ mk m q → ¬ ∀ d, d < k → ce' q d = g d) ∨ ∃ q, q < n ∧ v = (q : Int) ∧ ¬ mk m q ∧ ∀ d, d < k → ce' q d = g d)) := by
            intro n9
            induction n9 with
            | zero =>
              intro d f hd hf hm9
              exact absurd hm9 (Nat.not_lt_zero _)
            | succ n9 ih33 =>
              intro d f hd hf hm9
              refine WP.iload dX3_unusedEqual_33 rfl ?_
              refine WP.aload_n dX3_unusedEqual_35 rfl ?_
              refine WP.getR (y := 135) dX3_unusedEqual_36 fl_X3_25 (rfl) (by decide) (rfl) ?_
              refine WP.getM (y := t) dX3_unusedEqual_39 fl_X3_66 (rfl) (by decide) (hm1) ?_
              refine WP.getI (x := ((k : Nat) : Int)) dX3_unusedEqual_42 fl_X3_37 (shT0 ht) (by decide) (hT2.2.1) ?_
              refine WP.icmp_ge (tgt := 87) dX3_unusedEqual_45 (by decide) (by omega) (by omega) (fun h45 => ?_) (fun h45 => ?_)
              · skip
                refine WP.iload_n dX3_unusedEqual_87 rfl ?_
                refine WP.if_eq (tgt := 93) dX3_unusedEqual_88 (by decide) (by omega) (fun h88 => ?_) (fun h88 => ?_)
                · skip
                  have hbad : ¬ mk m q → ¬ ∀ d, d < k → ce' q d = g d := (hf.resolve_left (by omega)).2
                  refine WP.iinc (lt := [vR 99, vI ((m : Nat) : Int), vI (((q : Nat) : Int) + 1), vI f, vI ((d : Nat) : Int)]) dX3_unusedEqual_93 rfl (by decide) rfl ?_
                  refine WP.goto (tgt := 2) dX3_unusedEqual_96 (by decide) ?_
                  refine WP.fgt (lt := [vR 99, vI ((m : Nat) : Int), vI (((q + 1) : Nat) : Int), vU, vU]) ⟨Or.inr rfl, Or.inr rfl, Or.inr (congrArg vI (by omega)), Or.inl rfl, Or.inl rfl, trivial⟩ ?_
                  exact ih2 (q + 1) (by omega) (fun p hp => by
                    by_cases e9 : p = q
                    · rw [e9]; exact hbad
                    · exact hno p (by omega)) (by omega)
                · skip
                  refine WP.iload_n dX3_unusedEqual_91 rfl ?_
                  refine WP.iret dX3_unusedEqual_92 rfl ?_
                  exact ⟨_, rfl, rfl, Or.inr ⟨q, by omega, rfl, (hf.resolve_right (by omega)).2.1, fun d hd => (hf.resolve_right (by omega)).2.2 d (by by_cases e9 : f = 0 <;> omega)⟩⟩
              · skip
                have w3 := hW2.2.2.2 q (by omega) d (by omega)
                have w4 := hW2.2.2.1 d (by omega)
                refine WP.iload_n dX3_unusedEqual_48 rfl ?_
                refine WP.if_eq (tgt := 87) dX3_unusedEqual_49 (by decide) (by omega) (fun h49 => ?_) (fun h49 => ?_)
                · skip
                  refine WP.iload_n dX3_unusedEqual_87 rfl ?_
                  refine WP.if_eq (tgt := 93) dX3_unusedEqual_88 (by decide) (by omega) (fun h88 => ?_) (fun h88 => ?_)
                  · skip
                    have hbad : ¬ mk m q → ¬ ∀ d, d < k → ce' q d = g d := (hf.resolve_left (by omega)).2
                    refine WP.iinc (lt := [vR 99, vI ((m : Nat) : Int), vI (((q : Nat) : Int) + 1), vI f, vI ((d : Nat) : Int)]) dX3_unusedEqual_93 rfl (by decide) rfl ?_
                    refine WP.goto (tgt := 2) dX3_unusedEqual_96 (by decide) ?_
                    refine WP.fgt (lt := [vR 99, vI ((m : Nat) : Int), vI (((q + 1) : Nat) : Int), vU, vU]) ⟨Or.inr rfl, Or.inr rfl, Or.inr (congrArg vI (by omega)), Or.inl rfl, Or.inl rfl, trivial⟩ ?_
                    exact ih2 (q + 1) (by omega) (fun p hp => by
                      by_cases e9 : p = q
                      · rw [e9]; exact hbad
                      · exact hno p (by omega)) (by omega)
                  · skip
                    refine WP.iload_n dX3_unusedEqual_91 rfl ?_
                    refine WP.iret dX3_unusedEqual_92 rfl ?_
                    exact ⟨_, rfl, rfl, Or.inr ⟨q, by omega, rfl, (hf.resolve_right (by omega)).2.1, fun d hd => (hf.resolve_right (by omega)).2.2 d (by by_cases e9 : f = 0 <;> omega)⟩⟩
                · skip
                  refine WP.aload_n dX3_unusedEqual_52 rfl ?_
                  refine WP.getR (y := 135) dX3_unusedEqual_53 fl_X3_25 (rfl) (by decide) (rfl) ?_
                  refine WP.getM (y := t) dX3_unusedEqual_56 fl_X3_66 (rfl) (by decide) (hm1) ?_
                  refine WP.iload_n dX3_unusedEqual_59 rfl ?_
                  refine WP.iload dX3_unusedEqual_60 rfl ?_
                  refine WP.callVp (as := [vI ((q : Nat) : Int), vI ((d : Nat) : Int)]) dX3_unusedEqual_62 mv_X3_117 rfl (shT0 ht) (by decide) rfl rfl (c_T_at (r := q) (c := d) ht (by omega) (by omega) (hT2.2.2.2 q (by omega) d (by omega))) rfl (Nat.le_of_ble_eq_true rfl) (by omega) ?_
                  refine WP.aload_n dX3_unusedEqual_65 rfl ?_
                  refine WP.getR (y := 102) dX3_unusedEqual_66 fl_X3_28 (rfl) (by decide) (rfl) ?_
                  refine WP.iload dX3_unusedEqual_69 rfl ?_
                  refine WP.iaload (y := d) (x := ((g d : Nat) : Int)) dX3_unusedEqual_71 (rfl) (by omega) (by omega) ((hg d (by omega)).1) ?_
                  refine WP.icmp_ne (tgt := 79) dX3_unusedEqual_72 (by decide) (by omega) (by have := (hg d (by omega)).2; omega) (fun h72 => ?_) (fun h72 => ?_)
                  · skip
                    refine WP.iconst dX3_unusedEqual_79 ?_
                    refine WP.istore_n (lt := [vR 99, vI ((m : Nat) : Int), vI ((q : Nat) : Int), vI (0 : Int), vI ((d : Nat) : Int)]) dX3_unusedEqual_80 (by decide) rfl ?_
                    refine WP.iinc (lt := [vR 99, vI ((m : Nat) : Int), vI ((q : Nat) : Int), vI (0 : Int), vI (((d : Nat) : Int) + 1)]) dX3_unusedEqual_81 rfl (by decide) rfl ?_
                    refine WP.goto (tgt := 33) dX3_unusedEqual_84 (by decide) ?_
                    refine WP.fgt (lt := [vR 99, vI ((m : Nat) : Int), vI ((q : Nat) : Int), vI 0, vI (((d + 1) : Nat) : Int)]) ⟨Or.inr rfl, Or.inr rfl, Or.inr rfl, Or.inr (congrArg vI (by omega)), Or.inr (congrArg vI (by omega)), trivial⟩ ?_
                    exact ih33 (d + 1) (0) (by omega) (Or.inr ⟨rfl, fun _ z => by have := z d (by omega); omega⟩) (by omega)
                  · skip
                    refine WP.iconst dX3_unusedEqual_75 ?_
                    refine WP.goto (tgt := 80) dX3_unusedEqual_76 (by decide) ?_
                    refine WP.istore_n (lt := [vR 99, vI ((m : Nat) : Int), vI ((q : Nat) : Int), vI (1 : Int), vI ((d : Nat) : Int)]) dX3_unusedEqual_80 (by decide) rfl ?_
                    refine WP.iinc (lt := [vR 99, vI ((m : Nat) : Int), vI ((q : Nat) : Int), vI (1 : Int), vI (((d : Nat) : Int) + 1)]) dX3_unusedEqual_81 rfl (by decide) rfl ?_
                    refine WP.goto (tgt := 33) dX3_unusedEqual_84 (by decide) ?_
                    refine WP.fgt (lt := [vR 99, vI ((m : Nat) : Int), vI ((q : Nat) : Int), vI 1, vI (((d + 1) : Nat) : Int)]) ⟨Or.inr rfl, Or.inr rfl, Or.inr rfl, Or.inr (congrArg vI (by omega)), Or.inr (congrArg vI (by omega)), trivial⟩ ?_
                    exact ih33 (d + 1) (1) (by omega) (Or.inl ⟨rfl, (hf.resolve_right (by omega)).2.1, fun e he => by
                      by_cases e9 : e = d
                      · rw [e9]; omega
                      · exact (hf.resolve_right (by omega)).2.2 e (by omega)⟩) (by omega)
          refine WP.fgt (lt := [vR 99, vI ((m : Nat) : Int), vI ((q : Nat) : Int), vI 0, vI ((0 : Nat) : Int)]) ⟨Or.inr rfl, Or.inr rfl, Or.inr rfl, Or.inr (congrArg vI (by omega)), Or.inr (congrArg vI (by omega)), trivial⟩ ?_
          exact L33 _ (0) (0) (Nat.zero_le _) (Or.inr ⟨rfl, fun z => absurd hmm z⟩) (Nat.lt_succ_self _)
        · skip
          have hnm : ¬ mk m q := fun z => by unfold mk at z; omega
          refine WP.iconst dX3_unusedEqual_24 ?_
          refine WP.goto (tgt := 29) dX3_unusedEqual_25 (by decide) ?_
          refine WP.istore_n (lt := [vR 99, vI ((m : Nat) : Int), vI ((q : Nat) : Int), vI (1 : Int), vU]) dX3_unusedEqual_29 (by decide) rfl ?_
          refine WP.iconst dX3_unusedEqual_30 ?_
          refine WP.istore (lt := [vR 99, vI ((m : Nat) : Int), vI ((q : Nat) : Int), vI (1 : Int), vI (0 : Int)]) dX3_unusedEqual_31 (by decide) rfl ?_
          have L33 : ∀ (n9 : Nat) (d : Nat) (f : Int) (hd : d ≤ k) (hf : (f = 1 ∧ ¬ mk m q ∧ ∀ e, e < d → ce' q e = g e) ∨ (f = 0 ∧ (¬ mk m q → ¬ ∀ d, d < k → ce' q d = g d))), k - d < n9 → WP sc0 2 m_X3_unusedEqual 33 [vR 99, vI ((m : Nat) : Int), vI ((q : Nat) : Int), vI f, vI ((d : Nat) : Int)] [] M (fun z M' => ∃ v : Int, z = some (vI v) ∧ M' = M ∧ ((v = -1 ∧ ∀ q, q < n → ¬ mk m q → ¬ ∀ d, d < k → ce' q d = g d) ∨ ∃ q, q < n ∧ v = (q : Int) ∧ ¬ mk m q ∧ ∀ d, d < k → ce' q d = g d)) := by
            intro n9
            induction n9 with
            | zero =>
              intro d f hd hf hm9
              exact absurd hm9 (Nat.not_lt_zero _)
            | succ n9 ih33 =>
              intro d f hd hf hm9
              refine WP.iload dX3_unusedEqual_33 rfl ?_
              refine WP.aload_n dX3_unusedEqual_35 rfl ?_
              refine WP.getR (y := 135) dX3_unusedEqual_36 fl_X3_25 (rfl) (by decide) (rfl) ?_
              refine WP.getM (y := t) dX3_unusedEqual_39 fl_X3_66 (rfl) (by decide) (hm1) ?_
              refine WP.getI (x := ((k : Nat) : Int)) dX3_unusedEqual_42 fl_X3_37 (shT0 ht) (by decide) (hT2.2.1) ?_
              refine WP.icmp_ge (tgt := 87) dX3_unusedEqual_45 (by decide) (by omega) (by omega) (fun h45 => ?_) (fun h45 => ?_)
              · skip
                refine WP.iload_n dX3_unusedEqual_87 rfl ?_
                refine WP.if_eq (tgt := 93) dX3_unusedEqual_88 (by decide) (by omega) (fun h88 => ?_) (fun h88 => ?_)
                · skip
                  have hbad : ¬ mk m q → ¬ ∀ d, d < k → ce' q d = g d := (hf.resolve_left (by omega)).2
                  refine WP.iinc (lt := [vR 99, vI ((m : Nat) : Int), vI (((q : Nat) : Int) + 1), vI f, vI ((d : Nat) : Int)]) dX3_unusedEqual_93 rfl (by decide) rfl ?_
                  refine WP.goto (tgt := 2) dX3_unusedEqual_96 (by decide) ?_
                  refine WP.fgt (lt := [vR 99, vI ((m : Nat) : Int), vI (((q + 1) : Nat) : Int), vU, vU]) ⟨Or.inr rfl, Or.inr rfl, Or.inr (congrArg vI (by omega)), Or.inl rfl, Or.inl rfl, trivial⟩ ?_
                  exact ih2 (q + 1) (by omega) (fun p hp => by
                    by_cases e9 : p = q
                    · rw [e9]; exact hbad
                    · exact hno p (by omega)) (by omega)
                · skip
                  refine WP.iload_n dX3_unusedEqual_91 rfl ?_
                  refine WP.iret dX3_unusedEqual_92 rfl ?_
                  exact ⟨_, rfl, rfl, Or.inr ⟨q, by omega, rfl, (hf.resolve_right (by omega)).2.1, fun d hd => (hf.resolve_right (by omega)).2.2 d (by by_cases e9 : f = 0 <;> omega)⟩⟩
              · skip
                have w3 := hW2.2.2.2 q (by omega) d (by omega)
                have w4 := hW2.2.2.1 d (by omega)
                refine WP.iload_n dX3_unusedEqual_48 rfl ?_
                refine WP.if_eq (tgt := 87) dX3_unusedEqual_49 (by decide) (by omega) (fun h49 => ?_) (fun h49 => ?_)
                · skip
                  refine WP.iload_n dX3_unusedEqual_87 rfl ?_
                  refine WP.if_eq (tgt := 93) dX3_unusedEqual_88 (by decide) (by omega) (fun h88 => ?_) (fun h88 => ?_)
                  · skip
                    have hbad : ¬ mk m q → ¬ ∀ d, d < k → ce' q d = g d := (hf.resolve_left (by omega)).2
                    refine WP.iinc (lt := [vR 99, vI ((m : Nat) : Int), vI (((q : Nat) : Int) + 1), vI f, vI ((d : Nat) : Int)]) dX3_unusedEqual_93 rfl (by decide) rfl ?_
                    refine WP.goto (tgt := 2) dX3_unusedEqual_96 (by decide) ?_
                    refine WP.fgt (lt := [vR 99, vI ((m : Nat) : Int), vI (((q + 1) : Nat) : Int), vU, vU]) ⟨Or.inr rfl, Or.inr rfl, Or.inr (congrArg vI (by omega)), Or.inl rfl, Or.inl rfl, trivial⟩ ?_
                    exact ih2 (q + 1) (by omega) (fun p hp => by
                      by_cases e9 : p = q
                      · rw [e9]; exact hbad
                      · exact hno p (by omega)) (by omega)
                  · skip
                    refine WP.iload_n dX3_unusedEqual_91 rfl ?_
                    refine WP.iret dX3_unusedEqual_92 rfl ?_
                    exact ⟨_, rfl, rfl, Or.inr ⟨q, by omega, rfl, (hf.resolve_right (by omega)).2.1, fun d hd => (hf.resolve_right (by omega)).2.2 d (by by_cases e9 : f = 0 <;> omega)⟩⟩
                · skip
                  refine WP.aload_n dX3_unusedEqual_52 rfl ?_
                  refine WP.getR (y := 135) dX3_unusedEqual_53 fl_X3_25 (rfl) (by decide) (rfl) ?_
                  refine WP.getM (y := t) dX3_unusedEqual_56 fl_X3_66 (rfl) (by decide) (hm1) ?_
                  refine WP.iload_n dX3_unusedEqual_59 rfl ?_
                  refine WP.iload dX3_unusedEqual_60 rfl ?_
                  refine WP.callVp (as := [vI ((q : Nat) : Int), vI ((d : Nat) : Int)]) dX3_unusedEqual_62 mv_X3_117 rfl (shT0 ht) (by decide) rfl rfl (c_T_at (r := q) (c := d) ht (by omega) (by omega) (hT2.2.2.2 q (by omega) d (by omega))) rfl (Nat.le_of_ble_eq_true rfl) (by omega) ?_
                  refine WP.aload_n dX3_unusedEqual_65 rfl ?_
                  refine WP.getR (y := 102) dX3_unusedEqual_66 fl_X3_28 (rfl) (by decide) (rfl) ?_
                  refine WP.iload dX3_unusedEqual_69 rfl ?_
                  refine WP.iaload (y := d) (x := ((g d : Nat) : Int)) dX3_unusedEqual_71 (rfl) (by omega) (by omega) ((hg d (by omega)).1) ?_
                  refine WP.icmp_ne (tgt := 79) dX3_unusedEqual_72 (by decide) (by omega) (by have := (hg d (by omega)).2; omega) (fun h72 => ?_) (fun h72 => ?_)
                  · skip
                    refine WP.iconst dX3_unusedEqual_79 ?_
                    refine WP.istore_n (lt := [vR 99, vI ((m : Nat) : Int), vI ((q : Nat) : Int), vI (0 : Int), vI ((d : Nat) : Int)]) dX3_unusedEqual_80 (by decide) rfl ?_
                    refine WP.iinc (lt := [vR 99, vI ((m : Nat) : Int), vI ((q : Nat) : Int), vI (0 : Int), vI (((d : Nat) : Int) + 1)]) dX3_unusedEqual_81 rfl (by decide) rfl ?_
                    refine WP.goto (tgt := 33) dX3_unusedEqual_84 (by decide) ?_
                    refine WP.fgt (lt := [vR 99, vI ((m : Nat) : Int), vI ((q : Nat) : Int), vI 0, vI (((d + 1) : Nat) : Int)]) ⟨Or.inr rfl, Or.inr rfl, Or.inr rfl, Or.inr (congrArg vI (by omega)), Or.inr (congrArg vI (by omega)), trivial⟩ ?_
                    exact ih33 (d + 1) (0) (by omega) (Or.inr ⟨rfl, fun _ z => by have := z d (by omega); omega⟩) (by omega)
                  · skip
                    refine WP.iconst dX3_unusedEqual_75 ?_
                    refine WP.goto (tgt := 80) dX3_unusedEqual_76 (by decide) ?_
                    refine WP.istore_n (lt := [vR 99, vI ((m : Nat) : Int), vI ((q : Nat) : Int), vI (1 : Int), vI ((d : Nat) : Int)]) dX3_unusedEqual_80 (by decide) rfl ?_
                    refine WP.iinc (lt := [vR 99, vI ((m : Nat) : Int), vI ((q : Nat) : Int), vI (1 : Int), vI (((d : Nat) : Int) + 1)]) dX3_unusedEqual_81 rfl (by decide) rfl ?_
                    refine WP.goto (tgt := 33) dX3_unusedEqual_84 (by decide) ?_
                    refine WP.fgt (lt := [vR 99, vI ((m : Nat) : Int), vI ((q : Nat) : Int), vI 1, vI (((d + 1) : Nat) : Int)]) ⟨Or.inr rfl, Or.inr rfl, Or.inr rfl, Or.inr (congrArg vI (by omega)), Or.inr (congrArg vI (by omega)), trivial⟩ ?_
                    exact ih33 (d + 1) (1) (by omega) (Or.inl ⟨rfl, (hf.resolve_right (by omega)).2.1, fun e he => by
                      by_cases e9 : e = d
                      · rw [e9]; omega
                      · exact (hf.resolve_right (by omega)).2.2 e (by omega)⟩) (by omega)
          refine WP.fgt (lt := [vR 99, vI ((m : Nat) : Int), vI ((q : Nat) : Int), vI 1, vI ((0 : Nat) : Int)]) ⟨Or.inr rfl, Or.inr rfl, Or.inr rfl, Or.inr (congrArg vI (by omega)), Or.inr (congrArg vI (by omega)), trivial⟩ ?_
          exact L33 _ (0) (1) (Nat.zero_le _) (Or.inl ⟨rfl, hnm, fun e he => absurd he (Nat.not_lt_zero e)⟩) (Nat.lt_succ_self _)
  refine WP.fgt (lt := [vR 99, vI ((m : Nat) : Int), vI ((0 : Nat) : Int), vU, vU]) ⟨Or.inr rfl, Or.inr rfl, Or.inr (congrArg vI (by omega)), Or.inl rfl, Or.inl rfl, trivial⟩ ?_
  exact L2 _ (0) (Nat.zero_le _) (fun p hp => absurd hp (Nat.not_lt_zero p)) (Nat.lt_succ_self _)
theorem nmk0 (r : Nat) : ¬ mk 0 r := fun z => by unfold mk at z; rw [Nat.zero_div] at z; exact absurd z (by decide)
set_option maxHeartbeats 4000000 in
set_option maxRecDepth 20000 in
theorem c_M_maps {M : Mem} {t n k : Nat} {sz sz' : Nat → Nat} {ce ce' : Nat → Nat → Nat} (hS : MST t n k sz ce sz' ce') (hC : MC M t n k sz ce sz' ce') {w : Nat → Nat} (hP : isoP (n, k, sz, ce) (n, k, sz', ce') w k) (hAr : MAr M sz w k) : CT 3 m_X3_mapsRows [vR 99] M (fun z M' => z = some (vI (bi (rwm (n, k, sz, ce) (n, k, sz', ce') w k))) ∧ ∀ x, x ≠ 102 → M' x = M x) := by
  obtain ⟨⟨ht, ht3, ht9⟩, hn, hW, hW2, h4, h42⟩ := id hS
  obtain ⟨hT, hT2, hm0, hm1, hLF, hTL, hKF⟩ := id hC
  have b1 := hW.1
  have b2 := hW.2.1
  have t0 : isT 0 := ⟨rfl, by decide⟩
  have ht2 := ht.2
  have hs1 : isS 103 := Or.inl rfl
  have hs2 : isS 135 := Or.inr rfl
  have h128 : 2 ^ 7 = 128 := rfl
  have hEs : ∀ a b, (fun q r => ∀ c, c < k → imo (w c) (ce q c) = imo (w c) (ce r c)) a b → (fun q r => ∀ c, c < k → imo (w c) (ce q c) = imo (w c) (ce r c)) b a := fun _ _ h c hc => (h c hc).symm
  have hTT : ∀ q a b, (fun q r => ∀ c, c < k → ce' q (w c / 256) = imo (w c) (ce r c)) q a → (fun q r => ∀ c, c < k → ce' q (w c / 256) = imo (w c) (ce r c)) q b → (fun q r => ∀ c, c < k → imo (w c) (ce q c) = imo (w c) (ce r c)) a b := fun _ _ _ h1 h2 c hc => (h1 c hc).symm.trans (h2 c hc)
  have hTE : ∀ q a b, (fun q r => ∀ c, c < k → imo (w c) (ce q c) = imo (w c) (ce r c)) a b → (fun q r => ∀ c, c < k → ce' q (w c / 256) = imo (w c) (ce r c)) q a → (fun q r => ∀ c, c < k → ce' q (w c / 256) = imo (w c) (ce r c)) q b := fun _ _ _ h1 h2 c hc => (h2 c hc).trans (h1 c hc)
  refine CT.ofWP (by decide +kernel) (Nat.le_of_ble_eq_true rfl) ?_
  show WP sc0 3 m_X3_mapsRows 0 [vR 99, vU, vU, vU] [] M (fun z M' => z = some (vI (bi (rwm (n, k, sz, ce) (n, k, sz', ce') w k))) ∧ ∀ x, x ≠ 102 → M' x = M x)
  refine WP.iconst dX3_mapsRows_0 ?_
  refine WP.istore_n (lt := [vR 99, vI (0 : Int), vU, vU]) dX3_mapsRows_1 (by decide) rfl ?_
  refine WP.iconst dX3_mapsRows_2 ?_
  refine WP.istore_n (lt := [vR 99, vI (0 : Int), vI (0 : Int), vU]) dX3_mapsRows_3 (by decide) rfl ?_
  have L4 : ∀ (n9 : Nat) (r m : Nat) (M1 : Mem) (hr : r ≤ n) (hF1 : ∀ x, x ≠ 102 → M1 x = M x) (hmn : m < 2 ^ n) (hct : cn (mk m) n = r) (hu : ∀ a, a < n → cn (fun p => mk m p ∧ (fun q r => ∀ c, c < k → ce' q (w c / 256) = imo (w c) (ce r c)) p a) n = cn (fun p => (fun q r => ∀ c, c < k → imo (w c) (ce q c) = imo (w c) (ce r c)) p a) r), n - r < n9 → WP sc0 3 m_X3_mapsRows 4 [vR 99, vI ((m : Nat) : Int), vI ((r : Nat) : Int), vU] [] M1 (fun z M' => z = some (vI (bi (rwm (n, k, sz, ce) (n, k, sz', ce') w k))) ∧ ∀ x, x ≠ 102 → M' x = M x) := by
    intro n9
    induction n9 with
    | zero =>
      intro r m M1 hr hF1 hmn hct hu hm9
      exact absurd hm9 (Nat.not_lt_zero _)
    | succ n9 ih4 =>
      intro r m M1 hr hF1 hmn hct hu hm9
      have hC1 : MC M1 t n k sz ce sz' ce' := MC.fr hS hC (fun x hx => hF1 x (by omega))
      obtain ⟨hT1, hT21, hm01, hm11, hLF1, hTL1, hKF1⟩ := id hC1
      have hm18 : m < 2 ^ 18 := Nat.lt_of_lt_of_le hmn (Nat.pow_le_pow_right (by decide) hn)
      have h18 : 2 ^ 18 = 262144 := rfl
      refine WP.iload_n dX3_mapsRows_4 rfl ?_
      refine WP.aload_n dX3_mapsRows_5 rfl ?_
      refine WP.getR (y := 103) dX3_mapsRows_6 fl_X3_21 (rfl) (by decide) (rfl) ?_
      refine WP.getM (y := 0) dX3_mapsRows_9 fl_X3_66 (rfl) (by decide) (hm01) ?_
      refine WP.getI (x := ((n : Nat) : Int)) dX3_mapsRows_12 fl_X3_31 (rfl) (by decide) (hT1.1) ?_
      refine WP.icmp_ge (tgt := 96) dX3_mapsRows_15 (by decide) (by omega) (by omega) (fun h15 => ?_) (fun h15 => ?_)
      · skip
        refine WP.iconst dX3_mapsRows_96 ?_
        refine WP.zret dX3_mapsRows_97 rfl (by decide) ?_
        have hrn : r = n := by omega
        subst hrn
        exact ⟨congrArg some (congrArg vI (bi_t (gr_end (E := (fun q r => ∀ c, c < k → imo (w c) (ce q c) = imo (w c) (ce r c))) (T := (fun q r => ∀ c, c < k → ce' q (w c / 256) = imo (w c) (ce r c))) hct hu)).symm), hF1⟩
      · skip
        refine WP.iconst dX3_mapsRows_18 ?_
        refine WP.istore_n (lt := [vR 99, vI ((m : Nat) : Int), vI ((r : Nat) : Int), vI (0 : Int)]) dX3_mapsRows_19 (by decide) rfl ?_
        have L20 : ∀ (n9 : Nat) (c : Nat) (M2 : Mem) (hc : c ≤ k) (hF2 : ∀ x, x ≠ 102 → M2 x = M x) (hR2 : ∀ b, b < c → M2 102 (w b / 256) = ((imo (w b) (ce r b) : Nat) : Int)), k - c < n9 → WP sc0 3 m_X3_mapsRows 20 [vR 99, vI ((m : Nat) : Int), vI ((r : Nat) : Int), vI ((c : Nat) : Int)] [] M2 (fun z M' => z = some (vI (bi (rwm (n, k, sz, ce) (n, k, sz', ce') w k))) ∧ ∀ x, x ≠ 102 → M' x = M x) := by
          intro n9
          induction n9 with
          | zero =>
            intro c M2 hc hF2 hR2 hm9
            exact absurd hm9 (Nat.not_lt_zero _)
          | succ n9 ih20 =>
            intro c M2 hc hF2 hR2 hm9
            have hC2 : MC M2 t n k sz ce sz' ce' := MC.fr hS hC (fun x hx => hF2 x (by omega))
            obtain ⟨hT2, hT22, hm02, hm12, hLF2, hTL2, hKF2⟩ := id hC2
            refine WP.iload_n dX3_mapsRows_20 rfl ?_
            refine WP.aload_n dX3_mapsRows_21 rfl ?_
            refine WP.getR (y := 103) dX3_mapsRows_22 fl_X3_21 (rfl) (by decide) (rfl) ?_
            refine WP.getM (y := 0) dX3_mapsRows_25 fl_X3_66 (rfl) (by decide) (hm02) ?_
            refine WP.getI (x := ((k : Nat) : Int)) dX3_mapsRows_28 fl_X3_37 (rfl) (by decide) (hT2.2.1) ?_
            refine WP.icmp_ge (tgt := 72) dX3_mapsRows_31 (by decide) (by omega) (by omega) (fun h31 => ?_) (fun h31 => ?_)
            · skip
              have hck : c = k := by omega
              obtain ⟨g, hg⟩ : ∃ g : Nat → Nat, ∀ d, g d = (M2 102 d).toNat := ⟨_, fun _ => rfl⟩
              have hg2 : ∀ b, b < k → g (w b / 256) = imo (w b) (ce r b) := fun b hb => by rw [hg, hR2 b (by omega)]; omega
              have hinj : inj (fun b => w b / 256) k := ⟨fun b hb => (hP b hb).1, fun i j hi hj e => by
                rcases Nat.lt_trichotomy i j with z | z | z
                · exact absurd e ((hP j hj).2.2.2.2 i z)
                · exact z
                · exact absurd e.symm ((hP i hi).2.2.2.2 j z)⟩
              have hg3 : ∀ d, d < k → M2 102 d = (g d : Int) ∧ g d < 4 := fun d hd => by
                obtain ⟨b, hb, e⟩ := inj_sur hinj hd
                rw [← e, hg2 b hb]
                exact ⟨hR2 b (by omega), imo_4 _ _⟩
              have hTg : ∀ q, (∀ d, d < k → ce' q d = g d) ↔ ∀ b, b < k → ce' q (w b / 256) = imo (w b) (ce r b) := fun q => ⟨fun z b hb => by rw [z _ (hinj.1 b hb), hg2 b hb], fun z d hd => by
                obtain ⟨b, hb, e⟩ := inj_sur hinj hd
                rw [← e, hg2 b hb, z b hb]⟩
              refine WP.aload_n dX3_mapsRows_72 rfl ?_
              refine WP.iload_n dX3_mapsRows_73 rfl ?_
              refine WP.callV (as := [vI ((m : Nat) : Int)]) dX3_mapsRows_74 mv_X3_121 rfl (rfl) (by decide) rfl rfl (c_M_unused hS hC2 hm18 hg3) rfl (Nat.le_of_ble_eq_true rfl) (by omega) (fun r9 M2 h9 => ?_)
              obtain ⟨v, rfl, hM9, hv⟩ := h9
              subst hM9
              show WP sc0 3 m_X3_mapsRows 77 [vR 99, vI ((m : Nat) : Int), vI ((r : Nat) : Int), vI ((c : Nat) : Int)] [vI v] M2 (fun z M' => z = some (vI (bi (rwm (n, k, sz, ce) (n, k, sz', ce') w k))) ∧ ∀ x, x ≠ 102 → M' x = M x)
              refine WP.istore_n (lt := [vR 99, vI ((m : Nat) : Int), vI ((r : Nat) : Int), vI v]) dX3_mapsRows_77 (by decide) rfl ?_
              refine WP.iload_n dX3_mapsRows_78 rfl ?_
              refine WP.if_ge (tgt := 84) dX3_mapsRows_79 (by decide) (by rcases hv with z | ⟨q, z1, z2, _⟩ <;> omega) (fun h79 => ?_) (fun h79 => ?_)
              · skip
                obtain ⟨q, hq, hvq, hnq, hTq9⟩ := hv.resolve_left (fun z => by omega)
                have hTq := (hTg q).mp hTq9
                refine WP.fgt (lt := [vR 99, vI ((m : Nat) : Int), vI ((r : Nat) : Int), vI ((q : Nat) : Int)]) ⟨Or.inr rfl, Or.inr rfl, Or.inr rfl, Or.inr (congrArg vI (hvq.symm)), trivial⟩ ?_
                refine WP.iload_n dX3_mapsRows_84 rfl ?_
                refine WP.iconst dX3_mapsRows_85 ?_
                refine WP.iload_n dX3_mapsRows_86 rfl ?_
                refine WP.ishl (z := ((2 ^ q : Nat) : Int)) dX3_mapsRows_87 (oi_shl1 q (by omega)) ?_
                refine WP.ior (z := ((m ||| 2 ^ q : Nat) : Int)) dX3_mapsRows_88 (oi_or m (2 ^ q)) ?_
                refine WP.istore_n (lt := [vR 99, vI ((m ||| 2 ^ q : Nat) : Int), vI ((r : Nat) : Int), vI ((q : Nat) : Int)]) dX3_mapsRows_89 (by decide) rfl ?_
                refine WP.iinc (lt := [vR 99, vI ((m ||| 2 ^ q : Nat) : Int), vI (((r : Nat) : Int) + 1), vI ((q : Nat) : Int)]) dX3_mapsRows_90 rfl (by decide) rfl ?_
                refine WP.goto (tgt := 4) dX3_mapsRows_93 (by decide) ?_
                refine WP.fgt (lt := [vR 99, vI (((m ||| 2 ^ q) : Nat) : Int), vI (((r + 1) : Nat) : Int), vU]) ⟨Or.inr rfl, Or.inr (congrArg vI (by omega)), Or.inr (congrArg vI (by omega)), Or.inl rfl, trivial⟩ ?_
                exact ih4 (r + 1) (m ||| 2 ^ q) (M2) (by omega) (hF2) (or_b hmn hq) (by rw [gr_cnt hq hnq, hct]) (grw_new (E := (fun q r => ∀ c, c < k → imo (w c) (ce q c) = imo (w c) (ce r c))) (T := (fun q r => ∀ c, c < k → ce' q (w c / 256) = imo (w c) (ce r c))) hEs hTT hTE hu hq hnq hTq) (by omega)
              · skip
                have hv9 := (hv.resolve_right (fun ⟨q, _, z, _⟩ => by omega)).2
                refine WP.iconst dX3_mapsRows_82 ?_
                refine WP.zret dX3_mapsRows_83 rfl (by decide) ?_
                exact ⟨congrArg some (congrArg vI (bi_f (gr_bad (E := (fun q r => ∀ c, c < k → imo (w c) (ce q c) = imo (w c) (ce r c))) (T := (fun q r => ∀ c, c < k → ce' q (w c / 256) = imo (w c) (ce r c))) (r := r) (fun _ _ _ => rfl) (by omega) hu (fun q hq hnq z => hv9 q hq hnq ((hTg q).mpr z)))).symm), hF2⟩
            · skip
              obtain ⟨wc1, wc2, wc3, wc4, wc5⟩ := hP c (show c < k by omega)
              have wc6 : w c / 256 < k := wc1
              have wr := hW.2.2.2 r (by omega) c (by omega)
              have w4 := h4 c (by omega)
              have wi := imo_4 (w c) (ce r c)
              refine WP.aload_n dX3_mapsRows_34 rfl ?_
              refine WP.getR (y := 102) dX3_mapsRows_35 fl_X3_28 (rfl) (by decide) (rfl) ?_
              refine WP.aload_n dX3_mapsRows_38 rfl ?_
              refine WP.getR (y := 100) dX3_mapsRows_39 fl_X3_9 (rfl) (by decide) (rfl) ?_
              refine WP.iload_n dX3_mapsRows_42 rfl ?_
              refine WP.iaload (y := c) (x := ((w c / 256 : Nat) : Int)) dX3_mapsRows_43 (rfl) (by omega) (by omega) (by rw [hF2 100 (by decide)]; exact (hAr c (by omega)).1) ?_
              refine WP.aload_n dX3_mapsRows_44 rfl ?_
              refine WP.getR (y := 101) dX3_mapsRows_45 fl_X3_15 (rfl) (by decide) (rfl) ?_
              refine WP.iload_n dX3_mapsRows_48 rfl ?_
              refine WP.iconst dX3_mapsRows_49 ?_
              refine WP.imul dX3_mapsRows_50 ?_
              refine WP.aload_n dX3_mapsRows_51 rfl ?_
              refine WP.getR (y := 103) dX3_mapsRows_52 fl_X3_21 (rfl) (by decide) (rfl) ?_
              refine WP.getM (y := 0) dX3_mapsRows_55 fl_X3_66 (rfl) (by decide) (hm02) ?_
              refine WP.iload_n dX3_mapsRows_58 rfl ?_
              refine WP.iload_n dX3_mapsRows_59 rfl ?_
              refine WP.callVp (as := [vI ((r : Nat) : Int), vI ((c : Nat) : Int)]) dX3_mapsRows_60 mv_X3_117 rfl (rfl) (by decide) rfl rfl (c_T_at (r := r) (c := c) t0 (by omega) (by omega) (hT2.2.2.2 r (by omega) c (by omega))) rfl (Nat.le_of_ble_eq_true rfl) (by omega) ?_
              refine WP.iadd dX3_mapsRows_63 ?_
              refine WP.iaload (y := (c * 4 + ce r c)) (x := ((imo (w c) (ce r c) : Nat) : Int)) dX3_mapsRows_64 (rfl) (by omega) (by omega) (by rw [hF2 101 (by decide)]; exact (hAr c (by omega)).2 _ wr) ?_
              refine WP.iastore (y := (w c / 256)) dX3_mapsRows_65 (rfl) (by omega) (by omega) rfl ?_
              obtain ⟨M3, hM3⟩ : ∃ z, z = (mset M2 102 ((w c / 256)) ((imo (w c) (ce r c) : Nat) : Int)) := ⟨_, rfl⟩
              refine WP.eqM hM3.symm ?_
              refine WP.iinc (lt := [vR 99, vI ((m : Nat) : Int), vI ((r : Nat) : Int), vI (((c : Nat) : Int) + 1)]) dX3_mapsRows_66 rfl (by decide) rfl ?_
              refine WP.goto (tgt := 20) dX3_mapsRows_69 (by decide) ?_
              refine WP.fgt (lt := [vR 99, vI ((m : Nat) : Int), vI ((r : Nat) : Int), vI (((c + 1) : Nat) : Int)]) ⟨Or.inr rfl, Or.inr rfl, Or.inr rfl, Or.inr (congrArg vI (by omega)), trivial⟩ ?_
              exact ih20 (c + 1) (M3) (by omega) (fun x hx => by rw [hM3, mset_o x hx]; exact hF2 x hx) (fun b hb => by
                rw [hM3]
                by_cases e9 : b = c
                · rw [e9, mset_s]
                · rw [mset_n (Or.inr (fun z => wc5 b (by omega) z))]; exact hR2 b (by omega)) (by omega)
        refine WP.fgt (lt := [vR 99, vI ((m : Nat) : Int), vI ((r : Nat) : Int), vI ((0 : Nat) : Int)]) ⟨Or.inr rfl, Or.inr rfl, Or.inr rfl, Or.inr (congrArg vI (by omega)), trivial⟩ ?_
        exact L20 _ (0) (M1) (Nat.zero_le _) (hF1) (fun b hb => absurd hb (Nat.not_lt_zero b)) (Nat.lt_succ_self _)
  refine WP.fgt (lt := [vR 99, vI ((0 : Nat) : Int), vI ((0 : Nat) : Int), vU]) ⟨Or.inr rfl, Or.inr (congrArg vI (by omega)), Or.inr (congrArg vI (by omega)), Or.inl rfl, trivial⟩ ?_
  exact L4 _ (0) (0) (M) (Nat.zero_le _) (fun _ _ => rfl) (Nat.two_pow_pos n) (cn_0.mpr (fun r _ z => nmk0 r z)) (fun a ha => by
    show _ = 0
    exact cn_0.mpr (fun r _ z => nmk0 r z.1)) (Nat.lt_succ_self _)
