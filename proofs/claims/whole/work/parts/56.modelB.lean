def FS (M : Mem) (n k : Nat) (sz : Nat → Nat) (ce : Nat → Nat → Nat) (lv : Nat) (x : Nat → Nat) (j r : Nat) : Prop := j ≤ lv ∧ (r = n → j = 0) ∧ (∀ q, q < r → M 173 q = (x q : Int)) ∧ M 173 r = (j : Int) - 1 ∧ (0 < j → x r + 1 = j) ∧ TBL M k ce x (if j = 0 then r else r + 1) ∧ feas n k sz ce lv x r ∧ ∀ y, ext n k sz ce lv y → ¬ lxl y x r ∧ ((∀ q, q < r → y q = x q) → r < n → j ≤ y r)
theorem FS_fit {n k lv j r : Nat} {sz : Nat → Nat} {ce : Nat → Nat → Nat} {x y : Nat → Nat} (hW : Wf n k sz ce) (hl : 0 < lv) (hr : r < n) {u : Nat} (hnf : ∀ u', j ≤ u' → u' < u → ¬ fit n k lv sz ce x r u') (hj : (∀ q, q < r → y q = x q) → r < n → j ≤ y r) (he : ext n k sz ce lv y) (ha : ∀ q, q < r → y q = x q) : u ≤ y r := by
  rcases Nat.lt_or_ge (y r) u with z | z
  · exact absurd (fit_of hW hl hr ha he) (hnf _ (hj ha hr) z)
  · exact z
theorem FS_up {M M' : Mem} {n k lv j r v : Nat} {sz : Nat → Nat} {ce : Nat → Nat → Nat} {x : Nat → Nat} (hW : Wf n k sz ce) (hl : 0 < lv) (hr : r < n) (h : FS M n k sz ce lv x j r) (hv : v < lv) (hfit : fit n k lv sz ce x r v) (hnf : ∀ u, j ≤ u → u < v → ¬ fit n k lv sz ce x r u) (h1 : ∀ q, q < r → M' 173 q = (x q : Int)) (h2 : M' 173 r = (v : Int)) (h3 : M' 173 (r + 1) = -1) (h4 : TBL M' k ce (upN x r v) (r + 1)) : FS M' n k sz ce lv (upN x r v) 0 (r + 1) := by
  obtain ⟨a1, a2, a3, a4, a5, a6, a7, a8⟩ := h
  refine ⟨Nat.zero_le _, fun _ => rfl, fun q hq => ?_, h3, fun z => absurd z (Nat.lt_irrefl 0), by rw [if_pos rfl]; exact h4, fit_feas a7 hv hfit, fun y he => ⟨fun ⟨q, q1, q2, q3⟩ => ?_, fun _ _ => Nat.zero_le _⟩⟩
  · by_cases e : q = r
    · rw [e, upN_s]; exact h2
    · rw [upN_n e]; exact h1 q (by omega)
  · by_cases e : q = r
    · rw [e, upN_s] at q2
      have := FS_fit hW hl hr hnf (a8 y he).2 he (fun p hp => by rw [q3 p (by omega), upN_n (by omega)])
      omega
    · rw [upN_n e] at q2
      exact (a8 y he).1 ⟨q, by omega, q2, fun p hp => by rw [q3 p hp, upN_n (by omega)]⟩
theorem FS_dn {M M' : Mem} {n k lv j r : Nat} {sz : Nat → Nat} {ce : Nat → Nat → Nat} {x : Nat → Nat} (hW : Wf n k sz ce) (hl : 0 < lv) (hr : r < n) (h : FS M n k sz ce lv x j r) (hnf : ∀ u, j ≤ u → u < lv → ¬ fit n k lv sz ce x r u) (h1 : ∀ q, q < r → M' 173 q = (x q : Int)) (h4 : TBL M' k ce x r) : (r = 0 ∧ ∀ y, ¬ ext n k sz ce lv y) ∨ (1 ≤ r ∧ FS M' n k sz ce lv x (x (r - 1) + 1) (r - 1)) := by
  obtain ⟨a1, a2, a3, a4, a5, a6, a7, a8⟩ := h
  have hno : ∀ y, ext n k sz ce lv y → ¬ ∀ q, q < r → y q = x q := fun y he ha => by
    have := FS_fit hW hl hr hnf (a8 y he).2 he ha
    have := he.1 r hr
    omega
  by_cases e : r = 0
  · subst e
    exact Or.inl ⟨rfl, fun y he => hno y he (fun q hq => absurd hq (Nat.not_lt_zero q))⟩
  · have hx := a7.1 (r - 1) (by omega)
    refine Or.inr ⟨by omega, by omega, fun z => by omega, fun q hq => h1 q (by omega), by rw [h1 (r - 1) (by omega)]; omega, fun _ => rfl, by rw [if_neg (by omega), show r - 1 + 1 = r by omega]; exact h4, feas_less a7 (by omega), fun y he => ⟨fun ⟨q, q1, q2, q3⟩ => (a8 y he).1 ⟨q, by omega, q2, q3⟩, fun ha _ => ?_⟩⟩
    rcases Nat.lt_trichotomy (y (r - 1)) (x (r - 1)) with z | z | z
    · exact absurd ⟨r - 1, by omega, z, ha⟩ (a8 y he).1
    · exact absurd (fun q hq => by
        by_cases e2 : q = r - 1
        · rw [e2]; exact z
        · exact ha q (by omega)) (hno y he)
    · omega
theorem FS_end {M : Mem} {n k lv j : Nat} {sz : Nat → Nat} {ce : Nat → Nat → Nat} {x : Nat → Nat} (hW : Wf n k sz ce) (hl : 0 < lv) (hb : canB n k sz ce lv) (h : FS M n k sz ce lv x j n) : lext n k sz ce lv x ∧ ∀ q, q < n → M 173 q = (x q : Int) := by
  obtain ⟨a1, a2, a3, a4, a5, a6, a7, a8⟩ := h
  exact ⟨⟨feas_ext hW hl hb a7, fun y he => (a8 y he).1⟩, a3⟩
theorem btM_fail {b n r j : Nat} {x : Nat → Nat} (hb : 0 < b) (hr : r < n) (hx : ∀ q, q < r → x q + 1 < b) (hj : j < b) : btM b n r x (x (r - 1) + 1) < btM b n (r + 1) x j := by
  by_cases e : r = 0
  · subst e
    have := btM_0 (n := n) (x := x) hb hj
    unfold btM at this ⊢
    rw [if_pos rfl] at this ⊢
    exact this
  · have := btM_dn (n := n) (r := r - 1) (j := j) (x := x) hb (by omega) (fun q hq => hx q (by omega)) hj
    rw [show r - 1 + 1 = r by omega, show r - 1 + 2 = r + 1 by omega] at this
    exact this
set_option maxHeartbeats 4000000 in
set_option maxRecDepth 20000 in
theorem w_findsColumn {M : Mem} {n k : Nat} {sz : Nat → Nat} {ce : Nat → Nat → Nat} {lv : Nat} (hA : BX (M 168) n k sz ce) (hW : Wf n k sz ce) (hlv : 2 ≤ lv ∧ lv ≤ 6) (hn : 1 ≤ n ∧ n ≤ 16) : CT 6 m_X8_findsColumn [vR 167, vI ((lv : Nat) : Int)] M (fun z M' => z = some (vI (bi (∃ x, ext n k sz ce lv x))) ∧ (∀ a, a ≠ 167 → (a < 173 ∨ 175 < a) → M' a = M a) ∧ (∀ j, j ≠ 8 → j ≠ 9 → M' 167 j = M 167 j) ∧ ((∃ x, ext n k sz ce lv x) → ∀ q, q < n → M' 173 q = (lxE n k sz ce lv q : Int))) := by
  have b1 := hW.1
  have b2 := hW.2.1
  refine CT.ofWP (by decide +kernel) (Nat.le_of_ble_eq_true rfl) ?_
  show WP sc0 6 m_X8_findsColumn 0 [vR 167, vI ((lv : Nat) : Int), vU, vU] [] M (fun z M' => z = some (vI (bi (∃ x, ext n k sz ce lv x))) ∧ (∀ a, a ≠ 167 → (a < 173 ∨ 175 < a) → M' a = M a) ∧ (∀ j, j ≠ 8 → j ≠ 9 → M' 167 j = M 167 j) ∧ ((∃ x, ext n k sz ce lv x) → ∀ q, q < n → M' 173 q = (lxE n k sz ce lv q : Int)))
  refine WP.aload_n dX8_findsColumn_0 rfl ?_
  refine WP.iload_n dX8_findsColumn_1 rfl ?_
  refine WP.callV (as := [vI ((lv : Nat) : Int)]) dX8_findsColumn_2 mv_X8_169 rfl (rfl) (by decide) rfl rfl (w_canDivide hA hW hlv) rfl (Nat.le_of_ble_eq_true rfl) (by omega) (fun r9 M1 h9 => ?_)
  obtain ⟨rfl, f1, g1⟩ := h9
  show WP sc0 6 m_X8_findsColumn 5 [vR 167, vI ((lv : Nat) : Int), vU, vU] [vI (bi (canB n k sz ce lv))] M1 (fun z M' => z = some (vI (bi (∃ x, ext n k sz ce lv x))) ∧ (∀ a, a ≠ 167 → (a < 173 ∨ 175 < a) → M' a = M a) ∧ (∀ j, j ≠ 8 → j ≠ 9 → M' 167 j = M 167 j) ∧ ((∃ x, ext n k sz ce lv x) → ∀ q, q < n → M' 173 q = (lxE n k sz ce lv q : Int)))
  refine WP.if_ne (tgt := 10) dX8_findsColumn_5 (by decide) (bi_rng) (fun h5 => ?_) (fun h5 => ?_)
  · skip
    have hcb := bi_1 h5
    refine WP.iconst dX8_findsColumn_10 ?_
    refine WP.istore_n (lt := [vR 167, vI ((lv : Nat) : Int), vI (0 : Int), vU]) dX8_findsColumn_11 (by decide) rfl ?_
    have L12 : ∀ (n9 : Nat) (j : Nat) (M2 : Mem) (hj : j ≤ 252) (hF2 : ∀ a, a ≠ 175 → M2 a = M1 a) (hA2 : ∀ q, q < j → M2 175 q = 0), 252 - j < n9 → WP sc0 6 m_X8_findsColumn 12 [vR 167, vI ((lv : Nat) : Int), vI ((j : Nat) : Int), vU] [] M2 (fun z M' => z = some (vI (bi (∃ x, ext n k sz ce lv x))) ∧ (∀ a, a ≠ 167 → (a < 173 ∨ 175 < a) → M' a = M a) ∧ (∀ j, j ≠ 8 → j ≠ 9 → M' 167 j = M 167 j) ∧ ((∃ x, ext n k sz ce lv x) → ∀ q, q < n → M' 173 q = (lxE n k sz ce lv q : Int))) := by
      intro n9
      induction n9 with
      | zero =>
        intro j M2 hj hF2 hA2 hm9
        exact absurd hm9 (Nat.not_lt_zero _)
      | succ n9 ih12 =>
        intro j M2 hj hF2 hA2 hm9
        refine WP.iload_n dX8_findsColumn_12 rfl ?_
        refine WP.sipush dX8_findsColumn_13 (by decide) ?_
        refine WP.icmp_ge (tgt := 32) dX8_findsColumn_16 (by decide) (by omega) (by omega) (fun h16 => ?_) (fun h16 => ?_)
        · skip
          have hj252 : j = 252 := by omega
          rw [hj252] at hA2
          refine WP.iconst dX8_findsColumn_32 ?_
          refine WP.istore_n (lt := [vR 167, vI ((lv : Nat) : Int), vI (0 : Int), vU]) dX8_findsColumn_33 (by decide) rfl ?_
          have L34 : ∀ (n9 : Nat) (j : Nat) (M3 : Mem) (hj : j ≤ 6) (hF3 : ∀ a, a ≠ 174 → M3 a = M2 a) (hA3 : ∀ q, q < j → M3 174 q = 0), 6 - j < n9 → WP sc0 6 m_X8_findsColumn 34 [vR 167, vI ((lv : Nat) : Int), vI ((j : Nat) : Int), vU] [] M3 (fun z M' => z = some (vI (bi (∃ x, ext n k sz ce lv x))) ∧ (∀ a, a ≠ 167 → (a < 173 ∨ 175 < a) → M' a = M a) ∧ (∀ j, j ≠ 8 → j ≠ 9 → M' 167 j = M 167 j) ∧ ((∃ x, ext n k sz ce lv x) → ∀ q, q < n → M' 173 q = (lxE n k sz ce lv q : Int))) := by
            intro n9
            induction n9 with
            | zero =>
              intro j M3 hj hF3 hA3 hm9
              exact absurd hm9 (Nat.not_lt_zero _)
            | succ n9 ih34 =>
              intro j M3 hj hF3 hA3 hm9
              refine WP.iload_n dX8_findsColumn_34 rfl ?_
              refine WP.bipush dX8_findsColumn_35 (by decide) ?_
              refine WP.icmp_ge (tgt := 53) dX8_findsColumn_37 (by decide) (by omega) (by omega) (fun h37 => ?_) (fun h37 => ?_)
              · skip
                have hj6 : j = 6 := by omega
                rw [hj6] at hA3
                refine WP.iconst dX8_findsColumn_53 ?_
                refine WP.istore_n (lt := [vR 167, vI ((lv : Nat) : Int), vI (0 : Int), vU]) dX8_findsColumn_54 (by decide) rfl ?_
                refine WP.aload_n dX8_findsColumn_55 rfl ?_
                refine WP.getR (y := 173) dX8_findsColumn_56 fl_X8_25 (rfl) (by decide) (rfl) ?_
                refine WP.iconst dX8_findsColumn_59 ?_
                refine WP.iconst dX8_findsColumn_60 ?_
                refine WP.iastore (y := 0) dX8_findsColumn_61 (rfl) (by omega) (by omega) rfl ?_
                obtain ⟨M4, hM4⟩ : ∃ z, z = (mset M3 173 0 ((-1) : Int)) := ⟨_, rfl⟩
                refine WP.eqM hM4.symm ?_
                have hO4 : ∀ a, a ≠ 173 → M4 a = M3 a := fun a ha => by rw [hM4]; exact mset_o a ha
                have hF4 : ∀ a, a ≠ 167 → a ≠ 173 → a ≠ 174 → a ≠ 175 → M4 a = M a := fun a i1 i2 i3 i4 => by rw [hO4 a i2, hF3 a i3, hF2 a i4, f1 a i1]
                have hG4 : ∀ j, j ≠ 8 → j ≠ 9 → M4 167 j = M 167 j := fun j i1 i2 => by rw [hO4 167 (by decide), hF3 167 (by decide), hF2 167 (by decide)]; exact g1 j i1 i2
                have hS4 : FS M4 n k sz ce lv (fun _ => 0) 0 0 := by
                  refine ⟨Nat.zero_le _, fun _ => rfl, fun q hq => absurd hq (Nat.not_lt_zero q), by rw [hM4, mset_s]; rfl, fun z => absurd z (Nat.lt_irrefl 0), ?_, ⟨fun q hq => absurd hq (Nat.not_lt_zero q), fun g _ => Nat.zero_le _, fun c _ v _ g _ => Nat.zero_le _⟩, fun y he => ⟨fun ⟨q, q1, _⟩ => absurd q1 (Nat.not_lt_zero q), fun _ _ => Nat.zero_le _⟩⟩
                  rw [if_pos rfl]
                  refine ⟨fun g hg => by rw [hO4 174 (by decide), hA3 g hg]; rfl, fun c hc v hv g hg => ?_⟩
                  rw [hO4 175 (by decide), hF3 175 (by decide), hA2 _ (by omega)]; rfl
                have L62 : ∀ (n9 : Nat) (R j : Nat) (x : Nat → Nat) (M5 : Mem) (hR : R ≤ n + 1) (hF5 : ∀ a, a ≠ 167 → a ≠ 173 → a ≠ 174 → a ≠ 175 → M5 a = M a) (hG5 : ∀ j, j ≠ 8 → j ≠ 9 → M5 167 j = M 167 j) (hst : (R = 0 ∧ ∀ y, ¬ ext n k sz ce lv y) ∨ (1 ≤ R ∧ FS M5 n k sz ce lv x j (R - 1))), btM 8 n R x j < n9 → WP sc0 6 m_X8_findsColumn 62 [vR 167, vI ((lv : Nat) : Int), vI (((R : Nat) : Int) - 1), vU] [] M5 (fun z M' => z = some (vI (bi (∃ x, ext n k sz ce lv x))) ∧ (∀ a, a ≠ 167 → (a < 173 ∨ 175 < a) → M' a = M a) ∧ (∀ j, j ≠ 8 → j ≠ 9 → M' 167 j = M 167 j) ∧ ((∃ x, ext n k sz ce lv x) → ∀ q, q < n → M' 173 q = (lxE n k sz ce lv q : Int))) := by
                  intro n9
                  induction n9 with
                  | zero =>
                    intro R j x M5 hR hF5 hG5 hst hm9
                    exact absurd hm9 (Nat.not_lt_zero _)
                  | succ n9 ih62 =>
                    intro R j x M5 hR hF5 hG5 hst hm9
                    refine WP.iload_n dX8_findsColumn_62 rfl ?_
                    refine WP.if_lt (tgt := 165) dX8_findsColumn_63 (by decide) (by omega) (fun h63 => ?_) (fun h63 => ?_)
                    · skip
                      have hR0 : R = 0 := by omega
                      refine WP.iload_n dX8_findsColumn_165 rfl ?_
                      refine WP.if_lt (tgt := 173) dX8_findsColumn_166 (by decide) (by omega) (fun h166 => ?_) (fun h166 => ?_)
                      · skip
                        refine WP.iconst dX8_findsColumn_173 ?_
                        refine WP.zret dX8_findsColumn_174 rfl (by decide) ?_
                        have hno := (hst.resolve_right (fun z => by omega)).2
                        exact ⟨congrArg some (congrArg vI (bi_f (fun ⟨y, he⟩ => hno y he)).symm), fun a i1 i2 => hF5 a i1 (by omega) (by omega) (by omega), hG5, fun z => absurd z (fun ⟨y, he⟩ => hno y he)⟩
                      · skip
                        exfalso
                        omega
                    · skip
                      have hst9 := hst.resolve_left (fun z => by omega)
                      obtain ⟨r, hr⟩ : ∃ z, R = z + 1 := ⟨R - 1, by omega⟩
                      subst hr
                      have hfs : FS M5 n k sz ce lv x j r := hst9.2
                      have hjl := hfs.1
                      refine WP.fgt (lt := [vR 167, vI ((lv : Nat) : Int), vI ((r : Nat) : Int), vU]) ⟨Or.inr rfl, Or.inr rfl, Or.inr (congrArg vI (by omega)), Or.inl rfl, trivial⟩ ?_
                      refine WP.iload_n dX8_findsColumn_66 rfl ?_
                      refine WP.aload_n dX8_findsColumn_67 rfl ?_
                      refine WP.getR (y := 168) dX8_findsColumn_68 fl_X8_7 (rfl) (by decide) (rfl) ?_
                      refine WP.iconst dX8_findsColumn_71 ?_
                      refine WP.iaload (y := 0) (x := ((n : Nat) : Int)) dX8_findsColumn_72 (rfl) (by omega) (by omega) (by rw [hF5 168 (by decide) (by decide) (by decide) (by decide)]; exact hA.1) ?_
                      refine WP.icmp_ge (tgt := 165) dX8_findsColumn_73 (by decide) (by omega) (by omega) (fun h73 => ?_) (fun h73 => ?_)
                      · skip
                        have hrn : r = n := by omega
                        refine WP.iload_n dX8_findsColumn_165 rfl ?_
                        refine WP.if_lt (tgt := 173) dX8_findsColumn_166 (by decide) (by omega) (fun h166 => ?_) (fun h166 => ?_)
                        · skip
                          exfalso
                          omega
                        · skip
                          refine WP.iconst dX8_findsColumn_169 ?_
                          refine WP.goto (tgt := 174) dX8_findsColumn_170 (by decide) ?_
                          refine WP.zret dX8_findsColumn_174 rfl (by decide) ?_
                          rw [hrn] at hfs
                          obtain ⟨l1, l2⟩ := FS_end hW (by omega) hcb hfs
                          exact ⟨congrArg some (congrArg vI (bi_t ⟨x, l1.1⟩).symm), fun a i1 i2 => hF5 a i1 (by omega) (by omega) (by omega), hG5, fun _ q hq => by rw [l2 q hq, lxE_eq l1 hq]⟩
                      · skip
                        have hrn : r < n := by omega
                        have hA5 : BX (M5 168) n k sz ce := by rw [hF5 168 (by decide) (by decide) (by decide) (by decide)]; exact hA
                        refine WP.aload_n dX8_findsColumn_76 rfl ?_
                        refine WP.getR (y := 173) dX8_findsColumn_77 fl_X8_25 (rfl) (by decide) (rfl) ?_
                        refine WP.iload_n dX8_findsColumn_80 rfl ?_
                        refine WP.iaload (y := r) (x := (((j : Nat) : Int) - 1)) dX8_findsColumn_81 (rfl) (by omega) (by omega) (hfs.2.2.2.1) ?_
                        refine WP.if_lt (tgt := 97) dX8_findsColumn_82 (by decide) (by omega) (fun h82 => ?_) (fun h82 => ?_)
                        · skip
                          have hj0 : j = 0 := by omega
                          obtain ⟨M7, hM7⟩ : ∃ z, z = M5 := ⟨_, rfl⟩
                          refine WP.eqM hM7.symm ?_
                          have hE7 : ∀ a, a ≠ 174 → a ≠ 175 → M7 a = M5 a := fun a _ _ => by rw [hM7]
                          have hT7 : TBL M7 k ce x r := by
                            have := hfs.2.2.2.2.2.1
                            rw [if_pos hj0] at this
                            rw [hM7]; exact this
                          have hF7 : ∀ a, a ≠ 167 → a ≠ 173 → a ≠ 174 → a ≠ 175 → M7 a = M a := fun a i1 i2 i3 i4 => by rw [hE7 a i3 i4]; exact hF5 a i1 i2 i3 i4
                          have hG7 : ∀ j, j ≠ 8 → j ≠ 9 → M7 167 j = M 167 j := fun j i1 i2 => by rw [hE7 167 (by decide) (by decide)]; exact hG5 j i1 i2
                          have hA7 : BX (M7 168) n k sz ce := by rw [hF7 168 (by decide) (by decide) (by decide) (by decide)]; exact hA
                          refine WP.aload_n dX8_findsColumn_97 rfl ?_
                          refine WP.getR (y := 173) dX8_findsColumn_98 fl_X8_25 (rfl) (by decide) (rfl) ?_
                          refine WP.iload_n dX8_findsColumn_101 rfl ?_
                          refine WP.iaload (y := r) (x := (((j : Nat) : Int) - 1)) dX8_findsColumn_102 (rfl) (by omega) (by omega) (by rw [hE7 173 (by decide) (by decide)]; exact hfs.2.2.2.1) ?_
                          refine WP.iconst dX8_findsColumn_103 ?_
                          refine WP.iadd dX8_findsColumn_104 ?_
                          refine WP.istore_n (lt := [vR 167, vI ((lv : Nat) : Int), vI ((r : Nat) : Int), vI ((((j : Nat) : Int) - 1) + (1 : Int))]) dX8_findsColumn_105 (by decide) rfl ?_
                          have L106 : ∀ (n9 : Nat) (v : Nat) (hv : j ≤ v ∧ v ≤ lv) (hnf : ∀ u, j ≤ u → u < v → ¬ fit n k lv sz ce x r u), lv - v < n9 → WP sc0 6 m_X8_findsColumn 106 [vR 167, vI ((lv : Nat) : Int), vI ((r : Nat) : Int), vI ((v : Nat) : Int)] [] M7 (fun z M' => z = some (vI (bi (∃ x, ext n k sz ce lv x))) ∧ (∀ a, a ≠ 167 → (a < 173 ∨ 175 < a) → M' a = M a) ∧ (∀ j, j ≠ 8 → j ≠ 9 → M' 167 j = M 167 j) ∧ ((∃ x, ext n k sz ce lv x) → ∀ q, q < n → M' 173 q = (lxE n k sz ce lv q : Int))) := by
                            intro n9
                            induction n9 with
                            | zero =>
                              intro v hv hnf hm9
                              exact absurd hm9 (Nat.not_lt_zero _)
                            | succ n9 ih106 =>
                              intro v hv hnf hm9
                              refine WP.iload_n dX8_findsColumn_106 rfl ?_
                              refine WP.iload_n dX8_findsColumn_107 rfl ?_
                              refine WP.icmp_ge (tgt := 127) dX8_findsColumn_108 (by decide) (by omega) (by omega) (fun h108 => ?_) (fun h108 => ?_)
                              · skip
                                have hvl : v = lv := by omega
                                refine WP.aload_n dX8_findsColumn_127 rfl ?_
                                refine WP.getR (y := 173) dX8_findsColumn_128 fl_X8_25 (rfl) (by decide) (rfl) ?_
                                refine WP.iload_n dX8_findsColumn_131 rfl ?_
                                refine WP.iload_n dX8_findsColumn_132 rfl ?_
                                refine WP.iastore (y := r) dX8_findsColumn_133 (rfl) (by omega) (by omega) rfl ?_
                                obtain ⟨M8, hM8⟩ : ∃ z, z = (mset M7 173 r ((v : Nat) : Int)) := ⟨_, rfl⟩
                                refine WP.eqM hM8.symm ?_
                                have hO8 : ∀ a, a ≠ 173 → M8 a = M7 a := fun a ha => by rw [hM8]; exact mset_o a ha
                                have hF8 : ∀ a, a ≠ 167 → a ≠ 173 → a ≠ 174 → a ≠ 175 → M8 a = M a := fun a i1 i2 i3 i4 => by rw [hO8 a i2]; exact hF7 a i1 i2 i3 i4
                                have hG8 : ∀ j, j ≠ 8 → j ≠ 9 → M8 167 j = M 167 j := fun j i1 i2 => by rw [hO8 167 (by decide)]; exact hG7 j i1 i2
                                have hA8 : BX (M8 168) n k sz ce := by rw [hF8 168 (by decide) (by decide) (by decide) (by decide)]; exact hA
                                have hT8 : TBL M8 k ce x r := by
                                  unfold TBL
                                  rw [hO8 174 (by decide), hO8 175 (by decide)]
                                  exact hT7
                                refine WP.iload_n dX8_findsColumn_134 rfl ?_
                                refine WP.iload_n dX8_findsColumn_135 rfl ?_
                                refine WP.icmp_ne (tgt := 145) dX8_findsColumn_136 (by decide) (by omega) (by omega) (fun h136 => ?_) (fun h136 => ?_)
                                · skip
                                  exfalso
                                  omega
                                · skip
                                  refine WP.iinc (lt := [vR 167, vI ((lv : Nat) : Int), vI (((r : Nat) : Int) + (-1)), vI ((v : Nat) : Int)]) dX8_findsColumn_139 rfl (by decide) rfl ?_
                                  refine WP.goto (tgt := 162) dX8_findsColumn_142 (by decide) ?_
                                  refine WP.goto (tgt := 62) dX8_findsColumn_162 (by decide) ?_
                                  refine WP.fgt (lt := [vR 167, vI ((lv : Nat) : Int), vI (((r : Nat) : Int) - 1), vU]) ⟨Or.inr rfl, Or.inr rfl, Or.inr (congrArg vI (by omega)), Or.inl rfl, trivial⟩ ?_
                                  exact ih62 (r) (x (r - 1) + 1) (x) (M8) (by omega) (hF8) (hG8) (FS_dn hW (by omega) hrn hfs (fun u i1 i2 => hnf u i1 (by omega)) (fun q hq => by rw [hM8, mset_n (Or.inr (by omega)), hE7 173 (by decide) (by decide)]; exact hfs.2.2.1 q hq) hT8) (by have := btM_fail (b := 8) (n := n) (r := r) (j := j) (x := x) (by decide) hrn (fun q hq => by have := hfs.2.2.2.2.2.2.1.1 q hq; omega) (by omega); omega)
                              · skip
                                refine WP.aload_n dX8_findsColumn_111 rfl ?_
                                refine WP.iload_n dX8_findsColumn_112 rfl ?_
                                refine WP.iload_n dX8_findsColumn_113 rfl ?_
                                refine WP.iload_n dX8_findsColumn_114 rfl ?_
                                refine WP.callVp (as := [vI ((r : Nat) : Int), vI ((v : Nat) : Int), vI ((lv : Nat) : Int)]) dX8_findsColumn_115 mv_X8_175 rfl (rfl) (by decide) rfl rfl (w_mayBe (r := r) (v := v) (lv := lv) (x := x) hA7 hW hrn hn.2 (by omega) hlv.2 hT7) rfl (Nat.le_of_ble_eq_true rfl) (by omega) ?_
                                refine WP.if_ne (tgt := 127) dX8_findsColumn_118 (by decide) (bi_rng) (fun h118 => ?_) (fun h118 => ?_)
                                · skip
                                  have hfit := (fitM_fit hW (by omega) hcb).mp (bi_1 h118)
                                  have hvl : v < lv := by omega
                                  refine WP.aload_n dX8_findsColumn_127 rfl ?_
                                  refine WP.getR (y := 173) dX8_findsColumn_128 fl_X8_25 (rfl) (by decide) (rfl) ?_
                                  refine WP.iload_n dX8_findsColumn_131 rfl ?_
                                  refine WP.iload_n dX8_findsColumn_132 rfl ?_
                                  refine WP.iastore (y := r) dX8_findsColumn_133 (rfl) (by omega) (by omega) rfl ?_
                                  obtain ⟨M8, hM8⟩ : ∃ z, z = (mset M7 173 r ((v : Nat) : Int)) := ⟨_, rfl⟩
                                  refine WP.eqM hM8.symm ?_
                                  have hO8 : ∀ a, a ≠ 173 → M8 a = M7 a := fun a ha => by rw [hM8]; exact mset_o a ha
                                  have hF8 : ∀ a, a ≠ 167 → a ≠ 173 → a ≠ 174 → a ≠ 175 → M8 a = M a := fun a i1 i2 i3 i4 => by rw [hO8 a i2]; exact hF7 a i1 i2 i3 i4
                                  have hG8 : ∀ j, j ≠ 8 → j ≠ 9 → M8 167 j = M 167 j := fun j i1 i2 => by rw [hO8 167 (by decide)]; exact hG7 j i1 i2
                                  have hA8 : BX (M8 168) n k sz ce := by rw [hF8 168 (by decide) (by decide) (by decide) (by decide)]; exact hA
                                  have hT8 : TBL M8 k ce x r := by
                                    unfold TBL
                                    rw [hO8 174 (by decide), hO8 175 (by decide)]
                                    exact hT7
                                  refine WP.iload_n dX8_findsColumn_134 rfl ?_
                                  refine WP.iload_n dX8_findsColumn_135 rfl ?_
                                  refine WP.icmp_ne (tgt := 145) dX8_findsColumn_136 (by decide) (by omega) (by omega) (fun h136 => ?_) (fun h136 => ?_)
                                  · skip
                                    refine WP.aload_n dX8_findsColumn_145 rfl ?_
                                    refine WP.iload_n dX8_findsColumn_146 rfl ?_
                                    refine WP.iload_n dX8_findsColumn_147 rfl ?_
                                    refine WP.iconst dX8_findsColumn_148 ?_
                                    refine WP.callV (as := [vI ((r : Nat) : Int), vI ((v : Nat) : Int), vI (1 : Int)]) dX8_findsColumn_149 mv_X8_172 rfl (rfl) (by decide) rfl rfl (w_notes (r := r) (v := v) (d := 1) hA8 hW hrn (by omega)) rfl (Nat.le_of_ble_eq_true rfl) (by omega) (fun r9 M9 h9 => ?_)
                                    obtain ⟨rfl, f9, n9_⟩ := h9
                                    have hT9 : TBL M9 k ce (upN x r v) (r + 1) := TBL_up hT8 n9_
                                    show WP sc0 6 m_X8_findsColumn 152 [vR 167, vI ((lv : Nat) : Int), vI ((r : Nat) : Int), vI ((v : Nat) : Int)] [] M9 (fun z M' => z = some (vI (bi (∃ x, ext n k sz ce lv x))) ∧ (∀ a, a ≠ 167 → (a < 173 ∨ 175 < a) → M' a = M a) ∧ (∀ j, j ≠ 8 → j ≠ 9 → M' 167 j = M 167 j) ∧ ((∃ x, ext n k sz ce lv x) → ∀ q, q < n → M' 173 q = (lxE n k sz ce lv q : Int)))
                                    refine WP.iinc (lt := [vR 167, vI ((lv : Nat) : Int), vI (((r : Nat) : Int) + 1), vI ((v : Nat) : Int)]) dX8_findsColumn_152 rfl (by decide) rfl ?_
                                    refine WP.aload_n dX8_findsColumn_155 rfl ?_
                                    refine WP.getR (y := 173) dX8_findsColumn_156 fl_X8_25 (rfl) (by decide) (rfl) ?_
                                    refine WP.iload_n dX8_findsColumn_159 rfl ?_
                                    refine WP.iconst dX8_findsColumn_160 ?_
                                    refine WP.iastore (y := (r + 1)) dX8_findsColumn_161 (rfl) (by omega) (by omega) rfl ?_
                                    obtain ⟨M10, hM10⟩ : ∃ z, z = (mset M9 173 ((r + 1)) ((-1) : Int)) := ⟨_, rfl⟩
                                    refine WP.eqM hM10.symm ?_
                                    have hO10 : ∀ a, a ≠ 173 → M10 a = M9 a := fun a ha => by rw [hM10]; exact mset_o a ha
                                    have hF10 : ∀ a, a ≠ 167 → a ≠ 173 → a ≠ 174 → a ≠ 175 → M10 a = M a := fun a i1 i2 i3 i4 => by rw [hO10 a i2, f9 a i3 i4]; exact hF8 a i1 i2 i3 i4
                                    have hG10 : ∀ j, j ≠ 8 → j ≠ 9 → M10 167 j = M 167 j := fun j i1 i2 => by rw [hO10 167 (by decide), f9 167 (by decide) (by decide)]; exact hG8 j i1 i2
                                    have hT10 : TBL M10 k ce (upN x r v) (r + 1) := by
                                      unfold TBL
                                      rw [hO10 174 (by decide), hO10 175 (by decide)]
                                      exact hT9
                                    refine WP.goto (tgt := 62) dX8_findsColumn_162 (by decide) ?_
                                    refine WP.fgt (lt := [vR 167, vI ((lv : Nat) : Int), vI ((((r + 1 + 1) : Nat) : Int) - 1), vU]) ⟨Or.inr rfl, Or.inr rfl, Or.inr (congrArg vI (by omega)), Or.inl rfl, trivial⟩ ?_
                                    exact ih62 (r + 1 + 1) (0) (upN x r v) (M10) (by omega) (hF10) (hG10) (Or.inr ⟨by omega, FS_up hW (by omega) hrn hfs hvl hfit hnf (fun q hq => by rw [hM10, mset_n (Or.inr (by omega)), f9 173 (by decide) (by decide), hM8, mset_n (Or.inr (by omega)), hE7 173 (by decide) (by decide)]; exact hfs.2.2.1 q hq) (by rw [hM10, mset_n (Or.inr (by omega)), f9 173 (by decide) (by decide), hM8, mset_s]) (by rw [hM10, mset_s]) hT10⟩) (by have := btM_up (b := 8) (n := n) (r := r) (j := j) (v := v) (x := x) (by decide) hrn (fun q hq => by have := hfs.2.2.2.2.2.2.1.1 q hq; omega) hv.1 (by omega); exact Nat.lt_of_lt_of_le this (by omega))
                                  · skip
                                    exfalso
                                    omega
                                · skip
                                  have hnfv : ¬ fit n k lv sz ce x r v := fun z => bi_0 h118 ((fitM_fit hW (by omega) hcb).mpr z)
                                  refine WP.iinc (lt := [vR 167, vI ((lv : Nat) : Int), vI ((r : Nat) : Int), vI (((v : Nat) : Int) + 1)]) dX8_findsColumn_121 rfl (by decide) rfl ?_
                                  refine WP.goto (tgt := 106) dX8_findsColumn_124 (by decide) ?_
                                  refine WP.fgt (lt := [vR 167, vI ((lv : Nat) : Int), vI ((r : Nat) : Int), vI (((v + 1) : Nat) : Int)]) ⟨Or.inr rfl, Or.inr rfl, Or.inr rfl, Or.inr (congrArg vI (by omega)), trivial⟩ ?_
                                  exact ih106 (v + 1) (by omega) (fun u i1 i2 => by
                                    by_cases e9 : u = v
                                    · rw [e9]; exact hnfv
                                    · exact hnf u i1 (by omega)) (by omega)
                          refine WP.fgt (lt := [vR 167, vI ((lv : Nat) : Int), vI ((r : Nat) : Int), vI ((j : Nat) : Int)]) ⟨Or.inr rfl, Or.inr rfl, Or.inr rfl, Or.inr (congrArg vI (by omega)), trivial⟩ ?_
                          exact L106 _ (j) (by omega) (fun u i1 i2 => by omega) (Nat.lt_succ_self _)
                        · skip
                          have hj0 : 0 < j := by omega
                          have hxr := hfs.2.2.2.2.1 hj0
                          have hT6 : TBL M5 k ce x (r + 1) := by
                            have := hfs.2.2.2.2.2.1
                            rw [if_neg (by omega)] at this
                            exact this
                          refine WP.aload_n dX8_findsColumn_85 rfl ?_
                          refine WP.iload_n dX8_findsColumn_86 rfl ?_
                          refine WP.aload_n dX8_findsColumn_87 rfl ?_
                          refine WP.getR (y := 173) dX8_findsColumn_88 fl_X8_25 (rfl) (by decide) (rfl) ?_
                          refine WP.iload_n dX8_findsColumn_91 rfl ?_
                          refine WP.iaload (y := r) (x := (((j : Nat) : Int) - 1)) dX8_findsColumn_92 (rfl) (by omega) (by omega) (hfs.2.2.2.1) ?_
                          refine WP.iconst dX8_findsColumn_93 ?_
                          refine WP.eqs (st' := [vI ((-1) : Int), vI ((x r : Nat) : Int), vI ((r : Nat) : Int), vR 167]) rfl (lc (rfl) (lc (congrArg vI (by omega)) (lc (rfl) (rfl)))) ?_
                          refine WP.callV (as := [vI ((r : Nat) : Int), vI ((x r : Nat) : Int), vI ((-1) : Int)]) dX8_findsColumn_94 mv_X8_172 rfl (rfl) (by decide) rfl rfl (w_notes (r := r) (v := x r) (d := -1) hA5 hW hrn (by omega)) rfl (Nat.le_of_ble_eq_true rfl) (by omega) (fun r9 M7 h9 => ?_)
                          obtain ⟨rfl, hE7, n7⟩ := h9
                          have hT7 : TBL M7 k ce x r := TBL_dn hT6 n7
                          have hF7 : ∀ a, a ≠ 167 → a ≠ 173 → a ≠ 174 → a ≠ 175 → M7 a = M a := fun a i1 i2 i3 i4 => by rw [hE7 a i3 i4]; exact hF5 a i1 i2 i3 i4
                          have hG7 : ∀ j, j ≠ 8 → j ≠ 9 → M7 167 j = M 167 j := fun j i1 i2 => by rw [hE7 167 (by decide) (by decide)]; exact hG5 j i1 i2
                          have hA7 : BX (M7 168) n k sz ce := by rw [hF7 168 (by decide) (by decide) (by decide) (by decide)]; exact hA
                          show WP sc0 6 m_X8_findsColumn 97 [vR 167, vI ((lv : Nat) : Int), vI ((r : Nat) : Int), vU] [] M7 (fun z M' => z = some (vI (bi (∃ x, ext n k sz ce lv x))) ∧ (∀ a, a ≠ 167 → (a < 173 ∨ 175 < a) → M' a = M a) ∧ (∀ j, j ≠ 8 → j ≠ 9 → M' 167 j = M 167 j) ∧ ((∃ x, ext n k sz ce lv x) → ∀ q, q < n → M' 173 q = (lxE n k sz ce lv q : Int)))
                          refine WP.aload_n dX8_findsColumn_97 rfl ?_
                          refine WP.getR (y := 173) dX8_findsColumn_98 fl_X8_25 (rfl) (by decide) (rfl) ?_
                          refine WP.iload_n dX8_findsColumn_101 rfl ?_
                          refine WP.iaload (y := r) (x := (((j : Nat) : Int) - 1)) dX8_findsColumn_102 (rfl) (by omega) (by omega) (by rw [hE7 173 (by decide) (by decide)]; exact hfs.2.2.2.1) ?_
                          refine WP.iconst dX8_findsColumn_103 ?_
                          refine WP.iadd dX8_findsColumn_104 ?_
                          refine WP.istore_n (lt := [vR 167, vI ((lv : Nat) : Int), vI ((r : Nat) : Int), vI ((((j : Nat) : Int) - 1) + (1 : Int))]) dX8_findsColumn_105 (by decide) rfl ?_
                          have L106 : ∀ (n9 : Nat) (v : Nat) (hv : j ≤ v ∧ v ≤ lv) (hnf : ∀ u, j ≤ u → u < v → ¬ fit n k lv sz ce x r u), lv - v < n9 → WP sc0 6 m_X8_findsColumn 106 [vR 167, vI ((lv : Nat) : Int), vI ((r : Nat) : Int), vI ((v : Nat) : Int)] [] M7 (fun z M' => z = some (vI (bi (∃ x, ext n k sz ce lv x))) ∧ (∀ a, a ≠ 167 → (a < 173 ∨ 175 < a) → M' a = M a) ∧ (∀ j, j ≠ 8 → j ≠ 9 → M' 167 j = M 167 j) ∧ ((∃ x, ext n k sz ce lv x) → ∀ q, q < n → M' 173 q = (lxE n k sz ce lv q : Int))) := by
                            intro n9
                            induction n9 with
                            | zero =>
                              intro v hv hnf hm9
                              exact absurd hm9 (Nat.not_lt_zero _)
                            | succ n9 ih106 =>
                              intro v hv hnf hm9
                              refine WP.iload_n dX8_findsColumn_106 rfl ?_
                              refine WP.iload_n dX8_findsColumn_107 rfl ?_
                              refine WP.icmp_ge (tgt := 127) dX8_findsColumn_108 (by decide) (by omega) (by omega) (fun h108 => ?_) (fun h108 => ?_)
                              · skip
                                have hvl : v = lv := by omega
                                refine WP.aload_n dX8_findsColumn_127 rfl ?_
                                refine WP.getR (y := 173) dX8_findsColumn_128 fl_X8_25 (rfl) (by decide) (rfl) ?_
                                refine WP.iload_n dX8_findsColumn_131 rfl ?_
                                refine WP.iload_n dX8_findsColumn_132 rfl ?_
                                refine WP.iastore (y := r) dX8_findsColumn_133 (rfl) (by omega) (by omega) rfl ?_
                                obtain ⟨M8, hM8⟩ : ∃ z, z = (mset M7 173 r ((v : Nat) : Int)) := ⟨_, rfl⟩
                                refine WP.eqM hM8.symm ?_
                                have hO8 : ∀ a, a ≠ 173 → M8 a = M7 a := fun a ha => by rw [hM8]; exact mset_o a ha
                                have hF8 : ∀ a, a ≠ 167 → a ≠ 173 → a ≠ 174 → a ≠ 175 → M8 a = M a := fun a i1 i2 i3 i4 => by rw [hO8 a i2]; exact hF7 a i1 i2 i3 i4
                                have hG8 : ∀ j, j ≠ 8 → j ≠ 9 → M8 167 j = M 167 j := fun j i1 i2 => by rw [hO8 167 (by decide)]; exact hG7 j i1 i2
                                have hA8 : BX (M8 168) n k sz ce := by rw [hF8 168 (by decide) (by decide) (by decide) (by decide)]; exact hA
                                have hT8 : TBL M8 k ce x r := by
                                  unfold TBL
                                  rw [hO8 174 (by decide), hO8 175 (by decide)]
                                  exact hT7
                                refine WP.iload_n dX8_findsColumn_134 rfl ?_
                                refine WP.iload_n dX8_findsColumn_135 rfl ?_
                                refine WP.icmp_ne (tgt := 145) dX8_findsColumn_136 (by decide) (by omega) (by omega) (fun h136 => ?_) (fun h136 => ?_)
                                · skip
                                  exfalso
                                  omega
                                · skip
                                  refine WP.iinc (lt := [vR 167, vI ((lv : Nat) : Int), vI (((r : Nat) : Int) + (-1)), vI ((v : Nat) : Int)]) dX8_findsColumn_139 rfl (by decide) rfl ?_
                                  refine WP.goto (tgt := 162) dX8_findsColumn_142 (by decide) ?_
                                  refine WP.goto (tgt := 62) dX8_findsColumn_162 (by decide) ?_
                                  refine WP.fgt (lt := [vR 167, vI ((lv : Nat) : Int), vI (((r : Nat) : Int) - 1), vU]) ⟨Or.inr rfl, Or.inr rfl, Or.inr (congrArg vI (by omega)), Or.inl rfl, trivial⟩ ?_
                                  exact ih62 (r) (x (r - 1) + 1) (x) (M8) (by omega) (hF8) (hG8) (FS_dn hW (by omega) hrn hfs (fun u i1 i2 => hnf u i1 (by omega)) (fun q hq => by rw [hM8, mset_n (Or.inr (by omega)), hE7 173 (by decide) (by decide)]; exact hfs.2.2.1 q hq) hT8) (by have := btM_fail (b := 8) (n := n) (r := r) (j := j) (x := x) (by decide) hrn (fun q hq => by have := hfs.2.2.2.2.2.2.1.1 q hq; omega) (by omega); omega)
                              · skip
                                refine WP.aload_n dX8_findsColumn_111 rfl ?_
                                refine WP.iload_n dX8_findsColumn_112 rfl ?_
                                refine WP.iload_n dX8_findsColumn_113 rfl ?_
                                refine WP.iload_n dX8_findsColumn_114 rfl ?_
                                refine WP.callVp (as := [vI ((r : Nat) : Int), vI ((v : Nat) : Int), vI ((lv : Nat) : Int)]) dX8_findsColumn_115 mv_X8_175 rfl (rfl) (by decide) rfl rfl (w_mayBe (r := r) (v := v) (lv := lv) (x := x) hA7 hW hrn hn.2 (by omega) hlv.2 hT7) rfl (Nat.le_of_ble_eq_true rfl) (by omega) ?_
                                refine WP.if_ne (tgt := 127) dX8_findsColumn_118 (by decide) (bi_rng) (fun h118 => ?_) (fun h118 => ?_)
                                · skip
                                  have hfit := (fitM_fit hW (by omega) hcb).mp (bi_1 h118)
                                  have hvl : v < lv := by omega
                                  refine WP.aload_n dX8_findsColumn_127 rfl ?_
                                  refine WP.getR (y := 173) dX8_findsColumn_128 fl_X8_25 (rfl) (by decide) (rfl) ?_
                                  refine WP.iload_n dX8_findsColumn_131 rfl ?_
                                  refine WP.iload_n dX8_findsColumn_132 rfl ?_
                                  refine WP.iastore (y := r) dX8_findsColumn_133 (rfl) (by omega) (by omega) rfl ?_
                                  obtain ⟨M8, hM8⟩ : ∃ z, z = (mset M7 173 r ((v : Nat) : Int)) := ⟨_, rfl⟩
                                  refine WP.eqM hM8.symm ?_
                                  have hO8 : ∀ a, a ≠ 173 → M8 a = M7 a := fun a ha => by rw [hM8]; exact mset_o a ha
                                  have hF8 : ∀ a, a ≠ 167 → a ≠ 173 → a ≠ 174 → a ≠ 175 → M8 a = M a := fun a i1 i2 i3 i4 => by rw [hO8 a i2]; exact hF7 a i1 i2 i3 i4
                                  have hG8 : ∀ j, j ≠ 8 → j ≠ 9 → M8 167 j = M 167 j := fun j i1 i2 => by rw [hO8 167 (by decide)]; exact hG7 j i1 i2
                                  have hA8 : BX (M8 168) n k sz ce := by rw [hF8 168 (by decide) (by decide) (by decide) (by decide)]; exact hA
                                  have hT8 : TBL M8 k ce x r := by
                                    unfold TBL
                                    rw [hO8 174 (by decide), hO8 175 (by decide)]
                                    exact hT7
                                  refine WP.iload_n dX8_findsColumn_134 rfl ?_
                                  refine WP.iload_n dX8_findsColumn_135 rfl ?_
                                  refine WP.icmp_ne (tgt := 145) dX8_findsColumn_136 (by decide) (by omega) (by omega) (fun h136 => ?_) (fun h136 => ?_)
                                  · skip
                                    refine WP.aload_n dX8_findsColumn_145 rfl ?_
                                    refine WP.iload_n dX8_findsColumn_146 rfl ?_
                                    refine WP.iload_n dX8_findsColumn_147 rfl ?_
                                    refine WP.iconst dX8_findsColumn_148 ?_
                                    refine WP.callV (as := [vI ((r : Nat) : Int), vI ((v : Nat) : Int), vI (1 : Int)]) dX8_findsColumn_149 mv_X8_172 rfl (rfl) (by decide) rfl rfl (w_notes (r := r) (v := v) (d := 1) hA8 hW hrn (by omega)) rfl (Nat.le_of_ble_eq_true rfl) (by omega) (fun r9 M9 h9 => ?_)
                                    obtain ⟨rfl, f9, n9_⟩ := h9
                                    have hT9 : TBL M9 k ce (upN x r v) (r + 1) := TBL_up hT8 n9_
                                    show WP sc0 6 m_X8_findsColumn 152 [vR 167, vI ((lv : Nat) : Int), vI ((r : Nat) : Int), vI ((v : Nat) : Int)] [] M9 (fun z M' => z = some (vI (bi (∃ x, ext n k sz ce lv x))) ∧ (∀ a, a ≠ 167 → (a < 173 ∨ 175 < a) → M' a = M a) ∧ (∀ j, j ≠ 8 → j ≠ 9 → M' 167 j = M 167 j) ∧ ((∃ x, ext n k sz ce lv x) → ∀ q, q < n → M' 173 q = (lxE n k sz ce lv q : Int)))
                                    refine WP.iinc (lt := [vR 167, vI ((lv : Nat) : Int), vI (((r : Nat) : Int) + 1), vI ((v : Nat) : Int)]) dX8_findsColumn_152 rfl (by decide) rfl ?_
                                    refine WP.aload_n dX8_findsColumn_155 rfl ?_
                                    refine WP.getR (y := 173) dX8_findsColumn_156 fl_X8_25 (rfl) (by decide) (rfl) ?_
                                    refine WP.iload_n dX8_findsColumn_159 rfl ?_
                                    refine WP.iconst dX8_findsColumn_160 ?_
                                    refine WP.iastore (y := (r + 1)) dX8_findsColumn_161 (rfl) (by omega) (by omega) rfl ?_
                                    obtain ⟨M10, hM10⟩ : ∃ z, z = (mset M9 173 ((r + 1)) ((-1) : Int)) := ⟨_, rfl⟩
                                    refine WP.eqM hM10.symm ?_
                                    have hO10 : ∀ a, a ≠ 173 → M10 a = M9 a := fun a ha => by rw [hM10]; exact mset_o a ha
                                    have hF10 : ∀ a, a ≠ 167 → a ≠ 173 → a ≠ 174 → a ≠ 175 → M10 a = M a := fun a i1 i2 i3 i4 => by rw [hO10 a i2, f9 a i3 i4]; exact hF8 a i1 i2 i3 i4
                                    have hG10 : ∀ j, j ≠ 8 → j ≠ 9 → M10 167 j = M 167 j := fun j i1 i2 => by rw [hO10 167 (by decide), f9 167 (by decide) (by decide)]; exact hG8 j i1 i2
                                    have hT10 : TBL M10 k ce (upN x r v) (r + 1) := by
                                      unfold TBL
                                      rw [hO10 174 (by decide), hO10 175 (by decide)]
                                      exact hT9
                                    refine WP.goto (tgt := 62) dX8_findsColumn_162 (by decide) ?_
                                    refine WP.fgt (lt := [vR 167, vI ((lv : Nat) : Int), vI ((((r + 1 + 1) : Nat) : Int) - 1), vU]) ⟨Or.inr rfl, Or.inr rfl, Or.inr (congrArg vI (by omega)), Or.inl rfl, trivial⟩ ?_
                                    exact ih62 (r + 1 + 1) (0) (upN x r v) (M10) (by omega) (hF10) (hG10) (Or.inr ⟨by omega, FS_up hW (by omega) hrn hfs hvl hfit hnf (fun q hq => by rw [hM10, mset_n (Or.inr (by omega)), f9 173 (by decide) (by decide), hM8, mset_n (Or.inr (by omega)), hE7 173 (by decide) (by decide)]; exact hfs.2.2.1 q hq) (by rw [hM10, mset_n (Or.inr (by omega)), f9 173 (by decide) (by decide), hM8, mset_s]) (by rw [hM10, mset_s]) hT10⟩) (by have := btM_up (b := 8) (n := n) (r := r) (j := j) (v := v) (x := x) (by decide) hrn (fun q hq => by have := hfs.2.2.2.2.2.2.1.1 q hq; omega) hv.1 (by omega); exact Nat.lt_of_lt_of_le this (by omega))
                                  · skip
                                    exfalso
                                    omega
                                · skip
                                  have hnfv : ¬ fit n k lv sz ce x r v := fun z => bi_0 h118 ((fitM_fit hW (by omega) hcb).mpr z)
                                  refine WP.iinc (lt := [vR 167, vI ((lv : Nat) : Int), vI ((r : Nat) : Int), vI (((v : Nat) : Int) + 1)]) dX8_findsColumn_121 rfl (by decide) rfl ?_
                                  refine WP.goto (tgt := 106) dX8_findsColumn_124 (by decide) ?_
                                  refine WP.fgt (lt := [vR 167, vI ((lv : Nat) : Int), vI ((r : Nat) : Int), vI (((v + 1) : Nat) : Int)]) ⟨Or.inr rfl, Or.inr rfl, Or.inr rfl, Or.inr (congrArg vI (by omega)), trivial⟩ ?_
                                  exact ih106 (v + 1) (by omega) (fun u i1 i2 => by
                                    by_cases e9 : u = v
                                    · rw [e9]; exact hnfv
                                    · exact hnf u i1 (by omega)) (by omega)
                          refine WP.fgt (lt := [vR 167, vI ((lv : Nat) : Int), vI ((r : Nat) : Int), vI ((j : Nat) : Int)]) ⟨Or.inr rfl, Or.inr rfl, Or.inr rfl, Or.inr (congrArg vI (by omega)), trivial⟩ ?_
                          exact L106 _ (j) (by omega) (fun u i1 i2 => by omega) (Nat.lt_succ_self _)
                refine WP.fgt (lt := [vR 167, vI ((lv : Nat) : Int), vI (((1 : Nat) : Int) - 1), vU]) ⟨Or.inr rfl, Or.inr rfl, Or.inr (congrArg vI (rfl)), Or.inl rfl, trivial⟩ ?_
                exact L62 _ (1) (0) ((fun _ => 0)) (M4) (by omega) (hF4) (hG4) (Or.inr ⟨Nat.le_refl _, hS4⟩) (Nat.lt_succ_self _)
              · skip
                refine WP.aload_n dX8_findsColumn_40 rfl ?_
                refine WP.getR (y := 174) dX8_findsColumn_41 fl_X8_28 (rfl) (by decide) (rfl) ?_
                refine WP.iload_n dX8_findsColumn_44 rfl ?_
                refine WP.iconst dX8_findsColumn_45 ?_
                refine WP.iastore (y := j) dX8_findsColumn_46 (rfl) (by omega) (by omega) rfl ?_
                obtain ⟨M30, hM30⟩ : ∃ z, z = (mset M3 174 j (0 : Int)) := ⟨_, rfl⟩
                refine WP.eqM hM30.symm ?_
                have hO30 : ∀ a, a ≠ 174 → M30 a = M3 a := fun a ha => by rw [hM30]; exact mset_o a ha
                refine WP.iinc (lt := [vR 167, vI ((lv : Nat) : Int), vI (((j : Nat) : Int) + 1), vU]) dX8_findsColumn_47 rfl (by decide) rfl ?_
                refine WP.goto (tgt := 34) dX8_findsColumn_50 (by decide) ?_
                refine WP.fgt (lt := [vR 167, vI ((lv : Nat) : Int), vI (((j + 1) : Nat) : Int), vU]) ⟨Or.inr rfl, Or.inr rfl, Or.inr (congrArg vI (by omega)), Or.inl rfl, trivial⟩ ?_
                exact ih34 (j + 1) (M30) (by omega) (fun a ha => (hO30 a ha).trans (hF3 a ha)) (fun q hq => by
                  rw [hM30]
                  by_cases e9 : q = j
                  · rw [e9, mset_s]
                  · rw [mset_n (Or.inr e9)]; exact hA3 q (by omega)) (by omega)
          refine WP.fgt (lt := [vR 167, vI ((lv : Nat) : Int), vI ((0 : Nat) : Int), vU]) ⟨Or.inr rfl, Or.inr rfl, Or.inr (congrArg vI (by omega)), Or.inl rfl, trivial⟩ ?_
          exact L34 _ (0) (M2) (by omega) (fun _ _ => rfl) (fun q hq => absurd hq (Nat.not_lt_zero q)) (Nat.lt_succ_self _)
        · skip
          refine WP.aload_n dX8_findsColumn_19 rfl ?_
          refine WP.getR (y := 175) dX8_findsColumn_20 fl_X8_31 (rfl) (by decide) (rfl) ?_
          refine WP.iload_n dX8_findsColumn_23 rfl ?_
          refine WP.iconst dX8_findsColumn_24 ?_
          refine WP.iastore (y := j) dX8_findsColumn_25 (rfl) (by omega) (by omega) rfl ?_
          obtain ⟨M20, hM20⟩ : ∃ z, z = (mset M2 175 j (0 : Int)) := ⟨_, rfl⟩
          refine WP.eqM hM20.symm ?_
          have hO20 : ∀ a, a ≠ 175 → M20 a = M2 a := fun a ha => by rw [hM20]; exact mset_o a ha
          refine WP.iinc (lt := [vR 167, vI ((lv : Nat) : Int), vI (((j : Nat) : Int) + 1), vU]) dX8_findsColumn_26 rfl (by decide) rfl ?_
          refine WP.goto (tgt := 12) dX8_findsColumn_29 (by decide) ?_
          refine WP.fgt (lt := [vR 167, vI ((lv : Nat) : Int), vI (((j + 1) : Nat) : Int), vU]) ⟨Or.inr rfl, Or.inr rfl, Or.inr (congrArg vI (by omega)), Or.inl rfl, trivial⟩ ?_
          exact ih12 (j + 1) (M20) (by omega) (fun a ha => (hO20 a ha).trans (hF2 a ha)) (fun q hq => by
            rw [hM20]
            by_cases e9 : q = j
            · rw [e9, mset_s]
            · rw [mset_n (Or.inr e9)]; exact hA2 q (by omega)) (by omega)
    refine WP.fgt (lt := [vR 167, vI ((lv : Nat) : Int), vI ((0 : Nat) : Int), vU]) ⟨Or.inr rfl, Or.inr rfl, Or.inr (congrArg vI (by omega)), Or.inl rfl, trivial⟩ ?_
    exact L12 _ (0) (M1) (by omega) (fun _ _ => rfl) (fun q hq => absurd hq (Nat.not_lt_zero q)) (Nat.lt_succ_self _)
  · skip
    have hno : ∀ y, ¬ ext n k sz ce lv y := fun y he => bi_0 h5 (ext_canB hW (by omega) he)
    refine WP.iconst dX8_findsColumn_8 ?_
    refine WP.zret dX8_findsColumn_9 rfl (by decide) ?_
    exact ⟨congrArg some (congrArg vI (bi_f (fun ⟨y, he⟩ => hno y he)).symm), fun a i1 _ => f1 a i1, g1, fun z => absurd z (fun ⟨y, he⟩ => hno y he)⟩
set_option maxHeartbeats 4000000 in
set_option maxRecDepth 20000 in
theorem y_extension {M : Mem} {n k h len : Nat} {sz tx : Nat → Nat} {ce : Nat → Nat → Nat} {hs : Nat → AR} {im : Nat → Option AR} (hV : InvM M (mkS n k sz ce h hs im len tx)) {x : Int} (hx : -2147483648 ≤ x ∧ x < 2147483648) {y : Int} (hy : -2147483648 ≤ y ∧ y < 2147483648) : CT 40 m_X8_extension [vR 167, vI x, vI y] M (PM M (o_extension (mkS n k sz ce h hs im len tx) x y)) := by
  have hA : BX (M 168) n k sz ce := hV.1.1
  have hW : Wf n k sz ce := hV.1.2
  have hH : HM M h hs := hV.2.1
  have hIM : IMm M im := hV.2.2.1
  have hS : SM M len tx := hV.2.2.2
  have b1 := hW.1
  have b2 := hW.2.1
  have hh8 := hH.1
  have hl3 := hS.1
  refine CT.ofWP (by decide +kernel) (Nat.le_of_ble_eq_true rfl) ?_
  show WP sc0 40 m_X8_extension 0 [vR 167, vI x, vI y] [] M (PM M (o_extension (mkS n k sz ce h hs im len tx) x y))
  refine WP.iload_n dX8_extension_0 rfl ?_
  refine WP.callSp (as := [vI x]) dX8_extension_1 ms_X8_54 rfl (w_isLevels (by omega)) rfl (Nat.le_of_ble_eq_true rfl) (by omega) ?_
  refine WP.if_eq (tgt := 20) dX8_extension_4 (by decide) (bi_rng) (fun h4 => ?_) (fun h4 => ?_)
  · skip
    have q4 := bi_0 h4
    refine WP.iconst dX8_extension_20 ?_
    refine WP.iret dX8_extension_21 rfl ?_
    exact PM.same (congrArg (fun z => (z, _)) (cif_f (fun z => by first
      | exact q4 z.1
      | exact z.2.elim h9 q17))) hV
  · skip
    have q4 := bi_1 h4
    refine WP.iload_n dX8_extension_7 rfl ?_
    refine WP.iconst dX8_extension_8 ?_
    refine WP.icmp_eq (tgt := 22) dX8_extension_9 (by decide) (by omega) (by omega) (fun h9 => ?_) (fun h9 => ?_)
    · skip
      have hr8 : y = -1 ∨ (0 ≤ y ∧ y < ((n : Nat) : Int)) := Or.inl h9
      obtain ⟨lv, hlv0⟩ : ∃ lv : Nat, x.toNat = lv := ⟨_, rfl⟩
      have hlv1 : x = ((lv : Nat) : Int) := by omega
      refine WP.fgt (lt := [vR 167, vI ((lv : Nat) : Int), vI y]) ⟨Or.inr rfl, Or.inr (congrArg vI (hlv1.symm)), Or.inr rfl, trivial⟩ ?_
      refine WP.aload_n dX8_extension_22 rfl ?_
      refine WP.bipush dX8_extension_23 (by decide) ?_
      refine WP.callVp (as := [vI (16 : Int)]) dX8_extension_25 mv_X8_178 rfl (rfl) (by decide) rfl rfl (w_isSmall hA hW (by omega)) rfl (Nat.le_of_ble_eq_true rfl) (by omega) ?_
      refine WP.if_ne (tgt := 34) dX8_extension_28 (by decide) (bi_rng) (fun h28 => ?_) (fun h28 => ?_)
      · skip
        have q28 := bi_1 h28
        refine WP.aload_n dX8_extension_34 rfl ?_
        refine WP.iload_n dX8_extension_35 rfl ?_
        refine WP.callV (as := [vI ((lv : Nat) : Int)]) dX8_extension_36 mv_X8_181 rfl (rfl) (by decide) rfl rfl (w_findsColumn (lv := lv) hA hW (by omega) (by omega)) rfl (Nat.le_of_ble_eq_true rfl) (by omega) (fun r9 M1 h9 => ?_)
        obtain ⟨rfl, f1, g1, hx1⟩ := h9
        show WP sc0 40 m_X8_extension 39 [vR 167, vI ((lv : Nat) : Int), vI y] [vI (bi (∃ x, ext n k sz ce lv x))] M1 (PM M (o_extension (mkS n k sz ce h hs im len tx) x y))
        refine WP.if_ne (tgt := 45) dX8_extension_39 (by decide) (bi_rng) (fun h39 => ?_) (fun h39 => ?_)
        · skip
          have q39 := bi_1 h39
          refine WP.iload_n dX8_extension_45 rfl ?_
          refine WP.iconst dX8_extension_46 ?_
          refine WP.icmp_ne (tgt := 59) dX8_extension_47 (by decide) (by omega) (by omega) (fun h47 => ?_) (fun h47 => ?_)
          · skip
            obtain ⟨r, hr0⟩ : ∃ r : Nat, y.toNat = r := ⟨_, rfl⟩
            have hr1 : y = ((r : Nat) : Int) := by omega
            refine WP.fgt (lt := [vR 167, vI ((lv : Nat) : Int), vI ((r : Nat) : Int)]) ⟨Or.inr rfl, Or.inr rfl, Or.inr (congrArg vI (hr1.symm)), trivial⟩ ?_
            refine WP.aload_n dX8_extension_59 rfl ?_
            refine WP.getR (y := 173) dX8_extension_60 fl_X8_25 (rfl) (by decide) (rfl) ?_
            refine WP.iload_n dX8_extension_63 rfl ?_
            refine WP.iaload (y := r) (x := ((lxE n k sz ce lv r : Nat) : Int)) dX8_extension_64 (rfl) (by omega) (by omega) (hx1 q39 r (by omega)) ?_
            refine WP.iret dX8_extension_65 rfl ?_
            exact PM.cs (by subst hlv0; exact congrArg (fun z => (z, (mkS n k sz ce h hs im len tx))) ((cif_t (show (2 ≤ x ∧ x ≤ 6) ∧ (y = -1 ∨ hR (mkS n k sz ce h hs im len tx) y) from ⟨by omega, hr8⟩)).trans ((if_neg (show ¬ (n = 0 ∨ 16 < n) by omega)).trans ((cif_t q39).trans ((if_neg h47).trans (by rw [hr0])))))) hV (fun a i1 i2 => f1 a i2 (Or.inl (by omega))) (g1)
          · skip
            refine WP.aload_n dX8_extension_50 rfl ?_
            refine WP.getR (y := 168) dX8_extension_51 fl_X8_7 (rfl) (by decide) (rfl) ?_
            refine WP.iconst dX8_extension_54 ?_
            refine WP.iaload (y := 0) (x := ((n : Nat) : Int)) dX8_extension_55 (rfl) (by omega) (by omega) (by rw [f1 168 (by decide) (by decide)]; exact hA.1) ?_
            refine WP.goto (tgt := 65) dX8_extension_56 (by decide) ?_
            refine WP.iret dX8_extension_65 rfl ?_
            exact PM.cs (by subst hlv0; exact congrArg (fun z => (z, (mkS n k sz ce h hs im len tx))) ((cif_t (show (2 ≤ x ∧ x ≤ 6) ∧ (y = -1 ∨ hR (mkS n k sz ce h hs im len tx) y) from ⟨by omega, hr8⟩)).trans ((if_neg (show ¬ (n = 0 ∨ 16 < n) by omega)).trans ((cif_t q39).trans (if_pos h47))))) hV (fun a i1 i2 => f1 a i2 (Or.inl (by omega))) (g1)
        · skip
          have q39 := bi_0 h39
          refine WP.bipush dX8_extension_42 (by decide) ?_
          refine WP.iret dX8_extension_44 rfl ?_
          exact PM.cs (by subst hlv0; exact congrArg (fun z => (z, (mkS n k sz ce h hs im len tx))) ((cif_t (show (2 ≤ x ∧ x ≤ 6) ∧ (y = -1 ∨ hR (mkS n k sz ce h hs im len tx) y) from ⟨by omega, hr8⟩)).trans ((if_neg (show ¬ (n = 0 ∨ 16 < n) by omega)).trans (cif_f q39)))) hV (fun a i1 i2 => f1 a i2 (Or.inl (by omega))) (g1)
      · skip
        have q28 := bi_0 h28
        refine WP.bipush dX8_extension_31 (by decide) ?_
        refine WP.iret dX8_extension_33 rfl ?_
        exact PM.same (congrArg (fun z => (z, _)) ((cif_t (show (2 ≤ x ∧ x ≤ 6) ∧ (y = -1 ∨ hR (mkS n k sz ce h hs im len tx) y) from ⟨by omega, hr8⟩)).trans (if_pos (show n = 0 ∨ 16 < n by omega)))) hV
    · skip
      refine WP.aload_n dX8_extension_12 rfl ?_
      refine WP.iload_n dX8_extension_13 rfl ?_
      refine WP.callVp (as := [vI y]) dX8_extension_14 mv_X8_73 rfl (rfl) (by decide) rfl rfl (w_isRow hA hW (by omega)) rfl (Nat.le_of_ble_eq_true rfl) (by omega) ?_
      refine WP.if_ne (tgt := 22) dX8_extension_17 (by decide) (bi_rng) (fun h17 => ?_) (fun h17 => ?_)
      · skip
        have q17 := bi_1 h17
        have hr8 : y = -1 ∨ (0 ≤ y ∧ y < ((n : Nat) : Int)) := Or.inr q17
        obtain ⟨lv, hlv0⟩ : ∃ lv : Nat, x.toNat = lv := ⟨_, rfl⟩
        have hlv1 : x = ((lv : Nat) : Int) := by omega
        refine WP.fgt (lt := [vR 167, vI ((lv : Nat) : Int), vI y]) ⟨Or.inr rfl, Or.inr (congrArg vI (hlv1.symm)), Or.inr rfl, trivial⟩ ?_
        refine WP.aload_n dX8_extension_22 rfl ?_
        refine WP.bipush dX8_extension_23 (by decide) ?_
        refine WP.callVp (as := [vI (16 : Int)]) dX8_extension_25 mv_X8_178 rfl (rfl) (by decide) rfl rfl (w_isSmall hA hW (by omega)) rfl (Nat.le_of_ble_eq_true rfl) (by omega) ?_
        refine WP.if_ne (tgt := 34) dX8_extension_28 (by decide) (bi_rng) (fun h28 => ?_) (fun h28 => ?_)
        · skip
          have q28 := bi_1 h28
          refine WP.aload_n dX8_extension_34 rfl ?_
          refine WP.iload_n dX8_extension_35 rfl ?_
          refine WP.callV (as := [vI ((lv : Nat) : Int)]) dX8_extension_36 mv_X8_181 rfl (rfl) (by decide) rfl rfl (w_findsColumn (lv := lv) hA hW (by omega) (by omega)) rfl (Nat.le_of_ble_eq_true rfl) (by omega) (fun r9 M1 h9 => ?_)
          obtain ⟨rfl, f1, g1, hx1⟩ := h9
          show WP sc0 40 m_X8_extension 39 [vR 167, vI ((lv : Nat) : Int), vI y] [vI (bi (∃ x, ext n k sz ce lv x))] M1 (PM M (o_extension (mkS n k sz ce h hs im len tx) x y))
          refine WP.if_ne (tgt := 45) dX8_extension_39 (by decide) (bi_rng) (fun h39 => ?_) (fun h39 => ?_)
          · skip
            have q39 := bi_1 h39
            refine WP.iload_n dX8_extension_45 rfl ?_
            refine WP.iconst dX8_extension_46 ?_
            refine WP.icmp_ne (tgt := 59) dX8_extension_47 (by decide) (by omega) (by omega) (fun h47 => ?_) (fun h47 => ?_)
            · skip
              obtain ⟨r, hr0⟩ : ∃ r : Nat, y.toNat = r := ⟨_, rfl⟩
              have hr1 : y = ((r : Nat) : Int) := by omega
              refine WP.fgt (lt := [vR 167, vI ((lv : Nat) : Int), vI ((r : Nat) : Int)]) ⟨Or.inr rfl, Or.inr rfl, Or.inr (congrArg vI (hr1.symm)), trivial⟩ ?_
              refine WP.aload_n dX8_extension_59 rfl ?_
              refine WP.getR (y := 173) dX8_extension_60 fl_X8_25 (rfl) (by decide) (rfl) ?_
              refine WP.iload_n dX8_extension_63 rfl ?_
              refine WP.iaload (y := r) (x := ((lxE n k sz ce lv r : Nat) : Int)) dX8_extension_64 (rfl) (by omega) (by omega) (hx1 q39 r (by omega)) ?_
              refine WP.iret dX8_extension_65 rfl ?_
              exact PM.cs (by subst hlv0; exact congrArg (fun z => (z, (mkS n k sz ce h hs im len tx))) ((cif_t (show (2 ≤ x ∧ x ≤ 6) ∧ (y = -1 ∨ hR (mkS n k sz ce h hs im len tx) y) from ⟨by omega, hr8⟩)).trans ((if_neg (show ¬ (n = 0 ∨ 16 < n) by omega)).trans ((cif_t q39).trans ((if_neg h47).trans (by rw [hr0])))))) hV (fun a i1 i2 => f1 a i2 (Or.inl (by omega))) (g1)
            · skip
              refine WP.aload_n dX8_extension_50 rfl ?_
              refine WP.getR (y := 168) dX8_extension_51 fl_X8_7 (rfl) (by decide) (rfl) ?_
              refine WP.iconst dX8_extension_54 ?_
              refine WP.iaload (y := 0) (x := ((n : Nat) : Int)) dX8_extension_55 (rfl) (by omega) (by omega) (by rw [f1 168 (by decide) (by decide)]; exact hA.1) ?_
              refine WP.goto (tgt := 65) dX8_extension_56 (by decide) ?_
              refine WP.iret dX8_extension_65 rfl ?_
              exact PM.cs (by subst hlv0; exact congrArg (fun z => (z, (mkS n k sz ce h hs im len tx))) ((cif_t (show (2 ≤ x ∧ x ≤ 6) ∧ (y = -1 ∨ hR (mkS n k sz ce h hs im len tx) y) from ⟨by omega, hr8⟩)).trans ((if_neg (show ¬ (n = 0 ∨ 16 < n) by omega)).trans ((cif_t q39).trans (if_pos h47))))) hV (fun a i1 i2 => f1 a i2 (Or.inl (by omega))) (g1)
          · skip
            have q39 := bi_0 h39
            refine WP.bipush dX8_extension_42 (by decide) ?_
            refine WP.iret dX8_extension_44 rfl ?_
            exact PM.cs (by subst hlv0; exact congrArg (fun z => (z, (mkS n k sz ce h hs im len tx))) ((cif_t (show (2 ≤ x ∧ x ≤ 6) ∧ (y = -1 ∨ hR (mkS n k sz ce h hs im len tx) y) from ⟨by omega, hr8⟩)).trans ((if_neg (show ¬ (n = 0 ∨ 16 < n) by omega)).trans (cif_f q39)))) hV (fun a i1 i2 => f1 a i2 (Or.inl (by omega))) (g1)
        · skip
          have q28 := bi_0 h28
          refine WP.bipush dX8_extension_31 (by decide) ?_
          refine WP.iret dX8_extension_33 rfl ?_
          exact PM.same (congrArg (fun z => (z, _)) ((cif_t (show (2 ≤ x ∧ x ≤ 6) ∧ (y = -1 ∨ hR (mkS n k sz ce h hs im len tx) y) from ⟨by omega, hr8⟩)).trans (if_pos (show n = 0 ∨ 16 < n by omega)))) hV
      · skip
        have q17 := bi_0 h17
        refine WP.iconst dX8_extension_20 ?_
        refine WP.iret dX8_extension_21 rfl ?_
        exact PM.same (congrArg (fun z => (z, _)) (cif_f (fun z => by first
          | exact q4 z.1
          | exact z.2.elim h9 q17))) hV
set_option maxHeartbeats 4000000 in
set_option maxRecDepth 20000 in
theorem y_extend {M : Mem} {n k h len : Nat} {sz tx : Nat → Nat} {ce : Nat → Nat → Nat} {hs : Nat → AR} {im : Nat → Option AR} (hV : InvM M (mkS n k sz ce h hs im len tx)) {x : Int} (hx : -2147483648 ≤ x ∧ x < 2147483648) : CT 40 m_X8_extend [vR 167, vI x] M (PM M (o_extend (mkS n k sz ce h hs im len tx) x)) := by
  have hA : BX (M 168) n k sz ce := hV.1.1
  have hW : Wf n k sz ce := hV.1.2
  have hH : HM M h hs := hV.2.1
  have hIM : IMm M im := hV.2.2.1
  have hS : SM M len tx := hV.2.2.2
  have b1 := hW.1
  have b2 := hW.2.1
  have hh8 := hH.1
  have hl3 := hS.1
  refine CT.ofWP (by decide +kernel) (Nat.le_of_ble_eq_true rfl) ?_
  show WP sc0 40 m_X8_extend 0 [vR 167, vI x, vU, vU] [] M (PM M (o_extend (mkS n k sz ce h hs im len tx) x))
  refine WP.iload_n dX8_extend_0 rfl ?_
  refine WP.callSp (as := [vI x]) dX8_extend_1 ms_X8_54 rfl (w_isLevels (by omega)) rfl (Nat.le_of_ble_eq_true rfl) (by omega) ?_
  refine WP.if_ne (tgt := 9) dX8_extend_4 (by decide) (bi_rng) (fun h4 => ?_) (fun h4 => ?_)
  · skip
    have q4 := bi_1 h4
    obtain ⟨lv, hlv0⟩ : ∃ lv : Nat, x.toNat = lv := ⟨_, rfl⟩
    have hlv1 : x = ((lv : Nat) : Int) := by omega
    refine WP.fgt (lt := [vR 167, vI ((lv : Nat) : Int), vU, vU]) ⟨Or.inr rfl, Or.inr (congrArg vI (hlv1.symm)), Or.inl rfl, Or.inl rfl, trivial⟩ ?_
    refine WP.aload_n dX8_extend_9 rfl ?_
    refine WP.bipush dX8_extend_10 (by decide) ?_
    refine WP.callVp (as := [vI (16 : Int)]) dX8_extend_12 mv_X8_178 rfl (rfl) (by decide) rfl rfl (w_isSmall hA hW (by omega)) rfl (Nat.le_of_ble_eq_true rfl) (by omega) ?_
    refine WP.if_ne (tgt := 21) dX8_extend_15 (by decide) (bi_rng) (fun h15 => ?_) (fun h15 => ?_)
    · skip
      have q15 := bi_1 h15
      refine WP.aload_n dX8_extend_21 rfl ?_
      refine WP.getR (y := 168) dX8_extend_22 fl_X8_7 (rfl) (by decide) (rfl) ?_
      refine WP.iconst dX8_extend_25 ?_
      refine WP.iaload (y := 1) (x := ((k : Nat) : Int)) dX8_extend_26 (rfl) (by omega) (by omega) (hA.2.1) ?_
      refine WP.bipush dX8_extend_27 (by decide) ?_
      refine WP.icmp_ne (tgt := 35) dX8_extend_29 (by decide) (by omega) (by omega) (fun h29 => ?_) (fun h29 => ?_)
      · skip
        refine WP.aload_n dX8_extend_35 rfl ?_
        refine WP.iload_n dX8_extend_36 rfl ?_
        refine WP.callV (as := [vI ((lv : Nat) : Int)]) dX8_extend_37 mv_X8_181 rfl (rfl) (by decide) rfl rfl (w_findsColumn (lv := lv) hA hW (by omega) (by omega)) rfl (Nat.le_of_ble_eq_true rfl) (by omega) (fun r9 M6 h9 => ?_)
        obtain ⟨rfl, f6, g6, hx6⟩ := h9
        have hV6 : InvM M6 (mkS n k sz ce h hs im len tx) := hV.cs (fun a i1 i2 => f6 a (by omega) (Or.inl (by omega))) g6
        show WP sc0 40 m_X8_extend 40 [vR 167, vI ((lv : Nat) : Int), vU, vU] [vI (bi (∃ x, ext n k sz ce lv x))] M6 (PM M (o_extend (mkS n k sz ce h hs im len tx) x))
        refine WP.if_ne (tgt := 46) dX8_extend_40 (by decide) (bi_rng) (fun h40 => ?_) (fun h40 => ?_)
        · skip
          have q40 := bi_1 h40
          refine WP.aload_n dX8_extend_46 rfl ?_
          refine WP.callV (as := []) dX8_extend_47 mv_X8_51 rfl (rfl) (by decide) rfl rfl (w_remember (A := (n, k, sz, ce)) hV6.2.1 hV6.1) rfl (Nat.le_of_ble_eq_true rfl) (by omega) (fun r9 M1 h9 => ?_)
          obtain ⟨rfl, hR1⟩ := h9
          have hA1 : BX (M1 168) n k sz ce := by rw [hR1.1 168 (by decide) (by decide)]; exact hV6.1.1
          show WP sc0 40 m_X8_extend 50 [vR 167, vI ((lv : Nat) : Int), vU, vU] [] M1 (PM M (o_extend (mkS n k sz ce h hs im len tx) x))
          refine WP.aload_n dX8_extend_50 rfl ?_
          refine WP.getR (y := 168) dX8_extend_51 fl_X8_7 (rfl) (by decide) (rfl) ?_
          refine WP.iconst dX8_extend_54 ?_
          refine WP.iaload (y := 1) (x := ((k : Nat) : Int)) dX8_extend_55 (rfl) (by omega) (by omega) (hA1.2.1) ?_
          refine WP.istore_n (lt := [vR 167, vI ((lv : Nat) : Int), vI ((k : Nat) : Int), vU]) dX8_extend_56 (by decide) rfl ?_
          refine WP.aload_n dX8_extend_57 rfl ?_
          refine WP.getR (y := 168) dX8_extend_58 fl_X8_7 (rfl) (by decide) (rfl) ?_
          refine WP.iconst dX8_extend_61 ?_
          refine WP.iload_n dX8_extend_62 rfl ?_
          refine WP.iadd dX8_extend_63 ?_
          refine WP.iload_n dX8_extend_64 rfl ?_
          refine WP.iastore (y := (2 + k)) dX8_extend_65 (rfl) (by omega) (by omega) rfl ?_
          obtain ⟨M2, hM2⟩ : ∃ z, z = (mset M1 168 ((2 + k)) ((lv : Nat) : Int)) := ⟨_, rfl⟩
          refine WP.eqM hM2.symm ?_
          have hO2 : ∀ a, a ≠ 168 → M2 a = M1 a := fun a ha => by rw [hM2]; exact mset_o a ha
          refine WP.aload_n dX8_extend_66 rfl ?_
          refine WP.getR (y := 168) dX8_extend_67 fl_X8_7 (rfl) (by decide) (rfl) ?_
          refine WP.iconst dX8_extend_70 ?_
          refine WP.dup2 dX8_extend_71 rfl rfl ?_
          refine WP.iaload (y := 1) (x := ((k : Nat) : Int)) dX8_extend_72 (rfl) (by omega) (by omega) (by rw [hM2, mset_n (Or.inr (by omega))]; exact hA1.2.1) ?_
          refine WP.iconst dX8_extend_73 ?_
          refine WP.iadd dX8_extend_74 ?_
          refine WP.iastore (y := 1) dX8_extend_75 (rfl) (by omega) (by omega) rfl ?_
          obtain ⟨M3, hM3⟩ : ∃ z, z = (mset M2 168 1 (((k : Nat) : Int) + (1 : Int))) := ⟨_, rfl⟩
          refine WP.eqM hM3.symm ?_
          have hO3 : ∀ a, a ≠ 168 → M3 a = M2 a := fun a ha => by rw [hM3]; exact mset_o a ha
          refine WP.iconst dX8_extend_76 ?_
          refine WP.istore_n (lt := [vR 167, vI ((lv : Nat) : Int), vI ((k : Nat) : Int), vI (0 : Int)]) dX8_extend_77 (by decide) rfl ?_
          have L78 : ∀ (n9 : Nat) (r : Nat) (M4 : Mem) (hr : r ≤ n) (hF4 : ∀ a, a ≠ 168 → M4 a = M3 a) (hA4 : ∀ q, q < r → M4 168 (9 + 7 * q + k) = ((lxE n k sz ce lv q : Nat) : Int)) (hB4 : ∀ j, (j < 9 ∨ (j - 9) % 7 ≠ k) → M4 168 j = M3 168 j), n - r < n9 → WP sc0 40 m_X8_extend 78 [vR 167, vI ((lv : Nat) : Int), vI ((k : Nat) : Int), vI ((r : Nat) : Int)] [] M4 (PM M (o_extend (mkS n k sz ce h hs im len tx) x)) := by
            intro n9
            induction n9 with
            | zero =>
              intro r M4 hr hF4 hA4 hB4 hm9
              exact absurd hm9 (Nat.not_lt_zero _)
            | succ n9 ih78 =>
              intro r M4 hr hF4 hA4 hB4 hm9
              have hC4 : ∀ j, (j < 9 ∨ (j - 9) % 7 ≠ k) → j ≠ 1 → j ≠ 2 + k → M4 168 j = M1 168 j := fun j i1 i2 i3 => by rw [hB4 j i1, hM3, mset_n (Or.inr i2), hM2, mset_n (Or.inr i3)]
              refine WP.iload_n dX8_extend_78 rfl ?_
              refine WP.aload_n dX8_extend_79 rfl ?_
              refine WP.getR (y := 168) dX8_extend_80 fl_X8_7 (rfl) (by decide) (rfl) ?_
              refine WP.iconst dX8_extend_83 ?_
              refine WP.iaload (y := 0) (x := ((n : Nat) : Int)) dX8_extend_84 (rfl) (by omega) (by omega) (by rw [hC4 0 (by omega) (by omega) (by omega)]; exact hA1.1) ?_
              refine WP.icmp_ge (tgt := 106) dX8_extend_85 (by decide) (by omega) (by omega) (fun h85 => ?_) (fun h85 => ?_)
              · skip
                refine WP.iload_n dX8_extend_106 rfl ?_
                refine WP.iret dX8_extend_107 rfl ?_
                have hwf : ∀ r, r < n → lxE n k sz ce lv r < lv := fun r hr => by
                  obtain ⟨x, hx⟩ := q40
                  obtain ⟨x2, hx2⟩ := lext_ex (by omega) ⟨x, hx⟩
                  exact (lxE_of hx2).1.1 r hr
                have hp := PM.ch (x := ((k : Nat) : Int)) (A' := (n, k + 1, apS sz k lv, apC ce k (lxE n k sz ce lv))) (q := o_extend (mkS n k sz ce h hs im len tx) x) (by subst hlv0; exact (cif_t q4).trans ((if_neg (show ¬ (n = 0 ∨ 16 < n) by omega)).trans ((if_neg (show ¬ k = 7 by omega)).trans (cif_t q40)))) hV6 hR1 (fun a9 ha => by rw [hF4 a9 ha, hO3 a9 ha, hO2 a9 ha]) (BX_ap (x := lxE n k sz ce lv) hA1 (by omega) (hC4 0 (by omega) (by omega) (by omega)) (by rw [hB4 1 (by omega), hM3, mset_s]; omega) (fun b9 hb9 => hC4 _ (by omega) (by omega) (by omega)) (by rw [hB4 _ (by omega), hM3, mset_n (Or.inr (by omega)), hM2, mset_s]) (fun r9 hr9 => hA4 r9 (by omega)) (fun r9 hr9 b9 hb9 => hC4 _ (by omega) (by omega) (by omega))) (Wf_ap hW (by omega) (by omega) hwf)
                exact ⟨hp.1, hp.2.1, fun a ha => by rw [hp.2.2 a ha, f6 a (by omega) (Or.inl (by omega))]⟩
              · skip
                refine WP.aload_n dX8_extend_88 rfl ?_
                refine WP.iload_n dX8_extend_89 rfl ?_
                refine WP.iload_n dX8_extend_90 rfl ?_
                refine WP.aload_n dX8_extend_91 rfl ?_
                refine WP.getR (y := 173) dX8_extend_92 fl_X8_25 (rfl) (by decide) (rfl) ?_
                refine WP.iload_n dX8_extend_95 rfl ?_
                refine WP.iaload (y := r) (x := ((lxE n k sz ce lv r : Nat) : Int)) dX8_extend_96 (rfl) (by omega) (by omega) (by rw [hF4 173 (by decide), hO3 173 (by decide), hO2 173 (by decide), hR1.1 173 (by decide) (by decide)]; exact hx6 q40 r (by omega)) ?_
                refine WP.callV (as := [vI ((r : Nat) : Int), vI ((k : Nat) : Int), vI ((lxE n k sz ce lv r : Nat) : Int)]) dX8_extend_97 mv_X8_58 rfl (rfl) (by decide) rfl rfl (w_set (r := r) (c := k) (by omega) (by omega)) rfl (Nat.le_of_ble_eq_true rfl) (by omega) (fun r9 M5 h9 => ?_)
                obtain ⟨rfl, f5, g5, e5⟩ := h9
                show WP sc0 40 m_X8_extend 100 [vR 167, vI ((lv : Nat) : Int), vI ((k : Nat) : Int), vI ((r : Nat) : Int)] [] M5 (PM M (o_extend (mkS n k sz ce h hs im len tx) x))
                refine WP.iinc (lt := [vR 167, vI ((lv : Nat) : Int), vI ((k : Nat) : Int), vI (((r : Nat) : Int) + 1)]) dX8_extend_100 rfl (by decide) rfl ?_
                refine WP.goto (tgt := 78) dX8_extend_103 (by decide) ?_
                refine WP.fgt (lt := [vR 167, vI ((lv : Nat) : Int), vI ((k : Nat) : Int), vI (((r + 1) : Nat) : Int)]) ⟨Or.inr rfl, Or.inr rfl, Or.inr rfl, Or.inr (congrArg vI (by omega)), trivial⟩ ?_
                exact ih78 (r + 1) (M5) (by omega) (fun a ha => (f5 a ha).trans (hF4 a ha)) (fun q hq => by
                  by_cases e9 : q = r
                  · rw [e9]; exact g5
                  · rw [e5 _ (by omega)]; exact hA4 q (by omega)) (fun j hj => by rw [e5 _ (by omega)]; exact hB4 j hj) (by omega)
          refine WP.fgt (lt := [vR 167, vI ((lv : Nat) : Int), vI ((k : Nat) : Int), vI ((0 : Nat) : Int)]) ⟨Or.inr rfl, Or.inr rfl, Or.inr rfl, Or.inr (congrArg vI (by omega)), trivial⟩ ?_
          exact L78 _ (0) (M3) (by omega) (fun _ _ => rfl) (fun q hq => absurd hq (Nat.not_lt_zero q)) (fun _ _ => rfl) (Nat.lt_succ_self _)
        · skip
          have q40 := bi_0 h40
          refine WP.bipush dX8_extend_43 (by decide) ?_
          refine WP.iret dX8_extend_45 rfl ?_
          exact PM.cs (by subst hlv0; exact (cif_t q4).trans ((if_neg (show ¬ (n = 0 ∨ 16 < n) by omega)).trans ((if_neg (show ¬ k = 7 by omega)).trans (cif_f q40)))) hV (fun a i1 i2 => f6 a i2 (Or.inl (by omega))) (g6)
      · skip
        refine WP.bipush dX8_extend_32 (by decide) ?_
        refine WP.iret dX8_extend_34 rfl ?_
        exact PM.same ((cif_t q4).trans ((if_neg (show ¬ (n = 0 ∨ 16 < n) by omega)).trans (if_pos (show k = 7 by omega)))) hV
    · skip
      have q15 := bi_0 h15
      refine WP.bipush dX8_extend_18 (by decide) ?_
      refine WP.iret dX8_extend_20 rfl ?_
      exact PM.same ((cif_t q4).trans (if_pos (show n = 0 ∨ 16 < n by omega))) hV
  · skip
    have q4 := bi_0 h4
    refine WP.iconst dX8_extend_7 ?_
    refine WP.iret dX8_extend_8 rfl ?_
    exact PM.same (cif_f q4) hV
