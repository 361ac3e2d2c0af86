section GSS
variable {M M' : Mem} {n k j r v : Nat} {sz sz' : Nat → Nat} {ce ce' : Nat → Nat → Nat} {w y : Nat → Nat}
def GS (M : Mem) (n k : Nat) (sz : Nat → Nat) (ce : Nat → Nat → Nat) (sz' : Nat → Nat) (ce' : Nat → Nat → Nat) (w : Nat → Nat) (j r : Nat) : Prop := j ≤ 256 * k ∧ (r = k → j = 0) ∧ (∀ b, b < r → M 176 b = (w b : Int)) ∧ M 176 r = (j : Int) - 1 ∧ isoP (n, k, sz, ce) (n, k, sz', ce') w r ∧ rwm (n, k, sz, ce) (n, k, sz', ce') w r ∧ ∀ y, iso (n, k, sz, ce) (n, k, sz', ce') y → ¬ lxl y w r ∧ ((∀ b, b < r → y b = w b) → r < k → j ≤ y r)
theorem isoP_w (h : isoP (n, k, sz, ce) (n, k, sz', ce') w r) : ∀ b, b < r → w b < 256 * k ∧ sz' (w b / 256) = sz b := fun b hb => by
  have h1 : w b / 256 < k := (h b hb).1
  exact ⟨by omega, (h b hb).2.1⟩
theorem GS_fit (hr : r < k) (he : iso (n, k, sz, ce) (n, k, sz', ce') y) (ha : ∀ b, b < r → y b = w b) : fitsP (n, k, sz, ce) (n, k, sz', ce') (upN w r (y r)) r ∧ y r < 256 * k := by
  have h1 := he.2.2.1 r hr
  have h2 : y r / 256 < k := h1.1
  refine ⟨⟨?_, ?_, fun b hb => ?_, ?_, ?_⟩, by omega⟩
  · rw [upN_s]; exact h1.2.1
  · rw [upN_s]; exact h1.2.2.1
  · rw [upN_s, upN_n (by omega), ← ha b hb]; exact h1.2.2.2.2 b hb
  · rw [upN_s]; exact h1.2.2.2.1
  · refine rwm_cg (y := y) (fun b hb => ?_) (rwm_pre he.2.2.2 (show r + 1 ≤ k by omega))
    by_cases e : b = r
    · rw [e, upN_s]
    · rw [upN_n e]; exact ha b (by omega)
theorem GS_ge (hr : r < k) {u : Nat} (hnf : ∀ u', j ≤ u' → u' < u → ¬ fitsP (n, k, sz, ce) (n, k, sz', ce') (upN w r u') r) (hj : (∀ b, b < r → y b = w b) → r < k → j ≤ y r) (he : iso (n, k, sz, ce) (n, k, sz', ce') y) (ha : ∀ b, b < r → y b = w b) : u ≤ y r := by
  rcases Nat.lt_or_ge (y r) u with z | z
  · exact absurd (GS_fit hr he ha).1 (hnf _ (hj ha hr) z)
  · exact z
theorem GS_up (hr : r < k) (h : GS M n k sz ce sz' ce' w j r) (hv : v < 256 * k) (hfit : fitsP (n, k, sz, ce) (n, k, sz', ce') (upN w r v) r) (hnf : ∀ u, j ≤ u → u < v → ¬ fitsP (n, k, sz, ce) (n, k, sz', ce') (upN w r u) r) (h1 : ∀ b, b < r → M' 176 b = (w b : Int)) (h2 : M' 176 r = (v : Int)) (h3 : M' 176 (r + 1) = -1) : GS M' n k sz ce sz' ce' (upN w r v) 0 (r + 1) := by
  obtain ⟨a1, a2, a3, a4, a5, a6, a7⟩ := h
  obtain ⟨f1, f2, f3, f4, f5⟩ := hfit
  rw [upN_s] at f1 f2 f4
  refine ⟨Nat.zero_le _, fun _ => rfl, fun q hq => ?_, h3, fun b hb => ?_, f5, fun y he => ⟨fun ⟨q, q1, q2, q3⟩ => ?_, fun _ _ => Nat.zero_le _⟩⟩
  · by_cases e : q = r
    · rw [e, upN_s]; exact h2
    · rw [upN_n e]; exact h1 q (by omega)
  · by_cases e : b = r
    · rw [e, upN_s]
      exact ⟨show v / 256 < k by omega, f1, f2, f4, fun d hd => by have := f3 d hd; rw [upN_s] at this; exact this⟩
    · rw [upN_n e]
      obtain ⟨i1, i2, i3, i4, i5⟩ := a5 b (by omega)
      exact ⟨i1, i2, i3, i4, fun d hd => by rw [upN_n (by omega)]; exact i5 d hd⟩
  · by_cases e : q = r
    · rw [e, upN_s] at q2
      have := GS_ge hr hnf (a7 y he).2 he (fun p hp => by rw [q3 p (by omega), upN_n (by omega)])
      omega
    · rw [upN_n e] at q2
      exact (a7 y he).1 ⟨q, by omega, q2, fun p hp => by rw [q3 p hp, upN_n (by omega)]⟩
theorem GS_dn (hr : r < k) (h : GS M n k sz ce sz' ce' w j r) (hnf : ∀ u, j ≤ u → u < 256 * k → ¬ fitsP (n, k, sz, ce) (n, k, sz', ce') (upN w r u) r) (h1 : ∀ b, b < r → M' 176 b = (w b : Int)) : (r = 0 ∧ ∀ y, ¬ iso (n, k, sz, ce) (n, k, sz', ce') y) ∨ (1 ≤ r ∧ GS M' n k sz ce sz' ce' w (w (r - 1) + 1) (r - 1)) := by
  obtain ⟨a1, a2, a3, a4, a5, a6, a7⟩ := h
  have hno : ∀ y, iso (n, k, sz, ce) (n, k, sz', ce') y → ¬ ∀ b, b < r → y b = w b := fun y he ha => by
    have := GS_ge hr hnf (a7 y he).2 he ha
    have := (GS_fit hr he ha).2
    omega
  by_cases e : r = 0
  · subst e
    exact Or.inl ⟨rfl, fun y he => hno y he (fun q hq => absurd hq (Nat.not_lt_zero q))⟩
  · have hx := (isoP_w a5 (r - 1) (by omega)).1
    refine Or.inr ⟨by omega, by omega, fun z => by omega, fun q hq => h1 q (by omega), by rw [h1 (r - 1) (by omega)]; omega, fun b hb => a5 b (by omega), rwm_pre a6 (by omega), fun y he => ⟨fun ⟨q, q1, q2, q3⟩ => (a7 y he).1 ⟨q, by omega, q2, q3⟩, fun ha _ => ?_⟩⟩
    rcases Nat.lt_trichotomy (y (r - 1)) (w (r - 1)) with z | z | z
    · exact absurd ⟨r - 1, by omega, z, ha⟩ (a7 y he).1
    · exact absurd (fun q hq => by
        by_cases e2 : q = r - 1
        · rw [e2]; exact z
        · exact ha q (by omega)) (hno y he)
    · omega
theorem GS_end (h : GS M n k sz ce sz' ce' w j k) : liso (n, k, sz, ce) (n, k, sz', ce') w ∧ ∀ c, c < k → M 176 c = (w c : Int) := by
  obtain ⟨a1, a2, a3, a4, a5, a6, a7⟩ := h
  exact ⟨⟨⟨rfl, rfl, a5, a6⟩, fun y he => (a7 y he).1⟩, a3⟩
end GSS
set_option maxHeartbeats 4000000 in
set_option maxRecDepth 20000 in
theorem w_maps {M : Mem} {i n k n2 k2 : Nat} {sz sz' : Nat → Nat} {ce ce' : Nat → Nat → Nat} (hi : i < 2) (hA : BX (M 168) n k sz ce) (hB : BX (fun j => M 170 (261 * i + j)) n2 k2 sz' ce') (hW : Wf n k sz ce) (hW2 : Wf n2 k2 sz' ce') (hn : n ≤ 18) (h4 : ∀ c, c < k → sz c ≤ 4) : CT 5 m_X8_maps [vR 167, vI ((i : Nat) : Int)] M (fun z M' => z = some (vI (bi (∃ w, iso (n, k, sz, ce) (n2, k2, sz', ce') w))) ∧ (∀ a, a ≠ 176 → a ≠ 177 → a ≠ 178 → M' a = M a) ∧ ((∃ w, iso (n, k, sz, ce) (n2, k2, sz', ce') w) → ∀ c, c < k → M' 176 c = ((lxI (n, k, sz, ce) (n2, k2, sz', ce') c : Nat) : Int))) := by
  have b1 := hW.1
  have b2 := hW.2.1
  have b3 := hW2.1
  have b4 := hW2.2.1
  refine CT.ofWP (by decide +kernel) (Nat.le_of_ble_eq_true rfl) ?_
  show WP sc0 5 m_X8_maps 0 [vR 167, vI ((i : Nat) : Int), vU] [] M (fun z M' => z = some (vI (bi (∃ w, iso (n, k, sz, ce) (n2, k2, sz', ce') w))) ∧ (∀ a, a ≠ 176 → a ≠ 177 → a ≠ 178 → M' a = M a) ∧ ((∃ w, iso (n, k, sz, ce) (n2, k2, sz', ce') w) → ∀ c, c < k → M' 176 c = ((lxI (n, k, sz, ce) (n2, k2, sz', ce') c : Nat) : Int)))
  refine WP.aload_n dX8_maps_0 rfl ?_
  refine WP.iload_n dX8_maps_1 rfl ?_
  refine WP.iconst dX8_maps_2 ?_
  refine WP.callVp (as := [vI ((i : Nat) : Int), vI (0 : Int)]) dX8_maps_3 mv_X8_101 rfl (rfl) (by decide) rfl rfl (w_ofImage (i := i) (j := 0) (x := ((n2 : Nat) : Int)) hi (by decide) hB.1) rfl (Nat.le_of_ble_eq_true rfl) (by omega) ?_
  refine WP.aload_n dX8_maps_6 rfl ?_
  refine WP.getR (y := 168) dX8_maps_7 fl_X8_7 (rfl) (by decide) (rfl) ?_
  refine WP.iconst dX8_maps_10 ?_
  refine WP.iaload (y := 0) (x := ((n : Nat) : Int)) dX8_maps_11 (rfl) (by omega) (by omega) (hA.1) ?_
  refine WP.icmp_ne (tgt := 38) dX8_maps_12 (by decide) (by omega) (by omega) (fun h12 => ?_) (fun h12 => ?_)
  · skip
    have hno : ∀ y, ¬ iso (n, k, sz, ce) (n2, k2, sz', ce') y := fun y hy => by have e9 : n = n2 := hy.1; omega
    refine WP.iconst dX8_maps_38 ?_
    refine WP.zret dX8_maps_39 rfl (by decide) ?_
    exact ⟨congrArg some (congrArg vI (bi_f (fun ⟨y, hy⟩ => hno y hy)).symm), fun _ _ _ _ => rfl, fun z => absurd z (fun ⟨y, hy⟩ => hno y hy)⟩
  · skip
    have en : n = n2 := by omega
    refine WP.aload_n dX8_maps_15 rfl ?_
    refine WP.iload_n dX8_maps_16 rfl ?_
    refine WP.iconst dX8_maps_17 ?_
    refine WP.callVp (as := [vI ((i : Nat) : Int), vI (1 : Int)]) dX8_maps_18 mv_X8_101 rfl (rfl) (by decide) rfl rfl (w_ofImage (i := i) (j := 1) (x := ((k2 : Nat) : Int)) hi (by decide) hB.2.1) rfl (Nat.le_of_ble_eq_true rfl) (by omega) ?_
    refine WP.aload_n dX8_maps_21 rfl ?_
    refine WP.getR (y := 168) dX8_maps_22 fl_X8_7 (rfl) (by decide) (rfl) ?_
    refine WP.iconst dX8_maps_25 ?_
    refine WP.iaload (y := 1) (x := ((k : Nat) : Int)) dX8_maps_26 (rfl) (by omega) (by omega) (hA.2.1) ?_
    refine WP.icmp_ne (tgt := 38) dX8_maps_27 (by decide) (by omega) (by omega) (fun h27 => ?_) (fun h27 => ?_)
    · skip
      have hno : ∀ y, ¬ iso (n, k, sz, ce) (n2, k2, sz', ce') y := fun y hy => by have e9 : k = k2 := hy.2.1; omega
      refine WP.iconst dX8_maps_38 ?_
      refine WP.zret dX8_maps_39 rfl (by decide) ?_
      exact ⟨congrArg some (congrArg vI (bi_f (fun ⟨y, hy⟩ => hno y hy)).symm), fun _ _ _ _ => rfl, fun z => absurd z (fun ⟨y, hy⟩ => hno y hy)⟩
    · skip
      have ek : k = k2 := by omega
      have hB2 : BX (fun j => M 170 (261 * i + j)) n k sz' ce' := by rw [en, ek]; exact hB
      have hWB : Wf n k sz' ce' := by rw [en, ek]; exact hW2
      have hcv : (∀ y, ¬ iso (n, k, sz, ce) (n, k, sz', ce') y) → ∀ y, ¬ iso (n, k, sz, ce) (n2, k2, sz', ce') y := fun h y hy => h y (by rw [← en, ← ek] at hy; exact hy)
      refine WP.aload_n dX8_maps_30 rfl ?_
      refine WP.iload_n dX8_maps_31 rfl ?_
      refine WP.callVp (as := [vI ((i : Nat) : Int)]) dX8_maps_32 mv_X8_214 rfl (rfl) (by decide) rfl rfl (w_like (w := fun _ => 0) hi hA hB2 hW hWB hn h4) rfl (Nat.le_of_ble_eq_true rfl) (by omega) ?_
      refine WP.if_ne (tgt := 40) dX8_maps_35 (by decide) (bi_rng) (fun h35 => ?_) (fun h35 => ?_)
      · skip
        refine WP.iconst dX8_maps_40 ?_
        refine WP.istore_n (lt := [vR 167, vI ((i : Nat) : Int), vI (0 : Int)]) dX8_maps_41 (by decide) rfl ?_
        refine WP.aload_n dX8_maps_42 rfl ?_
        refine WP.getR (y := 176) dX8_maps_43 fl_X8_34 (rfl) (by decide) (rfl) ?_
        refine WP.iconst dX8_maps_46 ?_
        refine WP.iconst dX8_maps_47 ?_
        refine WP.iastore (y := 0) dX8_maps_48 (rfl) (by omega) (by omega) rfl ?_
        obtain ⟨M4, hM4⟩ : ∃ z, z = (mset M 176 0 ((-1) : Int)) := ⟨_, rfl⟩
        refine WP.eqM hM4.symm ?_
        have hF4 : ∀ a, a ≠ 176 → a ≠ 177 → a ≠ 178 → M4 a = M a := fun a i1 _ _ => by rw [hM4]; exact mset_o a i1
        have hS4 : GS M4 n k sz ce sz' ce' (fun _ => 0) 0 0 := ⟨Nat.zero_le _, fun _ => rfl, fun q hq => absurd hq (Nat.not_lt_zero q), by rw [hM4, mset_s]; rfl, fun b hb => absurd hb (Nat.not_lt_zero b), fun r _ => cn_cg (fun q _ => ⟨fun _ c hc => absurd hc (Nat.not_lt_zero c), fun _ c hc => absurd hc (Nat.not_lt_zero c)⟩), fun y he => ⟨fun ⟨q, q1, _⟩ => absurd q1 (Nat.not_lt_zero q), fun _ _ => Nat.zero_le _⟩⟩
        have L49 : ∀ (n9 : Nat) (R j : Nat) (w : Nat → Nat) (M5 : Mem) (hR : R ≤ k + 1) (hF5 : ∀ a, a ≠ 176 → a ≠ 177 → a ≠ 178 → M5 a = M a) (hst : (R = 0 ∧ ∀ y, ¬ iso (n, k, sz, ce) (n, k, sz', ce') y) ∨ (1 ≤ R ∧ GS M5 n k sz ce sz' ce' w j (R - 1))), btM 2048 k R w j < n9 → WP sc0 5 m_X8_maps 49 [vR 167, vI ((i : Nat) : Int), vI (((R : Nat) : Int) - 1)] [] M5 (fun z M' => z = some (vI (bi (∃ w, iso (n, k, sz, ce) (n2, k2, sz', ce') w))) ∧ (∀ a, a ≠ 176 → a ≠ 177 → a ≠ 178 → M' a = M a) ∧ ((∃ w, iso (n, k, sz, ce) (n2, k2, sz', ce') w) → ∀ c, c < k → M' 176 c = ((lxI (n, k, sz, ce) (n2, k2, sz', ce') c : Nat) : Int))) := by
          intro n9
          induction n9 with
          | zero =>
            intro R j w M5 hR hF5 hst hm9
            exact absurd hm9 (Nat.not_lt_zero _)
          | succ n9 ih49 =>
            intro R j w M5 hR hF5 hst hm9
            refine WP.iload_n dX8_maps_49 rfl ?_
            refine WP.if_lt (tgt := 152) dX8_maps_50 (by decide) (by omega) (fun h50 => ?_) (fun h50 => ?_)
            · skip
              have hR0 : R = 0 := by omega
              refine WP.iload_n dX8_maps_152 rfl ?_
              refine WP.if_lt (tgt := 160) dX8_maps_153 (by decide) (by omega) (fun h153 => ?_) (fun h153 => ?_)
              · skip
                refine WP.iconst dX8_maps_160 ?_
                refine WP.zret dX8_maps_161 rfl (by decide) ?_
                have hno := hcv (hst.resolve_right (fun z => by omega)).2
                exact ⟨congrArg some (congrArg vI (bi_f (fun ⟨y, he⟩ => hno y he)).symm), hF5, fun z => absurd z (fun ⟨y, he⟩ => hno y he)⟩
              · skip
                exfalso
                omega
            · skip
              have hst9 := hst.resolve_left (fun z => by omega)
              obtain ⟨r, hr⟩ : ∃ z, R = z + 1 := ⟨R - 1, by omega⟩
              subst hr
              have hgs : GS M5 n k sz ce sz' ce' w j r := hst9.2
              have hjl := hgs.1
              have hwl := isoP_w hgs.2.2.2.2.1
              refine WP.fgt (lt := [vR 167, vI ((i : Nat) : Int), vI ((r : Nat) : Int)]) ⟨Or.inr rfl, Or.inr rfl, Or.inr (congrArg vI (by omega)), trivial⟩ ?_
              refine WP.iload_n dX8_maps_53 rfl ?_
              refine WP.aload_n dX8_maps_54 rfl ?_
              refine WP.getR (y := 168) dX8_maps_55 fl_X8_7 (rfl) (by decide) (rfl) ?_
              refine WP.iconst dX8_maps_58 ?_
              refine WP.iaload (y := 1) (x := ((k : Nat) : Int)) dX8_maps_59 (rfl) (by omega) (by omega) (by rw [hF5 168 (by decide) (by decide) (by decide)]; exact hA.2.1) ?_
              refine WP.icmp_ge (tgt := 152) dX8_maps_60 (by decide) (by omega) (by omega) (fun h60 => ?_) (fun h60 => ?_)
              · skip
                have hrn : r = k := by omega
                refine WP.iload_n dX8_maps_152 rfl ?_
                refine WP.if_lt (tgt := 160) dX8_maps_153 (by decide) (by omega) (fun h153 => ?_) (fun h153 => ?_)
                · skip
                  exfalso
                  omega
                · skip
                  refine WP.iconst dX8_maps_156 ?_
                  refine WP.goto (tgt := 161) dX8_maps_157 (by decide) ?_
                  refine WP.zret dX8_maps_161 rfl (by decide) ?_
                  rw [hrn] at hgs
                  obtain ⟨l1, l2⟩ := GS_end hgs
                  rw [← en, ← ek]
                  exact ⟨congrArg some (congrArg vI (bi_t ⟨w, l1.1⟩).symm), hF5, fun _ c hc => by rw [l2 c hc, lxI_eq l1 hc]⟩
              · skip
                have hrn : r < k := by omega
                refine WP.aload_n dX8_maps_63 rfl ?_
                refine WP.getR (y := 176) dX8_maps_64 fl_X8_34 (rfl) (by decide) (rfl) ?_
                refine WP.iload_n dX8_maps_67 rfl ?_
                refine WP.dup2 dX8_maps_68 rfl rfl ?_
                refine WP.iaload (y := r) (x := (((j : Nat) : Int) - 1)) dX8_maps_69 (rfl) (by omega) (by omega) (hgs.2.2.2.1) ?_
                refine WP.iconst dX8_maps_70 ?_
                refine WP.iadd dX8_maps_71 ?_
                refine WP.iastore (y := r) dX8_maps_72 (rfl) (by omega) (by omega) rfl ?_
                obtain ⟨M6, hM6⟩ : ∃ z, z = (mset M5 176 r ((((j : Nat) : Int) - 1) + (1 : Int))) := ⟨_, rfl⟩
                refine WP.eqM hM6.symm ?_
                have hF6 : ∀ a, a ≠ 176 → a ≠ 177 → a ≠ 178 → M6 a = M a := fun a i1 i2 i3 => by rw [hM6, mset_o a i1]; exact hF5 a i1 i2 i3
                have hv6 : M6 176 r = ((j : Nat) : Int) := by rw [hM6, mset_s]; omega
                have hp6 : ∀ b, b < r → M6 176 b = (w b : Int) := fun b hb => by rw [hM6, mset_n (Or.inr (by omega))]; exact hgs.2.2.1 b hb
                have L73 : ∀ (n9 : Nat) (v : Nat) (M7 : Mem) (hv : j ≤ v ∧ v ≤ 256 * k) (hF7 : ∀ a, a ≠ 176 → a ≠ 177 → a ≠ 178 → M7 a = M a) (hv7 : M7 176 r = ((v : Nat) : Int)) (hp7 : ∀ b, b < r → M7 176 b = (w b : Int)) (hnf : ∀ u, j ≤ u → u < v → ¬ fitsP (n, k, sz, ce) (n, k, sz', ce') (upN w r u) r), 256 * k - v < n9 → WP sc0 5 m_X8_maps 73 [vR 167, vI ((i : Nat) : Int), vI ((r : Nat) : Int)] [] M7 (fun z M' => z = some (vI (bi (∃ w, iso (n, k, sz, ce) (n2, k2, sz', ce') w))) ∧ (∀ a, a ≠ 176 → a ≠ 177 → a ≠ 178 → M' a = M a) ∧ ((∃ w, iso (n, k, sz, ce) (n2, k2, sz', ce') w) → ∀ c, c < k → M' 176 c = ((lxI (n, k, sz, ce) (n2, k2, sz', ce') c : Nat) : Int))) := by
                  intro n9
                  induction n9 with
                  | zero =>
                    intro v M7 hv hF7 hv7 hp7 hnf hm9
                    exact absurd hm9 (Nat.not_lt_zero _)
                  | succ n9 ih73 =>
                    intro v M7 hv hF7 hv7 hp7 hnf hm9
                    have hA7 : BX (M7 168) n k sz ce := by rw [hF7 168 (by decide) (by decide) (by decide)]; exact hA
                    refine WP.aload_n dX8_maps_73 rfl ?_
                    refine WP.getR (y := 176) dX8_maps_74 fl_X8_34 (rfl) (by decide) (rfl) ?_
                    refine WP.iload_n dX8_maps_77 rfl ?_
                    refine WP.iaload (y := r) (x := ((v : Nat) : Int)) dX8_maps_78 (rfl) (by omega) (by omega) (hv7) ?_
                    refine WP.sipush dX8_maps_79 (by decide) ?_
                    refine WP.aload_n dX8_maps_82 rfl ?_
                    refine WP.getR (y := 168) dX8_maps_83 fl_X8_7 (rfl) (by decide) (rfl) ?_
                    refine WP.iconst dX8_maps_86 ?_
                    refine WP.iaload (y := 1) (x := ((k : Nat) : Int)) dX8_maps_87 (rfl) (by omega) (by omega) (hA7.2.1) ?_
                    refine WP.imul dX8_maps_88 ?_
                    refine WP.icmp_ge (tgt := 114) dX8_maps_89 (by decide) (by omega) (by omega) (fun h89 => ?_) (fun h89 => ?_)
                    · skip
                      have hvl : v = 256 * k := by omega
                      refine WP.aload_n dX8_maps_114 rfl ?_
                      refine WP.getR (y := 176) dX8_maps_115 fl_X8_34 (rfl) (by decide) (rfl) ?_
                      refine WP.iload_n dX8_maps_118 rfl ?_
                      refine WP.iaload (y := r) (x := ((v : Nat) : Int)) dX8_maps_119 (rfl) (by omega) (by omega) (hv7) ?_
                      refine WP.sipush dX8_maps_120 (by decide) ?_
                      refine WP.aload_n dX8_maps_123 rfl ?_
                      refine WP.getR (y := 168) dX8_maps_124 fl_X8_7 (rfl) (by decide) (rfl) ?_
                      refine WP.iconst dX8_maps_127 ?_
                      refine WP.iaload (y := 1) (x := ((k : Nat) : Int)) dX8_maps_128 (rfl) (by omega) (by omega) (hA7.2.1) ?_
                      refine WP.imul dX8_maps_129 ?_
                      refine WP.icmp_ne (tgt := 139) dX8_maps_130 (by decide) (by omega) (by omega) (fun h130 => ?_) (fun h130 => ?_)
                      · skip
                        exfalso
                        omega
                      · skip
                        refine WP.iinc (lt := [vR 167, vI ((i : Nat) : Int), vI (((r : Nat) : Int) + (-1))]) dX8_maps_133 rfl (by decide) rfl ?_
                        refine WP.goto (tgt := 49) dX8_maps_136 (by decide) ?_
                        refine WP.fgt (lt := [vR 167, vI ((i : Nat) : Int), vI (((r : Nat) : Int) - 1)]) ⟨Or.inr rfl, Or.inr rfl, Or.inr (congrArg vI (by omega)), trivial⟩ ?_
                        exact ih49 (r) (w (r - 1) + 1) (w) (M7) (by omega) (hF7) (GS_dn hrn hgs (fun u i1 i2 => hnf u i1 (by omega)) hp7) (by have := btM_fail (b := 2048) (n := k) (r := r) (j := j) (x := w) (by decide) hrn (fun q hq => by have := (hwl q hq).1; omega) (by omega); omega)
                    · skip
                      have hvl : v < 256 * k := by omega
                      refine WP.aload_n dX8_maps_92 rfl ?_
                      refine WP.iload_n dX8_maps_93 rfl ?_
                      refine WP.iload_n dX8_maps_94 rfl ?_
                      refine WP.callV (as := [vI ((i : Nat) : Int), vI ((r : Nat) : Int)]) dX8_maps_95 mv_X8_217 rfl (rfl) (by decide) rfl rfl (w_fits (i := i) (w := upN w r v) (c := r) hi hA7 (show BX (fun j => M7 170 (261 * i + j)) n k sz' ce' by rw [hF7 170 (by decide) (by decide) (by decide)]; exact hB2) hW hWB hn h4 hrn (fun b hb => by
                        by_cases e9 : b = r
                        · rw [e9, upN_s]; exact ⟨hv7, hvl⟩
                        · rw [upN_n e9]; exact ⟨hp7 b (by omega), (hwl b (by omega)).1⟩) (fun b hb => by rw [upN_n (by omega)]; exact (hwl b hb).2)) rfl (Nat.le_of_ble_eq_true rfl) (by omega) (fun r9 M8 h9 => ?_)
                      obtain ⟨rfl, f8⟩ := h9
                      have hA8 : BX (M8 168) n k sz ce := by rw [f8 168 (by decide) (by decide)]; exact hA7
                      show WP sc0 5 m_X8_maps 98 [vR 167, vI ((i : Nat) : Int), vI ((r : Nat) : Int)] [vI (bi (fitsP (n, k, sz, ce) (n, k, sz', ce') (upN w r v) r))] M8 (fun z M' => z = some (vI (bi (∃ w, iso (n, k, sz, ce) (n2, k2, sz', ce') w))) ∧ (∀ a, a ≠ 176 → a ≠ 177 → a ≠ 178 → M' a = M a) ∧ ((∃ w, iso (n, k, sz, ce) (n2, k2, sz', ce') w) → ∀ c, c < k → M' 176 c = ((lxI (n, k, sz, ce) (n2, k2, sz', ce') c : Nat) : Int)))
                      refine WP.if_ne (tgt := 114) dX8_maps_98 (by decide) (bi_rng) (fun h98 => ?_) (fun h98 => ?_)
                      · skip
                        have hfit := bi_1 h98
                        refine WP.aload_n dX8_maps_114 rfl ?_
                        refine WP.getR (y := 176) dX8_maps_115 fl_X8_34 (rfl) (by decide) (rfl) ?_
                        refine WP.iload_n dX8_maps_118 rfl ?_
                        refine WP.iaload (y := r) (x := ((v : Nat) : Int)) dX8_maps_119 (rfl) (by omega) (by omega) (by rw [f8 176 (by decide) (by decide)]; exact hv7) ?_
                        refine WP.sipush dX8_maps_120 (by decide) ?_
                        refine WP.aload_n dX8_maps_123 rfl ?_
                        refine WP.getR (y := 168) dX8_maps_124 fl_X8_7 (rfl) (by decide) (rfl) ?_
                        refine WP.iconst dX8_maps_127 ?_
                        refine WP.iaload (y := 1) (x := ((k : Nat) : Int)) dX8_maps_128 (rfl) (by omega) (by omega) (hA8.2.1) ?_
                        refine WP.imul dX8_maps_129 ?_
                        refine WP.icmp_ne (tgt := 139) dX8_maps_130 (by decide) (by omega) (by omega) (fun h130 => ?_) (fun h130 => ?_)
                        · skip
                          refine WP.iinc (lt := [vR 167, vI ((i : Nat) : Int), vI (((r : Nat) : Int) + 1)]) dX8_maps_139 rfl (by decide) rfl ?_
                          refine WP.aload_n dX8_maps_142 rfl ?_
                          refine WP.getR (y := 176) dX8_maps_143 fl_X8_34 (rfl) (by decide) (rfl) ?_
                          refine WP.iload_n dX8_maps_146 rfl ?_
                          refine WP.iconst dX8_maps_147 ?_
                          refine WP.iastore (y := (r + 1)) dX8_maps_148 (rfl) (by omega) (by omega) rfl ?_
                          obtain ⟨M10, hM10⟩ : ∃ z, z = (mset M8 176 ((r + 1)) ((-1) : Int)) := ⟨_, rfl⟩
                          refine WP.eqM hM10.symm ?_
                          have hF10 : ∀ a, a ≠ 176 → a ≠ 177 → a ≠ 178 → M10 a = M a := fun a i1 i2 i3 => by rw [hM10, mset_o a i1, f8 a i2 i3]; exact hF7 a i1 i2 i3
                          refine WP.goto (tgt := 49) dX8_maps_149 (by decide) ?_
                          refine WP.fgt (lt := [vR 167, vI ((i : Nat) : Int), vI ((((r + 1 + 1) : Nat) : Int) - 1)]) ⟨Or.inr rfl, Or.inr rfl, Or.inr (congrArg vI (by omega)), trivial⟩ ?_
                          exact ih49 (r + 1 + 1) (0) (upN w r v) (M10) (by omega) (hF10) (Or.inr ⟨by omega, GS_up hrn hgs hvl hfit hnf (fun q hq => by rw [hM10, mset_n (Or.inr (by omega)), f8 176 (by decide) (by decide)]; exact hp7 q hq) (by rw [hM10, mset_n (Or.inr (by omega)), f8 176 (by decide) (by decide)]; exact hv7) (by rw [hM10, mset_s])⟩) (by have := btM_up (b := 2048) (n := k) (r := r) (j := j) (v := v) (x := w) (by decide) hrn (fun q hq => by have := (hwl q hq).1; omega) hv.1 (by omega); exact Nat.lt_of_lt_of_le this (by omega))
                        · skip
                          exfalso
                          omega
                      · skip
                        have hnfv := bi_0 h98
                        refine WP.aload_n dX8_maps_101 rfl ?_
                        refine WP.getR (y := 176) dX8_maps_102 fl_X8_34 (rfl) (by decide) (rfl) ?_
                        refine WP.iload_n dX8_maps_105 rfl ?_
                        refine WP.dup2 dX8_maps_106 rfl rfl ?_
                        refine WP.iaload (y := r) (x := ((v : Nat) : Int)) dX8_maps_107 (rfl) (by omega) (by omega) (by rw [f8 176 (by decide) (by decide)]; exact hv7) ?_
                        refine WP.iconst dX8_maps_108 ?_
                        refine WP.iadd dX8_maps_109 ?_
                        refine WP.iastore (y := r) dX8_maps_110 (rfl) (by omega) (by omega) rfl ?_
                        obtain ⟨M9, hM9⟩ : ∃ z, z = (mset M8 176 r (((v : Nat) : Int) + (1 : Int))) := ⟨_, rfl⟩
                        refine WP.eqM hM9.symm ?_
                        have hO9 : ∀ a, a ≠ 176 → M9 a = M8 a := fun a ha => by rw [hM9]; exact mset_o a ha
                        refine WP.goto (tgt := 73) dX8_maps_111 (by decide) ?_
                        exact ih73 (v + 1) (M9) (by omega) (fun a i1 i2 i3 => by rw [hM9, mset_o a i1, f8 a i2 i3]; exact hF7 a i1 i2 i3) (by rw [hM9, mset_s]; omega) (fun b hb => by rw [hM9, mset_n (Or.inr (by omega)), f8 176 (by decide) (by decide)]; exact hp7 b hb) (fun u i1 i2 => by
                          by_cases e9 : u = v
                          · rw [e9]; exact hnfv
                          · exact hnf u i1 (by omega)) (by omega)
                exact L73 _ (j) (M6) (by omega) (hF6) (hv6) (hp6) (fun u i1 i2 => by omega) (Nat.lt_succ_self _)
        refine WP.fgt (lt := [vR 167, vI ((i : Nat) : Int), vI (((1 : Nat) : Int) - 1)]) ⟨Or.inr rfl, Or.inr rfl, Or.inr (congrArg vI (rfl)), trivial⟩ ?_
        exact L49 _ (1) (0) ((fun _ => 0)) (M4) (by omega) (hF4) (Or.inr ⟨Nat.le_refl _, hS4⟩) (Nat.lt_succ_self _)
      · skip
        have hno : ∀ y, ¬ iso (n, k, sz, ce) (n2, k2, sz', ce') y := hcv (fun y hy => bi_0 h35 (fun c hc => iso_like hW hy _))
        refine WP.iconst dX8_maps_38 ?_
        refine WP.zret dX8_maps_39 rfl (by decide) ?_
        exact ⟨congrArg some (congrArg vI (bi_f (fun ⟨y, hy⟩ => hno y hy)).symm), fun _ _ _ _ => rfl, fun z => absurd z (fun ⟨y, hy⟩ => hno y hy)⟩
set_option maxHeartbeats 4000000 in
set_option maxRecDepth 20000 in
theorem w_canMap {M : Mem} {n k : Nat} {sz : Nat → Nat} {ce : Nat → Nat → Nat} {i f : Nat} {im : Nat → Option AR} (hA : BX (M 168) n k sz ce) (hW : Wf n k sz ce) (hi : i < 2) (hf : M 167 4 = (f : Int)) (hf4 : f < 4) (hfi : (im i = none → f / 2 ^ i % 2 = 0) ∧ ∀ B, im i = some B → f / 2 ^ i % 2 = 1 ∧ BA (fun j => M 170 (261 * i + j)) B) : CT 2 m_X8_canMap [vR 167, vI ((i : Nat) : Int)] M (Rt (some (vI (bi ((∃ B, im i = some B) ∧ cmt (n, k, sz, ce))))) M) := by
  have b1 := hW.1
  have b2 := hW.2.1
  refine CT.ofWP (by decide +kernel) (Nat.le_of_ble_eq_true rfl) ?_
  show WP sc0 2 m_X8_canMap 0 [vR 167, vI ((i : Nat) : Int), vU] [] M (Rt (some (vI (bi ((∃ B, im i = some B) ∧ cmt (n, k, sz, ce))))) M)
  refine WP.aload_n dX8_canMap_0 rfl ?_
  refine WP.iload_n dX8_canMap_1 rfl ?_
  refine WP.callVp (as := [vI ((i : Nat) : Int)]) dX8_canMap_2 mv_X8_98 rfl (rfl) (by decide) rfl rfl (w_isKept (i := i) hf hf4 hi) rfl (Nat.le_of_ble_eq_true rfl) (by omega) ?_
  refine WP.if_eq (tgt := 19) dX8_canMap_5 (by decide) (bi_rng) (fun h5 => ?_) (fun h5 => ?_)
  · skip
    have hbad : ¬ ((∃ B, im i = some B) ∧ cmt (n, k, sz, ce)) := fun z => by
      obtain ⟨⟨B, hB⟩, _⟩ := z
      exact bi_0 h5 (hfi.2 B hB).1
    refine WP.iconst dX8_canMap_19 ?_
    refine WP.zret dX8_canMap_20 rfl (by decide) ?_
    exact ⟨congrArg some (congrArg vI (bi_f hbad).symm), rfl⟩
  · skip
    obtain ⟨B, hB, _⟩ := (im_bit hfi).1 (bi_1 h5)
    refine WP.aload_n dX8_canMap_8 rfl ?_
    refine WP.getR (y := 168) dX8_canMap_9 fl_X8_7 (rfl) (by decide) (rfl) ?_
    refine WP.iconst dX8_canMap_12 ?_
    refine WP.iaload (y := 0) (x := ((n : Nat) : Int)) dX8_canMap_13 (rfl) (by omega) (by omega) (hA.1) ?_
    refine WP.bipush dX8_canMap_14 (by decide) ?_
    refine WP.icmp_le (tgt := 21) dX8_canMap_16 (by decide) (by omega) (by omega) (fun h16 => ?_) (fun h16 => ?_)
    · skip
      refine WP.iconst dX8_canMap_21 ?_
      refine WP.istore_n (lt := [vR 167, vI ((i : Nat) : Int), vI (0 : Int)]) dX8_canMap_22 (by decide) rfl ?_
      have L23 : ∀ (n9 : Nat) (c : Nat) (hc : c ≤ k) (hq : ∀ b, b < c → sz b ≤ 4), k - c < n9 → WP sc0 2 m_X8_canMap 23 [vR 167, vI ((i : Nat) : Int), vI ((c : Nat) : Int)] [] M (Rt (some (vI (bi ((∃ B, im i = some B) ∧ cmt (n, k, sz, ce))))) M) := by
        intro n9
        induction n9 with
        | zero =>
          intro c hc hq hm9
          exact absurd hm9 (Nat.not_lt_zero _)
        | succ n9 ih23 =>
          intro c hc hq hm9
          refine WP.iload_n dX8_canMap_23 rfl ?_
          refine WP.aload_n dX8_canMap_24 rfl ?_
          refine WP.getR (y := 168) dX8_canMap_25 fl_X8_7 (rfl) (by decide) (rfl) ?_
          refine WP.iconst dX8_canMap_28 ?_
          refine WP.iaload (y := 1) (x := ((k : Nat) : Int)) dX8_canMap_29 (rfl) (by omega) (by omega) (hA.2.1) ?_
          refine WP.icmp_ge (tgt := 53) dX8_canMap_30 (by decide) (by omega) (by omega) (fun h30 => ?_) (fun h30 => ?_)
          · skip
            refine WP.iconst dX8_canMap_53 ?_
            refine WP.zret dX8_canMap_54 rfl (by decide) ?_
            exact ⟨congrArg some (congrArg vI (bi_t ⟨⟨B, hB⟩, (show n ≤ 18 by omega), fun b (hb : b < k) => hq b (by omega)⟩).symm), rfl⟩
          · skip
            have w1 := hW.2.2.1 c (by omega)
            refine WP.aload_n dX8_canMap_33 rfl ?_
            refine WP.getR (y := 168) dX8_canMap_34 fl_X8_7 (rfl) (by decide) (rfl) ?_
            refine WP.iconst dX8_canMap_37 ?_
            refine WP.iload_n dX8_canMap_38 rfl ?_
            refine WP.iadd dX8_canMap_39 ?_
            refine WP.iaload (y := (2 + c)) (x := ((sz c : Nat) : Int)) dX8_canMap_40 (rfl) (by omega) (by omega) (hA.2.2.1 _ (by omega)) ?_
            refine WP.iconst dX8_canMap_41 ?_
            refine WP.icmp_le (tgt := 47) dX8_canMap_42 (by decide) (by omega) (by omega) (fun h42 => ?_) (fun h42 => ?_)
            · skip
              refine WP.iinc (lt := [vR 167, vI ((i : Nat) : Int), vI (((c : Nat) : Int) + 1)]) dX8_canMap_47 rfl (by decide) rfl ?_
              refine WP.goto (tgt := 23) dX8_canMap_50 (by decide) ?_
              refine WP.fgt (lt := [vR 167, vI ((i : Nat) : Int), vI (((c + 1) : Nat) : Int)]) ⟨Or.inr rfl, Or.inr rfl, Or.inr (congrArg vI (by omega)), trivial⟩ ?_
              exact ih23 (c + 1) (by omega) (fun b hb => by
                by_cases e : b = c
                · rw [e]; omega
                · exact hq b (by omega)) (by omega)
            · skip
              have hbad : ¬ ((∃ B, im i = some B) ∧ cmt (n, k, sz, ce)) := fun z => by
                have z1 : sz c ≤ 4 := z.2.2 c (show c < k by omega)
                omega
              refine WP.iconst dX8_canMap_45 ?_
              refine WP.zret dX8_canMap_46 rfl (by decide) ?_
              exact ⟨congrArg some (congrArg vI (bi_f hbad).symm), rfl⟩
      refine WP.fgt (lt := [vR 167, vI ((i : Nat) : Int), vI ((0 : Nat) : Int)]) ⟨Or.inr rfl, Or.inr rfl, Or.inr (congrArg vI (by omega)), trivial⟩ ?_
      exact L23 _ (0) (Nat.zero_le _) (fun b hb => absurd hb (Nat.not_lt_zero b)) (Nat.lt_succ_self _)
    · skip
      have hbad : ¬ ((∃ B, im i = some B) ∧ cmt (n, k, sz, ce)) := fun z => by have : n ≤ 18 := z.2.1; omega
      refine WP.iconst dX8_canMap_19 ?_
      refine WP.zret dX8_canMap_20 rfl (by decide) ?_
      exact ⟨congrArg some (congrArg vI (bi_f hbad).symm), rfl⟩
set_option maxHeartbeats 4000000 in
set_option maxRecDepth 20000 in
theorem y_isIso {M : Mem} {n k h len : Nat} {sz tx : Nat → Nat} {ce : Nat → Nat → Nat} {hs : Nat → AR} {im : Nat → Option AR} (hV : InvM M (mkS n k sz ce h hs im len tx)) {x : Int} (hx : -2147483648 ≤ x ∧ x < 2147483648) : CT 40 m_X8_isIsomorphic [vR 167, vI x] M (PM M (o_isIso (mkS n k sz ce h hs im len tx) x)) := by
  have hA : BX (M 168) n k sz ce := hV.1.1
  have hW : Wf n k sz ce := hV.1.2
  have hH : HM M h hs := hV.2.1
  have hIM : IMm M im := hV.2.2.1
  have hS : SM M len tx := hV.2.2.2
  have b1 := hW.1
  have b2 := hW.2.1
  have hh8 := hH.1
  have hl3 := hS.1
  obtain ⟨f, hf4, hf, hfi⟩ := id hIM
  refine CT.ofWP (by decide +kernel) (Nat.le_of_ble_eq_true rfl) ?_
  show WP sc0 40 m_X8_isIsomorphic 0 [vR 167, vI x] [] M (PM M (o_isIso (mkS n k sz ce h hs im len tx) x))
  refine WP.iload_n dX8_isIsomorphic_0 rfl ?_
  refine WP.callSp (as := [vI x]) dX8_isIsomorphic_1 ms_X8_95 rfl (w_isImage (by omega)) rfl (Nat.le_of_ble_eq_true rfl) (by omega) ?_
  refine WP.if_ne (tgt := 9) dX8_isIsomorphic_4 (by decide) (bi_rng) (fun h4 => ?_) (fun h4 => ?_)
  · skip
    have q4 := bi_1 h4
    obtain ⟨i, hi0⟩ : ∃ i : Nat, x.toNat = i := ⟨_, rfl⟩
    have hi1 : x = ((i : Nat) : Int) := by omega
    refine WP.fgt (lt := [vR 167, vI ((i : Nat) : Int)]) ⟨Or.inr rfl, Or.inr (congrArg vI (hi1.symm)), trivial⟩ ?_
    refine WP.aload_n dX8_isIsomorphic_9 rfl ?_
    refine WP.iload_n dX8_isIsomorphic_10 rfl ?_
    refine WP.callVp (as := [vI ((i : Nat) : Int)]) dX8_isIsomorphic_11 mv_X8_220 rfl (rfl) (by decide) rfl rfl (w_canMap (i := i) (im := im) hA hW (by omega) hf hf4 (hfi i (by omega))) rfl (Nat.le_of_ble_eq_true rfl) (by omega) ?_
    refine WP.if_ne (tgt := 20) dX8_isIsomorphic_14 (by decide) (bi_rng) (fun h14 => ?_) (fun h14 => ?_)
    · skip
      obtain ⟨⟨B, hB⟩, hcm⟩ := bi_1 h14
      refine WP.aload_n dX8_isIsomorphic_20 rfl ?_
      refine WP.iload_n dX8_isIsomorphic_21 rfl ?_
      refine WP.callV (as := [vI ((i : Nat) : Int)]) dX8_isIsomorphic_22 mv_X8_223 rfl (rfl) (by decide) rfl rfl (w_maps (i := i) (n2 := B.1) (k2 := B.2.1) (sz' := B.2.2.1) (ce' := B.2.2.2) (by omega) hA ((hfi i (by omega)).2 B hB).2.1 hW ((hfi i (by omega)).2 B hB).2.2 hcm.1 hcm.2) rfl (Nat.le_of_ble_eq_true rfl) (by omega) (fun r9 M1 h9 => ?_)
      obtain ⟨rfl, f1, hx1⟩ := h9
      show WP sc0 40 m_X8_isIsomorphic 25 [vR 167, vI ((i : Nat) : Int)] [vI (bi (∃ w, iso (n, k, sz, ce) B w))] M1 (PM M (o_isIso (mkS n k sz ce h hs im len tx) x))
      refine WP.if_eq (tgt := 32) dX8_isIsomorphic_25 (by decide) (bi_rng) (fun h25 => ?_) (fun h25 => ?_)
      · skip
        have q25 : bi (∃ w, iso (n, k, sz, ce) B w) = 0 := h25
        refine WP.iconst dX8_isIsomorphic_32 ?_
        refine WP.iret dX8_isIsomorphic_33 rfl ?_
        exact PM.cs (by subst hi0; exact (o_isIso_s q4 hB hcm).trans (congrArg (fun z => (z, _)) q25)) hV (fun a i1 _ => f1 a (by omega) (by omega) (by omega)) (fun j _ _ => by rw [f1 167 (by decide) (by decide) (by decide)])
      · skip
        have q25 : bi (∃ w, iso (n, k, sz, ce) B w) = 1 := bi_t (bi_1 h25)
        refine WP.iconst dX8_isIsomorphic_28 ?_
        refine WP.goto (tgt := 33) dX8_isIsomorphic_29 (by decide) ?_
        refine WP.iret dX8_isIsomorphic_33 rfl ?_
        exact PM.cs (by subst hi0; exact (o_isIso_s q4 hB hcm).trans (congrArg (fun z => (z, _)) q25)) hV (fun a i1 _ => f1 a (by omega) (by omega) (by omega)) (fun j _ _ => by rw [f1 167 (by decide) (by decide) (by decide)])
    · skip
      have q14 := bi_0 h14
      refine WP.bipush dX8_isIsomorphic_17 (by decide) ?_
      refine WP.iret dX8_isIsomorphic_19 rfl ?_
      exact PM.same (by subst hi0; exact o_isIso_n q4 q14) hV
  · skip
    have q4 := bi_0 h4
    refine WP.iconst dX8_isIsomorphic_7 ?_
    refine WP.iret dX8_isIsomorphic_8 rfl ?_
    exact PM.same (congrArg (fun z => (z, _)) (cif_f q4)) hV
theorem liso_ex {A B : AR} (hk : A.2.1 ≤ 7) (h : ∃ w, iso A B w) : ∃ w, liso A B w := by
  obtain ⟨m, ⟨w, hw, hm⟩, hmin⟩ := pk_least (fun m => ∃ w, iso A B w ∧ nvb 2048 w A.2.1 = m) (by
    obtain ⟨w, hw⟩ := h
    exact ⟨_, w, hw, rfl⟩)
  refine ⟨w, hw, fun y hy hlt => ?_⟩
  have key : ∀ (x z : Nat → Nat) (n : Nat), (∀ q, q < n → x q < 2048) → lxl x z n → nvb 2048 x n < nvb 2048 z n := fun x z n => by
    induction n with
    | zero => exact fun _ ⟨q, hq, _⟩ => absurd hq (Nat.not_lt_zero q)
    | succ n ih =>
      intro hx ⟨q, hq, h1, h2⟩
      have hxn := hx n (by omega)
      by_cases e : q = n
      · subst e
        rw [nvb, nvb, nvb_cg h2]
        omega
      · have := ih (fun q hq => hx q (by omega)) ⟨q, by omega, h1, h2⟩
        rw [nvb, nvb]
        omega
  have h1 := key y w A.2.1 (fun q hq => by have := (hy.2.2.1 q hq).1; omega) hlt
  exact hmin (nvb 2048 y A.2.1) (by omega) ⟨y, hy, rfl⟩
theorem lxI_b {n k : Nat} {sz : Nat → Nat} {ce : Nat → Nat → Nat} {B : AR} (h : ∃ w, iso (n, k, sz, ce) B w) (c : Nat) (hc : c < k) (hk : k ≤ 7 := by assumption) : lxI (n, k, sz, ce) B c < 2048 := by
  obtain ⟨x, hx⟩ := liso_ex (A := (n, k, sz, ce)) hk h
  have h1 : lxI (n, k, sz, ce) B c / 256 < k := ((lxI_of hx).1.2.2.1 c hc).1
  omega
set_option maxHeartbeats 4000000 in
set_option maxRecDepth 20000 in
theorem y_mapped {M : Mem} {n k h len : Nat} {sz tx : Nat → Nat} {ce : Nat → Nat → Nat} {hs : Nat → AR} {im : Nat → Option AR} (hV : InvM M (mkS n k sz ce h hs im len tx)) {x : Int} (hx : -2147483648 ≤ x ∧ x < 2147483648) {y : Int} (hy : -2147483648 ≤ y ∧ y < 2147483648) {z : Int} (hz : -2147483648 ≤ z ∧ z < 2147483648) : CT 40 m_X8_mapped [vR 167, vI x, vI y, vI z] M (PM M (o_mapped (mkS n k sz ce h hs im len tx) x y z)) := by
  have hA : BX (M 168) n k sz ce := hV.1.1
  have hW : Wf n k sz ce := hV.1.2
  have hH : HM M h hs := hV.2.1
  have hIM : IMm M im := hV.2.2.1
  have hS : SM M len tx := hV.2.2.2
  have b1 := hW.1
  have b2 := hW.2.1
  have hh8 := hH.1
  have hl3 := hS.1
  obtain ⟨f, hf4, hf, hfi⟩ := id hIM
  refine CT.ofWP (by decide +kernel) (Nat.le_of_ble_eq_true rfl) ?_
  show WP sc0 40 m_X8_mapped 0 [vR 167, vI x, vI y, vI z] [] M (PM M (o_mapped (mkS n k sz ce h hs im len tx) x y z))
  refine WP.iload_n dX8_mapped_0 rfl ?_
  refine WP.callSp (as := [vI x]) dX8_mapped_1 ms_X8_95 rfl (w_isImage (by omega)) rfl (Nat.le_of_ble_eq_true rfl) (by omega) ?_
  refine WP.if_eq (tgt := 33) dX8_mapped_4 (by decide) (bi_rng) (fun h4 => ?_) (fun h4 => ?_)
  · skip
    have hbad : ¬ (hI x ∧ hC (mkS n k sz ce h hs im len tx) y ∧ -1 ≤ z ∧ z < ((((mkS n k sz ce h hs im len tx)).1.2.2.1 y.toNat : Nat) : Int)) := fun q9 => bi_0 h4 q9.1
    refine WP.iconst dX8_mapped_33 ?_
    refine WP.iret dX8_mapped_34 rfl ?_
    exact PM.same (o_mapped_0 hbad) hV
  · skip
    have q4 := bi_1 h4
    obtain ⟨i, hi0⟩ : ∃ i : Nat, x.toNat = i := ⟨_, rfl⟩
    have hi1 : x = ((i : Nat) : Int) := by omega
    refine WP.fgt (lt := [vR 167, vI ((i : Nat) : Int), vI y, vI z]) ⟨Or.inr rfl, Or.inr (congrArg vI (hi1.symm)), Or.inr rfl, Or.inr rfl, trivial⟩ ?_
    refine WP.aload_n dX8_mapped_7 rfl ?_
    refine WP.iload_n dX8_mapped_8 rfl ?_
    refine WP.callVp (as := [vI y]) dX8_mapped_9 mv_X8_66 rfl (rfl) (by decide) rfl rfl (w_isColumn hA hW (by omega)) rfl (Nat.le_of_ble_eq_true rfl) (by omega) ?_
    refine WP.if_eq (tgt := 33) dX8_mapped_12 (by decide) (bi_rng) (fun h12 => ?_) (fun h12 => ?_)
    · skip
      have hbad : ¬ (hI x ∧ hC (mkS n k sz ce h hs im len tx) y ∧ -1 ≤ z ∧ z < ((((mkS n k sz ce h hs im len tx)).1.2.2.1 y.toNat : Nat) : Int)) := fun q9 => bi_0 h12 q9.2.1
      refine WP.iconst dX8_mapped_33 ?_
      refine WP.iret dX8_mapped_34 rfl ?_
      exact PM.same (o_mapped_0 hbad) hV
    · skip
      have q12 := bi_1 h12
      obtain ⟨c, hc0⟩ : ∃ c : Nat, y.toNat = c := ⟨_, rfl⟩
      have hc1 : y = ((c : Nat) : Int) := by omega
      refine WP.fgt (lt := [vR 167, vI ((i : Nat) : Int), vI ((c : Nat) : Int), vI z]) ⟨Or.inr rfl, Or.inr rfl, Or.inr (congrArg vI (hc1.symm)), Or.inr rfl, trivial⟩ ?_
      have w1 := hW.2.2.1 c (by omega)
      refine WP.iload_n dX8_mapped_15 rfl ?_
      refine WP.iconst dX8_mapped_16 ?_
      refine WP.aload_n dX8_mapped_17 rfl ?_
      refine WP.getR (y := 168) dX8_mapped_18 fl_X8_7 (rfl) (by decide) (rfl) ?_
      refine WP.iconst dX8_mapped_21 ?_
      refine WP.iload_n dX8_mapped_22 rfl ?_
      refine WP.iadd dX8_mapped_23 ?_
      refine WP.iaload (y := (2 + c)) (x := ((sz c : Nat) : Int)) dX8_mapped_24 (rfl) (by omega) (by omega) (hA.2.2.1 _ (by omega)) ?_
      refine WP.iconst dX8_mapped_25 ?_
      refine WP.isub dX8_mapped_26 ?_
      refine WP.callSp (as := [vI z, vI ((-1) : Int), vI (((sz c : Nat) : Int) - (1 : Int))]) dX8_mapped_27 ms_X8_43 rfl (w_isIn (by omega) (by omega) (by omega)) rfl (Nat.le_of_ble_eq_true rfl) (by omega) ?_
      refine WP.if_ne (tgt := 35) dX8_mapped_30 (by decide) (bi_rng) (fun h30 => ?_) (fun h30 => ?_)
      · skip
        have q30 := bi_1 h30
        have hok : hI x ∧ hC (mkS n k sz ce h hs im len tx) y ∧ -1 ≤ z ∧ z < ((((mkS n k sz ce h hs im len tx)).1.2.2.1 y.toNat : Nat) : Int) := ⟨q4, q12, by omega, (show z < ((sz y.toNat : Nat) : Int) by rw [hc0]; omega)⟩
        refine WP.aload_n dX8_mapped_35 rfl ?_
        refine WP.iload_n dX8_mapped_36 rfl ?_
        refine WP.callVp (as := [vI ((i : Nat) : Int)]) dX8_mapped_37 mv_X8_220 rfl (rfl) (by decide) rfl rfl (w_canMap (i := i) (im := im) hA hW (by omega) hf hf4 (hfi i (by omega))) rfl (Nat.le_of_ble_eq_true rfl) (by omega) ?_
        refine WP.if_ne (tgt := 46) dX8_mapped_40 (by decide) (bi_rng) (fun h40 => ?_) (fun h40 => ?_)
        · skip
          obtain ⟨⟨B, hB⟩, hcm⟩ := bi_1 h40
          have w4 : sz c ≤ 4 := hcm.2 c (show c < k by omega)
          refine WP.aload_n dX8_mapped_46 rfl ?_
          refine WP.iload_n dX8_mapped_47 rfl ?_
          refine WP.callV (as := [vI ((i : Nat) : Int)]) dX8_mapped_48 mv_X8_223 rfl (rfl) (by decide) rfl rfl (w_maps (i := i) (n2 := B.1) (k2 := B.2.1) (sz' := B.2.2.1) (ce' := B.2.2.2) (by omega) hA ((hfi i (by omega)).2 B hB).2.1 hW ((hfi i (by omega)).2 B hB).2.2 hcm.1 hcm.2) rfl (Nat.le_of_ble_eq_true rfl) (by omega) (fun r9 M1 h9 => ?_)
          obtain ⟨rfl, f1, hx1⟩ := h9
          show WP sc0 40 m_X8_mapped 51 [vR 167, vI ((i : Nat) : Int), vI ((c : Nat) : Int), vI z] [vI (bi (∃ w, iso (n, k, sz, ce) B w))] M1 (PM M (o_mapped (mkS n k sz ce h hs im len tx) x y z))
          refine WP.if_ne (tgt := 57) dX8_mapped_51 (by decide) (bi_rng) (fun h51 => ?_) (fun h51 => ?_)
          · skip
            have q51 := bi_1 h51
            have hxc := hx1 q51 c (by omega)
            have hlw := lxI_b q51 c (show c < k by omega)
            refine WP.iload_n dX8_mapped_57 rfl ?_
            refine WP.iconst dX8_mapped_58 ?_
            refine WP.icmp_ne (tgt := 75) dX8_mapped_59 (by decide) (by omega) (by omega) (fun h59 => ?_) (fun h59 => ?_)
            · skip
              obtain ⟨v, hv0⟩ : ∃ v : Nat, z.toNat = v := ⟨_, rfl⟩
              have hv1 : z = ((v : Nat) : Int) := by omega
              refine WP.fgt (lt := [vR 167, vI ((i : Nat) : Int), vI ((c : Nat) : Int), vI ((v : Nat) : Int)]) ⟨Or.inr rfl, Or.inr rfl, Or.inr rfl, Or.inr (congrArg vI (hv1.symm)), trivial⟩ ?_
              refine WP.aload_n dX8_mapped_75 rfl ?_
              refine WP.getR (y := 176) dX8_mapped_76 fl_X8_34 (rfl) (by decide) (rfl) ?_
              refine WP.iload_n dX8_mapped_79 rfl ?_
              refine WP.iaload (y := c) (x := ((lxI (n, k, sz, ce) B c : Nat) : Int)) dX8_mapped_80 (rfl) (by omega) (by omega) (hxc) ?_
              refine WP.sipush dX8_mapped_81 (by decide) ?_
              refine WP.irem dX8_mapped_84 (by omega) (by omega) ?_
              refine WP.eqs (st' := [vI ((lxI (n, k, sz, ce) B c % 256 : Nat) : Int)]) rfl (lc (congrArg vI (by omega)) rfl) ?_
              refine WP.iload_n dX8_mapped_85 rfl ?_
              refine WP.callSp (as := [vI ((lxI (n, k, sz, ce) B c % 256 : Nat) : Int), vI ((v : Nat) : Int)]) dX8_mapped_86 ms_X8_187 rfl (w_im (w := lxI (n, k, sz, ce) B c) (v := v) (by omega)) rfl (Nat.le_of_ble_eq_true rfl) (by omega) ?_
              refine WP.iret dX8_mapped_89 rfl ?_
              exact PM.cs (by subst hi0; subst hc0; subst hv0; exact (o_mapped_s hok hB hcm).trans (congrArg (fun z => (z, _)) ((cif_t q51).trans ((if_neg (h59)))))) hV (fun a i1 _ => f1 a (by omega) (by omega) (by omega)) (fun j _ _ => by rw [f1 167 (by decide) (by decide) (by decide)])
            · skip
              refine WP.aload_n dX8_mapped_62 rfl ?_
              refine WP.getR (y := 176) dX8_mapped_63 fl_X8_34 (rfl) (by decide) (rfl) ?_
              refine WP.iload_n dX8_mapped_66 rfl ?_
              refine WP.iaload (y := c) (x := ((lxI (n, k, sz, ce) B c : Nat) : Int)) dX8_mapped_67 (rfl) (by omega) (by omega) (hxc) ?_
              refine WP.sipush dX8_mapped_68 (by decide) ?_
              refine WP.idiv dX8_mapped_71 (by omega) (by omega) ?_
              refine WP.eqs (st' := [vI ((lxI (n, k, sz, ce) B c / 256 : Nat) : Int)]) rfl (lc (congrArg vI (by omega)) rfl) ?_
              refine WP.goto (tgt := 89) dX8_mapped_72 (by decide) ?_
              refine WP.iret dX8_mapped_89 rfl ?_
              exact PM.cs (by subst hi0; subst hc0; exact (o_mapped_s hok hB hcm).trans (congrArg (fun z => (z, _)) ((cif_t q51).trans (if_pos h59)))) hV (fun a i1 _ => f1 a (by omega) (by omega) (by omega)) (fun j _ _ => by rw [f1 167 (by decide) (by decide) (by decide)])
          · skip
            have q51 := bi_0 h51
            refine WP.bipush dX8_mapped_54 (by decide) ?_
            refine WP.iret dX8_mapped_56 rfl ?_
            exact PM.cs (by subst hi0; subst hc0; exact (o_mapped_s hok hB hcm).trans (congrArg (fun z => (z, _)) (cif_f q51))) hV (fun a i1 _ => f1 a (by omega) (by omega) (by omega)) (fun j _ _ => by rw [f1 167 (by decide) (by decide) (by decide)])
        · skip
          have q40 := bi_0 h40
          refine WP.bipush dX8_mapped_43 (by decide) ?_
          refine WP.iret dX8_mapped_45 rfl ?_
          exact PM.same (by subst hi0; exact o_mapped_n hok q40) hV
      · skip
        have hbad : ¬ (hI x ∧ hC (mkS n k sz ce h hs im len tx) y ∧ -1 ≤ z ∧ z < ((((mkS n k sz ce h hs im len tx)).1.2.2.1 y.toNat : Nat) : Int)) := fun q9 => by
          have q8 : z < ((sz y.toNat : Nat) : Int) := q9.2.2.2
          rw [hc0] at q8
          exact bi_0 h30 (by have := q9.2.2.1; omega)
        refine WP.iconst dX8_mapped_33 ?_
        refine WP.iret dX8_mapped_34 rfl ?_
        exact PM.same (o_mapped_0 hbad) hV
