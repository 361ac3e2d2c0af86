set_option maxHeartbeats 4000000 in
set_option maxRecDepth 20000 in
theorem c_C_strength {M : Mem} {t n k : Nat} {sz : Nat → Nat} {ce : Nat → Nat → Nat} (ht : isT t) (hT : TX M t n k sz ce) (hW : Wf n k sz ce) : CT 5 m_X0_strengthOf [vR 49, vR t] M (fun z M' => z = some (vI (stF (fun b => okT n k sz ce b aT) k : Nat)) ∧ ∀ a, a ≠ 50 → M' a = M a) := by
  have b1 := hW.1
  have b2 := hW.2.1
  have ht2 := ht.2
  have hp128 := pw7 b2
  have hm : 2 ^ n - 1 < 2 ^ 36 := by have : 2 ^ n ≤ 2 ^ 36 := Nat.pow_le_pow_right (by decide) b1; omega
  have hb : lq (Int64.ofNat (2 ^ n - 1)) = ((cn (mk (2 ^ n - 1)) n : Nat) : Int) := by rw [cn_all]; exact lq_all n (by omega)
  refine CT.ofWP (by decide +kernel) (Nat.le_of_ble_eq_true rfl) ?_
  show WP sc0 5 m_X0_strengthOf 0 [vR 49, vR t, vU] [] M (fun z M' => z = some (vI (stF (fun b => okT n k sz ce b aT) k : Nat)) ∧ ∀ a, a ≠ 50 → M' a = M a)
  refine WP.iconst dX0_strengthOf_0 ?_
  refine WP.istore_n (lt := [vR 49, vR t, vI (0 : Int)]) dX0_strengthOf_1 (by decide) rfl ?_
  have L2 : ∀ (n9 : Nat) (s : Nat) (M1 : Mem) (hs : s ≤ k) (hF : ∀ a, a ≠ 50 → M1 a = M a) (ho : s = 0 ∨ okT n k sz ce s aT), k - s < n9 → WP sc0 5 m_X0_strengthOf 2 [vR 49, vR t, vI ((s : Nat) : Int)] [] M1 (fun z M' => z = some (vI (stF (fun b => okT n k sz ce b aT) k : Nat)) ∧ ∀ a, a ≠ 50 → M' a = M a) := by
    intro n9
    induction n9 with
    | zero =>
      intro s M1 hs hF ho hm9
      exact absurd hm9 (Nat.not_lt_zero _)
    | succ n9 ih2 =>
      intro s M1 hs hF ho hm9
      have hT1 : TX M1 t n k sz ce := hT.fr (hF t (by omega)) (hF (t + 1) (by omega)) (hF (t + 2) (by omega))
      refine WP.iload_n dX0_strengthOf_2 rfl ?_
      refine WP.aload_n dX0_strengthOf_3 rfl ?_
      refine WP.getI (x := ((k : Nat) : Int)) dX0_strengthOf_4 fl_X0_42 (shT0 ht) (by decide) (hT1.2.1) ?_
      refine WP.icmp_ge (tgt := 33) dX0_strengthOf_7 (by decide) (by omega) (by omega) (fun h7 => ?_) (fun h7 => ?_)
      · skip
        refine WP.iload_n dX0_strengthOf_33 rfl ?_
        refine WP.iret dX0_strengthOf_34 rfl ?_
        exact ⟨congrArg some (congrArg vI (congrArg Int.ofNat (stF_eq (fun q hq => okT_less hW hq) hs ho (Or.inl (by omega))).symm)), hF⟩
      · skip
        refine WP.aload_n dX0_strengthOf_10 rfl ?_
        refine WP.aload_n dX0_strengthOf_11 rfl ?_
        refine WP.iload_n dX0_strengthOf_12 rfl ?_
        refine WP.iconst dX0_strengthOf_13 ?_
        refine WP.iadd dX0_strengthOf_14 ?_
        refine WP.aload_n dX0_strengthOf_15 rfl ?_
        refine WP.callVp (as := []) dX0_strengthOf_16 mv_X0_53 rfl (shT0 ht) (by decide) rfl rfl (c_T_allRows ht hT1 hW) rfl (Nat.le_of_ble_eq_true rfl) (by omega) ?_
        refine WP.eqs (st' := [vL (Int64.ofNat (2 ^ n - 1)), vI ((s + 1 : Nat) : Int), vR t, vR 49]) rfl (lc (rfl) (lc (congrArg vI (by omega)) (lc (rfl) (rfl)))) ?_
        refine WP.callV (as := [vR t, vI ((s + 1 : Nat) : Int), vL (Int64.ofNat (2 ^ n - 1))]) dX0_strengthOf_19 mv_X0_57 rfl (rfl) (by decide) rfl rfl (c_C_first (b := s + 1) (m := 2 ^ n - 1) ht hT1 hW (by omega) hm hb) rfl (Nat.le_of_ble_eq_true rfl) (by omega) (fun r9 M2 h9 => ?_)
        obtain ⟨rfl, e1⟩ := h9
        have hfr := fub_rng (n := n) (sz := sz) (ce := ce) (t := s + 1) (P := mk (2 ^ n - 1)) b2
        have hfc : okT n k sz ce (s + 1) (mk (2 ^ n - 1)) ↔ okT n k sz ce (s + 1) aT := okT_cg (fun r hr => mk_aT hr)
        show WP sc0 5 m_X0_strengthOf 22 [vR 49, vR t, vI ((s : Nat) : Int)] [vI (fub n k sz ce (s + 1) (mk (2 ^ n - 1)))] M2 (fun z M' => z = some (vI (stF (fun b => okT n k sz ce b aT) k : Nat)) ∧ ∀ a, a ≠ 50 → M' a = M a)
        refine WP.bipush dX0_strengthOf_22 (by decide) ?_
        refine WP.icmp_ne (tgt := 33) dX0_strengthOf_24 (by decide) (by omega) (by omega) (fun h24 => ?_) (fun h24 => ?_)
        · skip
          refine WP.iload_n dX0_strengthOf_33 rfl ?_
          refine WP.iret dX0_strengthOf_34 rfl ?_
          exact ⟨congrArg some (congrArg vI (congrArg Int.ofNat (stF_eq (fun q hq => okT_less hW hq) hs ho (Or.inr (fun z => h24 (fub_9.mpr (hfc.mpr z))))).symm)), fun a ha => (e1 a ha).trans (hF a ha)⟩
        · skip
          refine WP.iinc (lt := [vR 49, vR t, vI (((s : Nat) : Int) + 1)]) dX0_strengthOf_27 rfl (by decide) rfl ?_
          refine WP.goto (tgt := 2) dX0_strengthOf_30 (by decide) ?_
          refine WP.fgt (lt := [vR 49, vR t, vI (((s + 1) : Nat) : Int)]) ⟨Or.inr rfl, Or.inr rfl, Or.inr (congrArg vI (by omega)), trivial⟩ ?_
          exact ih2 (s + 1) (M2) (by omega) (fun a ha => (e1 a ha).trans (hF a ha)) (Or.inr (hfc.mp (fub_9.mp (by omega)))) (by omega)
  refine WP.fgt (lt := [vR 49, vR t, vI ((0 : Nat) : Int)]) ⟨Or.inr rfl, Or.inr rfl, Or.inr (congrArg vI (by omega)), trivial⟩ ?_
  exact L2 _ (0) (M) (Nat.zero_le _) (fun _ _ => rfl) (Or.inl rfl) (Nat.lt_succ_self _)
theorem cn_last {p : Nat → Prop} {r : Nat} (h : p r) : 0 < cn p (r + 1) := by rw [cn_t h]; omega
def upN (f : Nat → Nat) (i x : Nat) : Nat → Nat := fun j => if j = i then x else f j
theorem upN_s {f : Nat → Nat} {i x : Nat} : upN f i x i = x := if_pos rfl
theorem upN_n {f : Nat → Nat} {i x j : Nat} (h : j ≠ i) : upN f i x j = f j := if_neg h
set_option maxHeartbeats 4000000 in
set_option maxRecDepth 20000 in
theorem c_C_tallyO {M : Mem} {t n k : Nat} {sz : Nat → Nat} {ce : Nat → Nat → Nat} {set : Nat} (ht : isT t) (hT : TX M t n k sz ce) (hW : Wf n k sz ce) (hs : set < 2 ^ k) : CT 3 m_X0_tallyOccurring [vR 49, vR t, vI ((set : Nat) : Int)] M (fun z M' => ∃ u : Nat, z = some (vI (u : Nat)) ∧ u ≤ 36 ∧ (∀ a, a ≠ 50 → a ≠ 51 → M' a = M a) ∧ ∃ g : Nat → Nat, (∀ i, i < u → M' 50 i = (g i : Int)) ∧ (∀ i, i < u → ∃ v, v < tps sz set k ∧ g i = ctA n k sz ce set v) ∧ (∀ v, v < tps sz set k → 0 < ctA n k sz ce set v → ∃ i, i < u ∧ g i = ctA n k sz ce set v)) := by
  have b1 := hW.1
  have b2 := hW.2.1
  have ht2 := ht.2
  have hp128 := pw7 b2
  refine CT.ofWP (by decide +kernel) (Nat.le_of_ble_eq_true rfl) ?_
  show WP sc0 3 m_X0_tallyOccurring 0 [vR 49, vR t, vI ((set : Nat) : Int), vU, vU, vU, vU] [] M (fun z M' => ∃ u : Nat, z = some (vI (u : Nat)) ∧ u ≤ 36 ∧ (∀ a, a ≠ 50 → a ≠ 51 → M' a = M a) ∧ ∃ g : Nat → Nat, (∀ i, i < u → M' 50 i = (g i : Int)) ∧ (∀ i, i < u → ∃ v, v < tps sz set k ∧ g i = ctA n k sz ce set v) ∧ (∀ v, v < tps sz set k → 0 < ctA n k sz ce set v → ∃ i, i < u ∧ g i = ctA n k sz ce set v))
  refine WP.iconst dX0_tallyOccurring_0 ?_
  refine WP.istore_n (lt := [vR 49, vR t, vI ((set : Nat) : Int), vI (0 : Int), vU, vU, vU]) dX0_tallyOccurring_1 (by decide) rfl ?_
  refine WP.iconst dX0_tallyOccurring_2 ?_
  refine WP.istore (lt := [vR 49, vR t, vI ((set : Nat) : Int), vI (0 : Int), vI (0 : Int), vU, vU]) dX0_tallyOccurring_3 (by decide) rfl ?_
  have L5 : ∀ (n9 : Nat) (r u : Nat) (f : Nat → Nat) (M1 : Mem) (hr : r ≤ n) (hu : u ≤ r) (hF : ∀ a, a ≠ 50 → a ≠ 51 → M1 a = M a) (hf : ∀ i, i < u → f i < tps sz set k ∧ M1 51 i = (f i : Int) ∧ M1 50 i = (tc sz ce set k aT (f i) r : Int)) (hi : ∀ i j, i < u → j < u → f i = f j → i = j) (hc : ∀ q, q < r → ∃ i, i < u ∧ f i = tpo sz (ce q) set k), n - r < n9 → WP sc0 3 m_X0_tallyOccurring 5 [vR 49, vR t, vI ((set : Nat) : Int), vI ((u : Nat) : Int), vI ((r : Nat) : Int), vU, vU] [] M1 (fun z M' => ∃ u : Nat, z = some (vI (u : Nat)) ∧ u ≤ 36 ∧ (∀ a, a ≠ 50 → a ≠ 51 → M' a = M a) ∧ ∃ g : Nat → Nat, (∀ i, i < u → M' 50 i = (g i : Int)) ∧ (∀ i, i < u → ∃ v, v < tps sz set k ∧ g i = ctA n k sz ce set v) ∧ (∀ v, v < tps sz set k → 0 < ctA n k sz ce set v → ∃ i, i < u ∧ g i = ctA n k sz ce set v)) := by
    intro n9
    induction n9 with
    | zero =>
      intro r u f M1 hr hu hF hf hi hc hm9
      exact absurd hm9 (Nat.not_lt_zero _)
    | succ n9 ih5 =>
      intro r u f M1 hr hu hF hf hi hc hm9
      have hT1 : TX M1 t n k sz ce := hT.fr (hF t (by omega) (by omega)) (hF (t + 1) (by omega) (by omega)) (hF (t + 2) (by omega) (by omega))
      refine WP.iload dX0_tallyOccurring_5 rfl ?_
      refine WP.aload_n dX0_tallyOccurring_7 rfl ?_
      refine WP.getI (x := ((n : Nat) : Int)) dX0_tallyOccurring_8 fl_X0_34 (shT0 ht) (by decide) (hT1.1) ?_
      refine WP.icmp_ge (tgt := 93) dX0_tallyOccurring_11 (by decide) (by omega) (by omega) (fun h11 => ?_) (fun h11 => ?_)
      · skip
        refine WP.iload_n dX0_tallyOccurring_93 rfl ?_
        refine WP.iret dX0_tallyOccurring_94 rfl ?_
        refine ⟨u, rfl, by omega, hF, fun i => tc sz ce set k aT (f i) r, fun i hi2 => (hf i hi2).2.2, fun i hi2 => ⟨f i, (hf i hi2).1, by rw [show r = n by omega]⟩, fun v hv hp => ?_⟩
        obtain ⟨q, hq, hq2⟩ := cn_pos.mp hp
        obtain ⟨i, hi2, hi3⟩ := hc q (by omega)
        exact ⟨i, hi2, by dsimp only; rw [hi3, hq2.2, show r = n by omega]⟩
      · skip
        obtain ⟨x, hx⟩ : ∃ x, tpo sz (ce r) set k = x := ⟨_, rfl⟩
        have hxl : x < tps sz set k := hx ▸ tpo_lt (fun c hc => hW.2.2.2 r (by omega) c hc)
        refine WP.aload_n dX0_tallyOccurring_14 rfl ?_
        refine WP.iload dX0_tallyOccurring_15 rfl ?_
        refine WP.iload_n dX0_tallyOccurring_17 rfl ?_
        refine WP.callVp (as := [vI ((r : Nat) : Int), vI ((set : Nat) : Int)]) dX0_tallyOccurring_18 mv_X0_38 rfl (shT0 ht) (by decide) rfl rfl (hx ▸ c_T_tupleOf (r := r) (set := set) ht hT1 hW (by omega) (by omega)) rfl (Nat.le_of_ble_eq_true rfl) (by omega) ?_
        refine WP.istore (lt := [vR 49, vR t, vI ((set : Nat) : Int), vI ((u : Nat) : Int), vI ((r : Nat) : Int), vI ((x : Nat) : Int), vU]) dX0_tallyOccurring_21 (by decide) rfl ?_
        refine WP.iconst dX0_tallyOccurring_23 ?_
        refine WP.istore (lt := [vR 49, vR t, vI ((set : Nat) : Int), vI ((u : Nat) : Int), vI ((r : Nat) : Int), vI ((x : Nat) : Int), vI (0 : Int)]) dX0_tallyOccurring_24 (by decide) rfl ?_
        have L26 : ∀ (n9 : Nat) (i : Nat) (hiu : i ≤ u) (hn : ∀ j, j < i → f j ≠ x), u - i < n9 → WP sc0 3 m_X0_tallyOccurring 26 [vR 49, vR t, vI ((set : Nat) : Int), vI ((u : Nat) : Int), vI ((r : Nat) : Int), vI ((x : Nat) : Int), vI ((i : Nat) : Int)] [] M1 (fun z M' => ∃ u : Nat, z = some (vI (u : Nat)) ∧ u ≤ 36 ∧ (∀ a, a ≠ 50 → a ≠ 51 → M' a = M a) ∧ ∃ g : Nat → Nat, (∀ i, i < u → M' 50 i = (g i : Int)) ∧ (∀ i, i < u → ∃ v, v < tps sz set k ∧ g i = ctA n k sz ce set v) ∧ (∀ v, v < tps sz set k → 0 < ctA n k sz ce set v → ∃ i, i < u ∧ g i = ctA n k sz ce set v)) := by
          intro n9
          induction n9 with
          | zero =>
            intro i hiu hn hm9
            exact absurd hm9 (Nat.not_lt_zero _)
          | succ n9 ih26 =>
            intro i hiu hn hm9
            refine WP.iload dX0_tallyOccurring_26 rfl ?_
            refine WP.iload_n dX0_tallyOccurring_28 rfl ?_
            refine WP.icmp_ge (tgt := 50) dX0_tallyOccurring_29 (by decide) (by omega) (by omega) (fun h29 => ?_) (fun h29 => ?_)
            · skip
              have hiu2 : i = u := by omega
              have hfx : i = u ∨ f i = x := Or.inl hiu2
              refine WP.iload dX0_tallyOccurring_50 rfl ?_
              refine WP.iload_n dX0_tallyOccurring_52 rfl ?_
              refine WP.icmp_ne (tgt := 76) dX0_tallyOccurring_53 (by decide) (by omega) (by omega) (fun h53 => ?_) (fun h53 => ?_)
              · skip
                have hfe : i < u ∧ f i = x := ⟨by omega, hfx.resolve_left (fun z => h53 (by rw [z]))⟩
                refine WP.aload_n dX0_tallyOccurring_76 rfl ?_
                refine WP.getR (y := 50) dX0_tallyOccurring_77 fl_X0_9 (rfl) (by decide) (rfl) ?_
                refine WP.iload dX0_tallyOccurring_80 rfl ?_
                refine WP.dup2 dX0_tallyOccurring_82 rfl rfl ?_
                refine WP.iaload (y := i) (x := ((tc sz ce set k aT x r : Nat) : Int)) dX0_tallyOccurring_83 (rfl) (by omega) (by omega) (by rw [(hf i hfe.1).2.2, hfe.2]) ?_
                refine WP.iconst dX0_tallyOccurring_84 ?_
                refine WP.iadd dX0_tallyOccurring_85 ?_
                refine WP.iastore (y := i) dX0_tallyOccurring_86 (rfl) (by omega) (by omega) rfl ?_
                obtain ⟨M4, hM4⟩ : ∃ z, z = mset M1 50 i (((tc sz ce set k aT x r : Nat) : Int) + 1) := ⟨_, rfl⟩
                refine WP.eqM hM4.symm ?_
                have htt := tc_t (sz := sz) (ce := ce) (set := set) (k := k) (P := aT) (r := r) (v := x) trivial hx
                have g1 : ∀ a, a ≠ 50 → a ≠ 51 → M4 a = M a := fun a h1 h2 => by rw [hM4, mset_o a h1]; exact hF a h1 h2
                have g2 : ∀ j, j < u → f j < tps sz set k ∧ M4 51 j = (f j : Int) ∧ M4 50 j = (tc sz ce set k aT (f j) (r + 1) : Int) := fun j hj => by
                  refine ⟨(hf j hj).1, by rw [hM4, mset_o 51 (by decide)]; exact (hf j hj).2.1, ?_⟩
                  by_cases e : j = i
                  · rw [e, hM4, mset_s, hfe.2, htt]; omega
                  · rw [hM4, mset_n (Or.inr e), tc_f (fun z => e (hi j i hj hfe.1 ((z.2.symm.trans hx).trans hfe.2.symm)))]
                    exact (hf j hj).2.2
                have g4 : ∀ q, q < r + 1 → ∃ j, j < u ∧ f j = tpo sz (ce q) set k := fun q hq => by
                  by_cases e : q = r
                  · exact ⟨i, hfe.1, by rw [e, hx]; exact hfe.2⟩
                  · exact hc q (by omega)
                refine WP.iinc (lt := [vR 49, vR t, vI ((set : Nat) : Int), vI ((u : Nat) : Int), vI (((r : Nat) : Int) + 1), vI ((x : Nat) : Int), vI ((i : Nat) : Int)]) dX0_tallyOccurring_87 rfl (by decide) rfl ?_
                refine WP.goto (tgt := 5) dX0_tallyOccurring_90 (by decide) ?_
                refine WP.fgt (lt := [vR 49, vR t, vI ((set : Nat) : Int), vI ((u : Nat) : Int), vI (((r + 1) : Nat) : Int), vU, vU]) ⟨Or.inr rfl, Or.inr rfl, Or.inr rfl, Or.inr rfl, Or.inr (congrArg vI (by omega)), Or.inl rfl, Or.inl rfl, trivial⟩ ?_
                exact ih5 (r + 1) (u) (f) (M4) (by omega) (by omega) (g1) (g2) (hi) (g4) (by omega)
              · skip
                have hiu3 : i = u := by omega
                rw [← hiu3] at hf hi hc hu
                have hiu4 : (u : Int) = (i : Int) := by omega
                refine WP.aload_n dX0_tallyOccurring_56 rfl ?_
                refine WP.getR (y := 51) dX0_tallyOccurring_57 fl_X0_15 (rfl) (by decide) (rfl) ?_
                refine WP.iload dX0_tallyOccurring_60 rfl ?_
                refine WP.iload dX0_tallyOccurring_62 rfl ?_
                refine WP.iastore (y := i) dX0_tallyOccurring_64 (rfl) (by omega) (by omega) rfl ?_
                obtain ⟨M2, hM2⟩ : ∃ z, z = mset M1 51 i ((x : Nat) : Int) := ⟨_, rfl⟩
                refine WP.eqM hM2.symm ?_
                refine WP.aload_n dX0_tallyOccurring_65 rfl ?_
                refine WP.getR (y := 50) dX0_tallyOccurring_66 fl_X0_9 (rfl) (by decide) (rfl) ?_
                refine WP.iload dX0_tallyOccurring_69 rfl ?_
                refine WP.iconst dX0_tallyOccurring_71 ?_
                refine WP.iastore (y := i) dX0_tallyOccurring_72 (rfl) (by omega) (by omega) rfl ?_
                obtain ⟨M3, hM3⟩ : ∃ z, z = mset M2 50 i (0 : Int) := ⟨_, rfl⟩
                refine WP.eqM hM3.symm ?_
                have hz0 : tc sz ce set k aT x r = 0 := cn_0.mpr (fun q hq z => by
                  obtain ⟨j, hj, hj2⟩ := hc q hq
                  exact hn j hj (hj2.trans z.2))
                refine WP.iinc (lt := [vR 49, vR t, vI ((set : Nat) : Int), vI (((u : Nat) : Int) + 1), vI ((r : Nat) : Int), vI ((x : Nat) : Int), vI ((i : Nat) : Int)]) dX0_tallyOccurring_73 rfl (by decide) rfl ?_
                refine WP.aload_n dX0_tallyOccurring_76 rfl ?_
                refine WP.getR (y := 50) dX0_tallyOccurring_77 fl_X0_9 (rfl) (by decide) (rfl) ?_
                refine WP.iload dX0_tallyOccurring_80 rfl ?_
                refine WP.dup2 dX0_tallyOccurring_82 rfl rfl ?_
                refine WP.iaload (y := i) (x := ((tc sz ce set k aT x r : Nat) : Int)) dX0_tallyOccurring_83 (rfl) (by omega) (by omega) (by rw [hM3, mset_s, hz0]; rfl) ?_
                refine WP.iconst dX0_tallyOccurring_84 ?_
                refine WP.iadd dX0_tallyOccurring_85 ?_
                refine WP.iastore (y := i) dX0_tallyOccurring_86 (rfl) (by omega) (by omega) rfl ?_
                obtain ⟨M4, hM4⟩ : ∃ z, z = mset M3 50 i (((tc sz ce set k aT x r : Nat) : Int) + 1) := ⟨_, rfl⟩
                refine WP.eqM hM4.symm ?_
                have htt := tc_t (sz := sz) (ce := ce) (set := set) (k := k) (P := aT) (r := r) (v := x) trivial hx
                have g1 : ∀ a, a ≠ 50 → a ≠ 51 → M4 a = M a := fun a h1 h2 => by rw [hM4, mset_o a h1, hM3, mset_o a h1, hM2, mset_o a h2]; exact hF a h1 h2
                have g51 : M4 51 = M2 51 := by rw [hM4, mset_o 51 (by decide), hM3, mset_o 51 (by decide)]
                have g2 : ∀ j, j < u + 1 → upN f i x j < tps sz set k ∧ M4 51 j = (upN f i x j : Int) ∧ M4 50 j = (tc sz ce set k aT (upN f i x j) (r + 1) : Int) := fun j hj => by
                  by_cases e : j = i
                  · rw [e, upN_s, g51]
                    exact ⟨hxl, by rw [hM2]; exact mset_s, by rw [hM4, mset_s, htt]; omega⟩
                  · have hji : j < i := by omega
                    rw [upN_n e, g51]
                    refine ⟨(hf j hji).1, by rw [hM2, mset_n (Or.inr e)]; exact (hf j hji).2.1, ?_⟩
                    rw [hM4, mset_n (Or.inr e), hM3, mset_n (Or.inr e), hM2, mset_o 50 (by decide), tc_f (fun z => hn j hji (z.2.symm.trans hx))]
                    exact (hf j hji).2.2
                have g3 : ∀ a b, a < u + 1 → b < u + 1 → upN f i x a = upN f i x b → a = b := fun a b ha hb hab => by
                  by_cases e1 : a = i
                  · by_cases e2 : b = i
                    · omega
                    · rw [e1, upN_s, upN_n e2] at hab
                      exact absurd hab.symm (hn b (by omega))
                  · by_cases e2 : b = i
                    · rw [e2, upN_s, upN_n e1] at hab
                      exact absurd hab (hn a (by omega))
                    · rw [upN_n e1, upN_n e2] at hab
                      exact hi a b (by omega) (by omega) hab
                have g4 : ∀ q, q < r + 1 → ∃ j, j < u + 1 ∧ upN f i x j = tpo sz (ce q) set k := fun q hq => by
                  by_cases e : q = r
                  · exact ⟨i, by omega, by rw [upN_s, e, hx]⟩
                  · obtain ⟨j, hj, hj2⟩ := hc q (by omega)
                    exact ⟨j, by omega, by rw [upN_n (by omega)]; exact hj2⟩
                refine WP.iinc (lt := [vR 49, vR t, vI ((set : Nat) : Int), vI (((u : Nat) : Int) + 1), vI (((r : Nat) : Int) + 1), vI ((x : Nat) : Int), vI ((i : Nat) : Int)]) dX0_tallyOccurring_87 rfl (by decide) rfl ?_
                refine WP.goto (tgt := 5) dX0_tallyOccurring_90 (by decide) ?_
                refine WP.fgt (lt := [vR 49, vR t, vI ((set : Nat) : Int), vI (((u + 1) : Nat) : Int), vI (((r + 1) : Nat) : Int), vU, vU]) ⟨Or.inr rfl, Or.inr rfl, Or.inr rfl, Or.inr (congrArg vI (by omega)), Or.inr (congrArg vI (by omega)), Or.inl rfl, Or.inl rfl, trivial⟩ ?_
                exact ih5 (r + 1) (u + 1) (upN f i x) (M4) (by omega) (by omega) (g1) (g2) (g3) (g4) (by omega)
            · skip
              refine WP.aload_n dX0_tallyOccurring_32 rfl ?_
              refine WP.getR (y := 51) dX0_tallyOccurring_33 fl_X0_15 (rfl) (by decide) (rfl) ?_
              refine WP.iload dX0_tallyOccurring_36 rfl ?_
              refine WP.iaload (y := i) (x := ((f i : Nat) : Int)) dX0_tallyOccurring_38 (rfl) (by omega) (by omega) ((hf i (by omega)).2.1) ?_
              refine WP.iload dX0_tallyOccurring_39 rfl ?_
              refine WP.icmp_eq (tgt := 50) dX0_tallyOccurring_41 (by decide) (by have := (hf i (by omega)).1; have := tps_b (sz := sz) (set := set) b2 (fun c hc => (hW.2.2.1 c hc).2); omega) (by have := tps_b (sz := sz) (set := set) b2 (fun c hc => (hW.2.2.1 c hc).2); omega) (fun h41 => ?_) (fun h41 => ?_)
              · skip
                have hfx : i = u ∨ f i = x := Or.inr (by omega)
                refine WP.iload dX0_tallyOccurring_50 rfl ?_
                refine WP.iload_n dX0_tallyOccurring_52 rfl ?_
                refine WP.icmp_ne (tgt := 76) dX0_tallyOccurring_53 (by decide) (by omega) (by omega) (fun h53 => ?_) (fun h53 => ?_)
                · skip
                  have hfe : i < u ∧ f i = x := ⟨by omega, hfx.resolve_left (fun z => h53 (by rw [z]))⟩
                  refine WP.aload_n dX0_tallyOccurring_76 rfl ?_
                  refine WP.getR (y := 50) dX0_tallyOccurring_77 fl_X0_9 (rfl) (by decide) (rfl) ?_
                  refine WP.iload dX0_tallyOccurring_80 rfl ?_
                  refine WP.dup2 dX0_tallyOccurring_82 rfl rfl ?_
                  refine WP.iaload (y := i) (x := ((tc sz ce set k aT x r : Nat) : Int)) dX0_tallyOccurring_83 (rfl) (by omega) (by omega) (by rw [(hf i hfe.1).2.2, hfe.2]) ?_
                  refine WP.iconst dX0_tallyOccurring_84 ?_
                  refine WP.iadd dX0_tallyOccurring_85 ?_
                  refine WP.iastore (y := i) dX0_tallyOccurring_86 (rfl) (by omega) (by omega) rfl ?_
                  obtain ⟨M4, hM4⟩ : ∃ z, z = mset M1 50 i (((tc sz ce set k aT x r : Nat) : Int) + 1) := ⟨_, rfl⟩
                  refine WP.eqM hM4.symm ?_
                  have htt := tc_t (sz := sz) (ce := ce) (set := set) (k := k) (P := aT) (r := r) (v := x) trivial hx
                  have g1 : ∀ a, a ≠ 50 → a ≠ 51 → M4 a = M a := fun a h1 h2 => by rw [hM4, mset_o a h1]; exact hF a h1 h2
                  have g2 : ∀ j, j < u → f j < tps sz set k ∧ M4 51 j = (f j : Int) ∧ M4 50 j = (tc sz ce set k aT (f j) (r + 1) : Int) := fun j hj => by
                    refine ⟨(hf j hj).1, by rw [hM4, mset_o 51 (by decide)]; exact (hf j hj).2.1, ?_⟩
                    by_cases e : j = i
                    · rw [e, hM4, mset_s, hfe.2, htt]; omega
                    · rw [hM4, mset_n (Or.inr e), tc_f (fun z => e (hi j i hj hfe.1 ((z.2.symm.trans hx).trans hfe.2.symm)))]
                      exact (hf j hj).2.2
                  have g4 : ∀ q, q < r + 1 → ∃ j, j < u ∧ f j = tpo sz (ce q) set k := fun q hq => by
                    by_cases e : q = r
                    · exact ⟨i, hfe.1, by rw [e, hx]; exact hfe.2⟩
                    · exact hc q (by omega)
                  refine WP.iinc (lt := [vR 49, vR t, vI ((set : Nat) : Int), vI ((u : Nat) : Int), vI (((r : Nat) : Int) + 1), vI ((x : Nat) : Int), vI ((i : Nat) : Int)]) dX0_tallyOccurring_87 rfl (by decide) rfl ?_
                  refine WP.goto (tgt := 5) dX0_tallyOccurring_90 (by decide) ?_
                  refine WP.fgt (lt := [vR 49, vR t, vI ((set : Nat) : Int), vI ((u : Nat) : Int), vI (((r + 1) : Nat) : Int), vU, vU]) ⟨Or.inr rfl, Or.inr rfl, Or.inr rfl, Or.inr rfl, Or.inr (congrArg vI (by omega)), Or.inl rfl, Or.inl rfl, trivial⟩ ?_
                  exact ih5 (r + 1) (u) (f) (M4) (by omega) (by omega) (g1) (g2) (hi) (g4) (by omega)
                · skip
                  have hiu3 : i = u := by omega
                  rw [← hiu3] at hf hi hc hu
                  have hiu4 : (u : Int) = (i : Int) := by omega
                  refine WP.aload_n dX0_tallyOccurring_56 rfl ?_
                  refine WP.getR (y := 51) dX0_tallyOccurring_57 fl_X0_15 (rfl) (by decide) (rfl) ?_
                  refine WP.iload dX0_tallyOccurring_60 rfl ?_
                  refine WP.iload dX0_tallyOccurring_62 rfl ?_
                  refine WP.iastore (y := i) dX0_tallyOccurring_64 (rfl) (by omega) (by omega) rfl ?_
                  obtain ⟨M2, hM2⟩ : ∃ z, z = mset M1 51 i ((x : Nat) : Int) := ⟨_, rfl⟩
                  refine WP.eqM hM2.symm ?_
                  refine WP.aload_n dX0_tallyOccurring_65 rfl ?_
                  refine WP.getR (y := 50) dX0_tallyOccurring_66 fl_X0_9 (rfl) (by decide) (rfl) ?_
                  refine WP.iload dX0_tallyOccurring_69 rfl ?_
                  refine WP.iconst dX0_tallyOccurring_71 ?_
                  refine WP.iastore (y := i) dX0_tallyOccurring_72 (rfl) (by omega) (by omega) rfl ?_
                  obtain ⟨M3, hM3⟩ : ∃ z, z = mset M2 50 i (0 : Int) := ⟨_, rfl⟩
                  refine WP.eqM hM3.symm ?_
                  have hz0 : tc sz ce set k aT x r = 0 := cn_0.mpr (fun q hq z => by
                    obtain ⟨j, hj, hj2⟩ := hc q hq
                    exact hn j hj (hj2.trans z.2))
                  refine WP.iinc (lt := [vR 49, vR t, vI ((set : Nat) : Int), vI (((u : Nat) : Int) + 1), vI ((r : Nat) : Int), vI ((x : Nat) : Int), vI ((i : Nat) : Int)]) dX0_tallyOccurring_73 rfl (by decide) rfl ?_
                  refine WP.aload_n dX0_tallyOccurring_76 rfl ?_
                  refine WP.getR (y := 50) dX0_tallyOccurring_77 fl_X0_9 (rfl) (by decide) (rfl) ?_
                  refine WP.iload dX0_tallyOccurring_80 rfl ?_
                  refine WP.dup2 dX0_tallyOccurring_82 rfl rfl ?_
                  refine WP.iaload (y := i) (x := ((tc sz ce set k aT x r : Nat) : Int)) dX0_tallyOccurring_83 (rfl) (by omega) (by omega) (by rw [hM3, mset_s, hz0]; rfl) ?_
                  refine WP.iconst dX0_tallyOccurring_84 ?_
                  refine WP.iadd dX0_tallyOccurring_85 ?_
                  refine WP.iastore (y := i) dX0_tallyOccurring_86 (rfl) (by omega) (by omega) rfl ?_
                  obtain ⟨M4, hM4⟩ : ∃ z, z = mset M3 50 i (((tc sz ce set k aT x r : Nat) : Int) + 1) := ⟨_, rfl⟩
                  refine WP.eqM hM4.symm ?_
                  have htt := tc_t (sz := sz) (ce := ce) (set := set) (k := k) (P := aT) (r := r) (v := x) trivial hx
                  have g1 : ∀ a, a ≠ 50 → a ≠ 51 → M4 a = M a := fun a h1 h2 => by rw [hM4, mset_o a h1, hM3, mset_o a h1, hM2, mset_o a h2]; exact hF a h1 h2
                  have g51 : M4 51 = M2 51 := by rw [hM4, mset_o 51 (by decide), hM3, mset_o 51 (by decide)]
                  have g2 : ∀ j, j < u + 1 → upN f i x j < tps sz set k ∧ M4 51 j = (upN f i x j : Int) ∧ M4 50 j = (tc sz ce set k aT (upN f i x j) (r + 1) : Int) := fun j hj => by
                    by_cases e : j = i
                    · rw [e, upN_s, g51]
                      exact ⟨hxl, by rw [hM2]; exact mset_s, by rw [hM4, mset_s, htt]; omega⟩
                    · have hji : j < i := by omega
                      rw [upN_n e, g51]
                      refine ⟨(hf j hji).1, by rw [hM2, mset_n (Or.inr e)]; exact (hf j hji).2.1, ?_⟩
                      rw [hM4, mset_n (Or.inr e), hM3, mset_n (Or.inr e), hM2, mset_o 50 (by decide), tc_f (fun z => hn j hji (z.2.symm.trans hx))]
                      exact (hf j hji).2.2
                  have g3 : ∀ a b, a < u + 1 → b < u + 1 → upN f i x a = upN f i x b → a = b := fun a b ha hb hab => by
                    by_cases e1 : a = i
                    · by_cases e2 : b = i
                      · omega
                      · rw [e1, upN_s, upN_n e2] at hab
                        exact absurd hab.symm (hn b (by omega))
                    · by_cases e2 : b = i
                      · rw [e2, upN_s, upN_n e1] at hab
                        exact absurd hab (hn a (by omega))
                      · rw [upN_n e1, upN_n e2] at hab
                        exact hi a b (by omega) (by omega) hab
                  have g4 : ∀ q, q < r + 1 → ∃ j, j < u + 1 ∧ upN f i x j = tpo sz (ce q) set k := fun q hq => by
                    by_cases e : q = r
                    · exact ⟨i, by omega, by rw [upN_s, e, hx]⟩
                    · obtain ⟨j, hj, hj2⟩ := hc q (by omega)
                      exact ⟨j, by omega, by rw [upN_n (by omega)]; exact hj2⟩
                  refine WP.iinc (lt := [vR 49, vR t, vI ((set : Nat) : Int), vI (((u : Nat) : Int) + 1), vI (((r : Nat) : Int) + 1), vI ((x : Nat) : Int), vI ((i : Nat) : Int)]) dX0_tallyOccurring_87 rfl (by decide) rfl ?_
                  refine WP.goto (tgt := 5) dX0_tallyOccurring_90 (by decide) ?_
                  refine WP.fgt (lt := [vR 49, vR t, vI ((set : Nat) : Int), vI (((u + 1) : Nat) : Int), vI (((r + 1) : Nat) : Int), vU, vU]) ⟨Or.inr rfl, Or.inr rfl, Or.inr rfl, Or.inr (congrArg vI (by omega)), Or.inr (congrArg vI (by omega)), Or.inl rfl, Or.inl rfl, trivial⟩ ?_
                  exact ih5 (r + 1) (u + 1) (upN f i x) (M4) (by omega) (by omega) (g1) (g2) (g3) (g4) (by omega)
              · skip
                refine WP.iinc (lt := [vR 49, vR t, vI ((set : Nat) : Int), vI ((u : Nat) : Int), vI ((r : Nat) : Int), vI ((x : Nat) : Int), vI (((i : Nat) : Int) + 1)]) dX0_tallyOccurring_44 rfl (by decide) rfl ?_
                refine WP.goto (tgt := 26) dX0_tallyOccurring_47 (by decide) ?_
                refine WP.fgt (lt := [vR 49, vR t, vI ((set : Nat) : Int), vI ((u : Nat) : Int), vI ((r : Nat) : Int), vI ((x : Nat) : Int), vI (((i + 1) : Nat) : Int)]) ⟨Or.inr rfl, Or.inr rfl, Or.inr rfl, Or.inr rfl, Or.inr rfl, Or.inr rfl, Or.inr (congrArg vI (by omega)), trivial⟩ ?_
                exact ih26 (i + 1) (by omega) (fun j hj => by
                  by_cases e : j = i
                  · rw [e]; omega
                  · exact hn j (by omega)) (by omega)
        refine WP.fgt (lt := [vR 49, vR t, vI ((set : Nat) : Int), vI ((u : Nat) : Int), vI ((r : Nat) : Int), vI ((x : Nat) : Int), vI ((0 : Nat) : Int)]) ⟨Or.inr rfl, Or.inr rfl, Or.inr rfl, Or.inr rfl, Or.inr rfl, Or.inr rfl, Or.inr (congrArg vI (by omega)), trivial⟩ ?_
        exact L26 _ (0) (Nat.zero_le _) (fun j h => absurd h (Nat.not_lt_zero j)) (Nat.lt_succ_self _)
  refine WP.fgt (lt := [vR 49, vR t, vI ((set : Nat) : Int), vI ((0 : Nat) : Int), vI ((0 : Nat) : Int), vU, vU]) ⟨Or.inr rfl, Or.inr rfl, Or.inr rfl, Or.inr (congrArg vI (by omega)), Or.inr (congrArg vI (by omega)), Or.inl rfl, Or.inl rfl, trivial⟩ ?_
  exact L5 _ (0) (0) (fun _ => 0) (M) (Nat.zero_le _) (Nat.zero_le _) (fun _ _ _ => rfl) (fun i h => absurd h (Nat.not_lt_zero i)) (fun i j h => absurd h (Nat.not_lt_zero i)) (fun q h => absurd h (Nat.not_lt_zero q)) (Nat.lt_succ_self _)
set_option maxHeartbeats 4000000 in
set_option maxRecDepth 20000 in
theorem c_C_tally {M : Mem} {t n k : Nat} {sz : Nat → Nat} {ce : Nat → Nat → Nat} {set : Nat} (ht : isT t) (hT : TX M t n k sz ce) (hW : Wf n k sz ce) (hs : set < 2 ^ k) : CT 4 m_X0_tally [vR 49, vR t, vI ((set : Nat) : Int)] M (fun z M' => ∃ u : Nat, z = some (vI (u : Nat)) ∧ u ≤ 36 ∧ (∀ a, a ≠ 50 → a ≠ 51 → M' a = M a) ∧ (∃ g : Nat → Nat, (∀ i, i < u → M' 50 i = (g i : Int)) ∧ (∀ i, i < u → ∃ v, v < tps sz set k ∧ g i = ctA n k sz ce set v) ∧ (∀ v, v < tps sz set k → 0 < ctA n k sz ce set v → ∃ i, i < u ∧ g i = ctA n k sz ce set v)) ∧ (tps sz set k ≤ 36 → tps sz set k = u ∧ ∀ i, i < tps sz set k → M' 50 i = (ctA n k sz ce set i : Int))) := by
  have b1 := hW.1
  have b2 := hW.2.1
  have ht2 := ht.2
  have hp128 := pw7 b2
  obtain ⟨T, hTe⟩ : ∃ T, tps sz set k = T := ⟨_, rfl⟩
  have hTb : tps sz set k ≤ 279936 := tps_b b2 (fun c hc => (hW.2.2.1 c hc).2)
  refine CT.ofWP (by decide +kernel) (Nat.le_of_ble_eq_true rfl) ?_
  show WP sc0 4 m_X0_tally 0 [vR 49, vR t, vI ((set : Nat) : Int), vU, vU] [] M (fun z M' => ∃ u : Nat, z = some (vI (u : Nat)) ∧ u ≤ 36 ∧ (∀ a, a ≠ 50 → a ≠ 51 → M' a = M a) ∧ (∃ g : Nat → Nat, (∀ i, i < u → M' 50 i = (g i : Int)) ∧ (∀ i, i < u → ∃ v, v < tps sz set k ∧ g i = ctA n k sz ce set v) ∧ (∀ v, v < tps sz set k → 0 < ctA n k sz ce set v → ∃ i, i < u ∧ g i = ctA n k sz ce set v)) ∧ (tps sz set k ≤ 36 → tps sz set k = u ∧ ∀ i, i < tps sz set k → M' 50 i = (ctA n k sz ce set i : Int)))
  refine WP.aload_n dX0_tally_0 rfl ?_
  refine WP.iload_n dX0_tally_1 rfl ?_
  refine WP.callVp (as := [vI ((set : Nat) : Int)]) dX0_tally_2 mv_X0_24 rfl (shT0 ht) (by decide) rfl rfl (hTe ▸ c_T_tuples ht hT hW (by omega)) rfl (Nat.le_of_ble_eq_true rfl) (by omega) ?_
  refine WP.istore_n (lt := [vR 49, vR t, vI ((set : Nat) : Int), vI ((T : Nat) : Int), vU]) dX0_tally_5 (by decide) rfl ?_
  refine WP.iload_n dX0_tally_6 rfl ?_
  refine WP.bipush dX0_tally_7 (by decide) ?_
  refine WP.icmp_le (tgt := 19) dX0_tally_9 (by decide) (by omega) (by omega) (fun h9 => ?_) (fun h9 => ?_)
  · skip
    refine WP.aload_n dX0_tally_19 rfl ?_
    refine WP.iload_n dX0_tally_20 rfl ?_
    refine WP.callV (as := [vI ((T : Nat) : Int)]) dX0_tally_21 mv_X0_30 rfl (rfl) (by decide) rfl rfl (c_C_clear (by omega)) rfl (Nat.le_of_ble_eq_true rfl) (by omega) (fun r9 M0 h9 => ?_)
    obtain ⟨rfl, f1, f2⟩ := h9
    show WP sc0 4 m_X0_tally 24 [vR 49, vR t, vI ((set : Nat) : Int), vI ((T : Nat) : Int), vU] [] M0 (fun z M' => ∃ u : Nat, z = some (vI (u : Nat)) ∧ u ≤ 36 ∧ (∀ a, a ≠ 50 → a ≠ 51 → M' a = M a) ∧ (∃ g : Nat → Nat, (∀ i, i < u → M' 50 i = (g i : Int)) ∧ (∀ i, i < u → ∃ v, v < tps sz set k ∧ g i = ctA n k sz ce set v) ∧ (∀ v, v < tps sz set k → 0 < ctA n k sz ce set v → ∃ i, i < u ∧ g i = ctA n k sz ce set v)) ∧ (tps sz set k ≤ 36 → tps sz set k = u ∧ ∀ i, i < tps sz set k → M' 50 i = (ctA n k sz ce set i : Int)))
    refine WP.iconst dX0_tally_24 ?_
    refine WP.istore (lt := [vR 49, vR t, vI ((set : Nat) : Int), vI ((T : Nat) : Int), vI (0 : Int)]) dX0_tally_25 (by decide) rfl ?_
    have L27 : ∀ (n9 : Nat) (r : Nat) (M1 : Mem) (hr : r ≤ n) (hF : ∀ a, a ≠ 50 → M1 a = M a) (hC : ∀ v, v < T → M1 50 v = (tc sz ce set k aT v r : Int)), n - r < n9 → WP sc0 4 m_X0_tally 27 [vR 49, vR t, vI ((set : Nat) : Int), vI ((T : Nat) : Int), vI ((r : Nat) : Int)] [] M1 (fun z M' => ∃ u : Nat, z = some (vI (u : Nat)) ∧ u ≤ 36 ∧ (∀ a, a ≠ 50 → a ≠ 51 → M' a = M a) ∧ (∃ g : Nat → Nat, (∀ i, i < u → M' 50 i = (g i : Int)) ∧ (∀ i, i < u → ∃ v, v < tps sz set k ∧ g i = ctA n k sz ce set v) ∧ (∀ v, v < tps sz set k → 0 < ctA n k sz ce set v → ∃ i, i < u ∧ g i = ctA n k sz ce set v)) ∧ (tps sz set k ≤ 36 → tps sz set k = u ∧ ∀ i, i < tps sz set k → M' 50 i = (ctA n k sz ce set i : Int))) := by
      intro n9
      induction n9 with
      | zero =>
        intro r M1 hr hF hC hm9
        exact absurd hm9 (Nat.not_lt_zero _)
      | succ n9 ih27 =>
        intro r M1 hr hF hC hm9
        have hT1 : TX M1 t n k sz ce := hT.fr (hF t (by omega)) (hF (t + 1) (by omega)) (hF (t + 2) (by omega))
        refine WP.iload dX0_tally_27 rfl ?_
        refine WP.aload_n dX0_tally_29 rfl ?_
        refine WP.getI (x := ((n : Nat) : Int)) dX0_tally_30 fl_X0_34 (shT0 ht) (by decide) (hT1.1) ?_
        refine WP.icmp_ge (tgt := 58) dX0_tally_33 (by decide) (by omega) (by omega) (fun h33 => ?_) (fun h33 => ?_)
        · skip
          refine WP.iload_n dX0_tally_58 rfl ?_
          refine WP.iret dX0_tally_59 rfl ?_
          have hrn : r = n := by omega
          rw [hrn] at hC
          exact ⟨T, rfl, by omega, fun a h1 _ => hF a h1, ⟨ctA n k sz ce set, hC, fun i hi => ⟨i, by omega, rfl⟩, fun v hv _ => ⟨v, by omega, rfl⟩⟩, fun _ => ⟨hTe, fun i hi => hC i (by omega)⟩⟩
        · skip
          have htl : tpo sz (ce r) set k < T := by rw [← hTe]; exact tpo_lt (fun c hc => hW.2.2.2 r (by omega) c hc)
          refine WP.aload_n dX0_tally_36 rfl ?_
          refine WP.getR (y := 50) dX0_tally_37 fl_X0_9 (rfl) (by decide) (rfl) ?_
          refine WP.aload_n dX0_tally_40 rfl ?_
          refine WP.iload dX0_tally_41 rfl ?_
          refine WP.iload_n dX0_tally_43 rfl ?_
          refine WP.callVp (as := [vI ((r : Nat) : Int), vI ((set : Nat) : Int)]) dX0_tally_44 mv_X0_38 rfl (shT0 ht) (by decide) rfl rfl (c_T_tupleOf (r := r) (set := set) ht hT1 hW (by omega) (by omega)) rfl (Nat.le_of_ble_eq_true rfl) (by omega) ?_
          refine WP.dup2 dX0_tally_47 rfl rfl ?_
          refine WP.iaload (y := (tpo sz (ce r) set k)) (x := ((tc sz ce set k aT (tpo sz (ce r) set k) r : Nat) : Int)) dX0_tally_48 (rfl) (by omega) (by omega) (hC _ htl) ?_
          refine WP.iconst dX0_tally_49 ?_
          refine WP.iadd dX0_tally_50 ?_
          refine WP.iastore (y := (tpo sz (ce r) set k)) dX0_tally_51 (rfl) (by omega) (by omega) rfl ?_
          obtain ⟨M2, hM2⟩ : ∃ z, z = mset M1 50 (tpo sz (ce r) set k) (((tc sz ce set k aT (tpo sz (ce r) set k) r : Nat) : Int) + 1) := ⟨_, rfl⟩
          refine WP.eqM hM2.symm ?_
          have g1 : ∀ a, a ≠ 50 → M2 a = M a := fun a ha => by rw [hM2, mset_o a ha]; exact hF a ha
          have g2 : ∀ v, v < T → M2 50 v = (tc sz ce set k aT v (r + 1) : Int) := fun v hv => by
            rw [hM2]
            by_cases e : v = tpo sz (ce r) set k
            · rw [e, mset_s, tc_t (P := aT) trivial rfl]; omega
            · rw [mset_n (Or.inr e), tc_f (fun z => e z.2.symm)]; exact hC v hv
          refine WP.iinc (lt := [vR 49, vR t, vI ((set : Nat) : Int), vI ((T : Nat) : Int), vI (((r : Nat) : Int) + 1)]) dX0_tally_52 rfl (by decide) rfl ?_
          refine WP.goto (tgt := 27) dX0_tally_55 (by decide) ?_
          refine WP.fgt (lt := [vR 49, vR t, vI ((set : Nat) : Int), vI ((T : Nat) : Int), vI (((r + 1) : Nat) : Int)]) ⟨Or.inr rfl, Or.inr rfl, Or.inr rfl, Or.inr rfl, Or.inr (congrArg vI (by omega)), trivial⟩ ?_
          exact ih27 (r + 1) (M2) (by omega) (g1) (g2) (by omega)
    refine WP.fgt (lt := [vR 49, vR t, vI ((set : Nat) : Int), vI ((T : Nat) : Int), vI ((0 : Nat) : Int)]) ⟨Or.inr rfl, Or.inr rfl, Or.inr rfl, Or.inr rfl, Or.inr (congrArg vI (by omega)), trivial⟩ ?_
    exact L27 _ (0) (M0) (Nat.zero_le _) (f1) (fun v hv => f2 v hv) (Nat.lt_succ_self _)
  · skip
    refine WP.aload_n dX0_tally_12 rfl ?_
    refine WP.aload_n dX0_tally_13 rfl ?_
    refine WP.iload_n dX0_tally_14 rfl ?_
    refine WP.callV (as := [vR t, vI ((set : Nat) : Int)]) dX0_tally_15 mv_X0_73 rfl (rfl) (by decide) rfl rfl (c_C_tallyO ht hT hW hs) rfl (Nat.le_of_ble_eq_true rfl) (by omega) (fun r9 M1 h9 => ?_)
    obtain ⟨u, rfl, e1, e2, f, e3, e4, e5⟩ := h9
    show WP sc0 4 m_X0_tally 18 [vR 49, vR t, vI ((set : Nat) : Int), vI ((T : Nat) : Int), vU] [vI ((u : Nat) : Int)] M1 (fun z M' => ∃ u : Nat, z = some (vI (u : Nat)) ∧ u ≤ 36 ∧ (∀ a, a ≠ 50 → a ≠ 51 → M' a = M a) ∧ (∃ g : Nat → Nat, (∀ i, i < u → M' 50 i = (g i : Int)) ∧ (∀ i, i < u → ∃ v, v < tps sz set k ∧ g i = ctA n k sz ce set v) ∧ (∀ v, v < tps sz set k → 0 < ctA n k sz ce set v → ∃ i, i < u ∧ g i = ctA n k sz ce set v)) ∧ (tps sz set k ≤ 36 → tps sz set k = u ∧ ∀ i, i < tps sz set k → M' 50 i = (ctA n k sz ce set i : Int)))
    refine WP.iret dX0_tally_18 rfl ?_
    exact ⟨u, rfl, e1, e2, ⟨f, e3, e4, e5⟩, fun z => by omega⟩
