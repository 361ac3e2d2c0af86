theorem iso_same {n k : Nat} {sz sz' : Nat → Nat} {ce ce' : Nat → Nat → Nat} {y : Nat → Nat} (h : iso (n, k, sz, ce) (n, k, sz', ce') y) (s : Nat) : cn (fun c => sz c = s) k = cn (fun c => sz' c = s) k := by
  obtain ⟨π, _, hp, hz, _⟩ := iso_T h
  rw [← cn_inj (f := fun c => y c / 256) hp.1 hp.2 (fun x => sz' x = s)]
  exact cn_cg (fun c hc => by
    have e : sz' (y c / 256) = sz c := (hz c hc).1
    rw [e])
theorem same_4 {n k : Nat} {sz sz' : Nat → Nat} {ce' : Nat → Nat → Nat} (hW2 : Wf n k sz' ce') (h4 : ∀ c, c < k → sz c ≤ 4) (h : ∀ y, 2 ≤ y → y ≤ 6 → cn (fun y9 => sz y9 = y) k = cn (fun y9 => sz' y9 = y) k) : ∀ c, c < k → sz' c ≤ 4 := fun c hc => by
  have w := hW2.2.2.1 c hc
  have h1 := h (sz' c) w.1 w.2
  have h2 : 0 < cn (fun y9 => sz' y9 = sz' c) k := cn_pos.mpr ⟨c, hc, rfl⟩
  rw [← h1] at h2
  obtain ⟨b, hb, e⟩ := cn_pos.mp h2
  have := h4 b hb
  omega
theorem cl0 (w : Nat → Nat) : clT w 0 = lF 0 := by
  funext e
  exact (if_neg (Nat.not_lt_zero e)).symm
theorem ll0 (w : Nat → Nat) : llT w 0 = llF 0 := by
  funext e u
  exact (if_neg (Nat.not_lt_zero e)).symm
set_option maxHeartbeats 4000000 in
set_option maxRecDepth 20000 in
theorem c_M_find {M : Mem} {t n k n2 k2 : Nat} {sz sz' : Nat → Nat} {ce ce' : Nat → Nat → Nat} (ht : isT t) (ht39 : 3 ≤ t ∧ t < 9) (hT : TX M 0 n k sz ce) (hT2 : TX M t n2 k2 sz' ce') (hW : Wf n k sz ce) (hW2 : Wf n2 k2 sz' ce') (hcm : cmt (n, k, sz, ce)) : CT 20 m_X3_find [vR 99, vR 0, vR t] M (fun z M' => ∃ v : Int, z = some (vI v) ∧ (∀ a, (a < 100 ∨ 166 < a) → M' a = M a) ∧ ((v = 1 ∧ ∃ y, liso (n, k, sz, ce) (n2, k2, sz', ce') y ∧ MAr M' sz y k) ∨ (v = 0 ∧ ∀ y, ¬ iso (n, k, sz, ce) (n2, k2, sz', ce') y))) := by
  have hn : n ≤ 18 := hcm.1
  have h4 : ∀ c, c < k → sz c ≤ 4 := hcm.2
  have b1 := hW.1
  have b2 := hW.2.1
  have b3 := hW2.1
  have b4 := hW2.2.1
  have t0 : isT 0 := ⟨rfl, by decide⟩
  have ht2 := ht.2
  have hs1 : isS 103 := Or.inl rfl
  have hs2 : isS 135 := Or.inr rfl
  refine CT.ofWP (by decide +kernel) (Nat.le_of_ble_eq_true rfl) ?_
  show WP sc0 20 m_X3_find 0 [vR 99, vR 0, vR t, vU] [] M (fun z M' => ∃ v : Int, z = some (vI v) ∧ (∀ a, (a < 100 ∨ 166 < a) → M' a = M a) ∧ ((v = 1 ∧ ∃ y, liso (n, k, sz, ce) (n2, k2, sz', ce') y ∧ MAr M' sz y k) ∨ (v = 0 ∧ ∀ y, ¬ iso (n, k, sz, ce) (n2, k2, sz', ce') y)))
  refine WP.aload_n dX3_find_0 rfl ?_
  refine WP.getI (x := ((n : Nat) : Int)) dX3_find_1 fl_X3_31 (rfl) (by decide) (hT.1) ?_
  refine WP.aload_n dX3_find_4 rfl ?_
  refine WP.getI (x := ((n2 : Nat) : Int)) dX3_find_5 fl_X3_31 (shT0 ht) (by decide) (hT2.1) ?_
  refine WP.icmp_ne (tgt := 30) dX3_find_8 (by decide) (by omega) (by omega) (fun h8 => ?_) (fun h8 => ?_)
  · skip
    have hno : ∀ y, ¬ iso (n, k, sz, ce) (n2, k2, sz', ce') y := fun y hy => by have e9 : n = n2 := hy.1; omega
    refine WP.iconst dX3_find_30 ?_
    refine WP.zret dX3_find_31 rfl (by decide) ?_
    exact ⟨_, rfl, fun _ _ => rfl, Or.inr ⟨rfl, hno⟩⟩
  · skip
    have en : n = n2 := by omega
    refine WP.aload_n dX3_find_11 rfl ?_
    refine WP.getI (x := ((k : Nat) : Int)) dX3_find_12 fl_X3_37 (rfl) (by decide) (hT.2.1) ?_
    refine WP.aload_n dX3_find_15 rfl ?_
    refine WP.getI (x := ((k2 : Nat) : Int)) dX3_find_16 fl_X3_37 (shT0 ht) (by decide) (hT2.2.1) ?_
    refine WP.icmp_ne (tgt := 30) dX3_find_19 (by decide) (by omega) (by omega) (fun h19 => ?_) (fun h19 => ?_)
    · skip
      have hno : ∀ y, ¬ iso (n, k, sz, ce) (n2, k2, sz', ce') y := fun y hy => by have e9 : k = k2 := hy.2.1; omega
      refine WP.iconst dX3_find_30 ?_
      refine WP.zret dX3_find_31 rfl (by decide) ?_
      exact ⟨_, rfl, fun _ _ => rfl, Or.inr ⟨rfl, hno⟩⟩
    · skip
      have ek : k = k2 := by omega
      have hT2n : TX M t n k sz' ce' := by rw [en, ek]; exact hT2
      have hW2n : Wf n k sz' ce' := by rw [en, ek]; exact hW2
      refine WP.aload_n dX3_find_22 rfl ?_
      refine WP.aload_n dX3_find_23 rfl ?_
      refine WP.callSp (as := [vR 0, vR t]) dX3_find_24 ms_X3_40 rfl (c_M_same ht hT hT2n hW hW2n) rfl (Nat.le_of_ble_eq_true rfl) (by omega) ?_
      refine WP.if_ne (tgt := 32) dX3_find_27 (by decide) (bi_rng) (fun h27 => ?_) (fun h27 => ?_)
      · skip
        have q27 := bi_1 h27
        have h42 := same_4 hW2n h4 q27
        have hS : MST t n k sz ce sz' ce' := ⟨⟨ht, ht39⟩, hn, hW, hW2n, h4, h42⟩
        refine WP.aload_n dX3_find_32 rfl ?_
        refine WP.getR (y := 103) dX3_find_33 fl_X3_21 (rfl) (by decide) (rfl) ?_
        refine WP.aload_n dX3_find_36 rfl ?_
        refine WP.callV (as := [vR 0]) dX3_find_37 mv_X3_44 rfl (rfl) (by decide) rfl rfl (c_Z_start (s := 103) (t := 0) hs1 t0 hT hW hn h4) rfl (Nat.le_of_ble_eq_true rfl) (by omega) (fun r9 M1 h9 => ?_)
        obtain ⟨rfl, f1, m1, l1, g1, k1⟩ := h9
        have hT21 : TX M1 t n k sz' ce' := hT2n.fr (f1 _ (by omega)) (f1 _ (by omega)) (f1 _ (by omega))
        show WP sc0 20 m_X3_find 40 [vR 99, vR 0, vR t, vU] [] M1 (fun z M' => ∃ v : Int, z = some (vI v) ∧ (∀ a, (a < 100 ∨ 166 < a) → M' a = M a) ∧ ((v = 1 ∧ ∃ y, liso (n, k, sz, ce) (n2, k2, sz', ce') y ∧ MAr M' sz y k) ∨ (v = 0 ∧ ∀ y, ¬ iso (n, k, sz, ce) (n2, k2, sz', ce') y)))
        refine WP.aload_n dX3_find_40 rfl ?_
        refine WP.getR (y := 135) dX3_find_41 fl_X3_25 (rfl) (by decide) (rfl) ?_
        refine WP.aload_n dX3_find_44 rfl ?_
        refine WP.callV (as := [vR t]) dX3_find_45 mv_X3_44 rfl (rfl) (by decide) rfl rfl (c_Z_start (s := 135) (t := t) hs2 ht hT21 hW2n hn h42) rfl (Nat.le_of_ble_eq_true rfl) (by omega) (fun r9 M2 h9 => ?_)
        obtain ⟨rfl, f2, m2, l2, g2, k20⟩ := h9
        have hF2 : ∀ a, (a < 100 ∨ 166 < a) → M2 a = M a := fun a ha => by rw [f2 a (by omega), f1 a (by omega)]
        have hT2_ : TX M2 0 n k sz ce := hT.fr (hF2 _ (by omega)) (hF2 _ (by omega)) (hF2 _ (by omega))
        have hT22 : TX M2 t n k sz' ce' := hT2n.fr (hF2 _ (by omega)) (hF2 _ (by omega)) (hF2 _ (by omega))
        have hmf2 : M2 103 0 = ((0 : Nat) : Int) := by rw [f2 _ (by omega)]; exact m1
        have hl2 : LB M2 103 k sz (lF 0) (llF 0) := l1.fr (f2 _ (by omega)) (f2 _ (by omega))
        have hg2 : ∀ c, c < k → ∀ v, v < sz c → M2 106 (c * 4 + v) = ((cn (fun y9 => ce y9 c = v) n : Nat) : Int) := by rw [f2 _ (by omega)]; exact g1
        have hk2 : KY M2 103 0 n k sz (kRK n k sz ce lF llF 0) (kLK n k sz ce lF llF 0) (kCK n k sz ce lF llF 0) := k1.fr (f2 _ (by omega)) (f2 _ (by omega)) (f2 _ (by omega))
        have hw0 : LB M2 135 k sz' (clT (fun _ => 0) 0) (llT (fun _ => 0) 0) := by rw [cl0, ll0]; exact l2
        have hkt : KY M2 135 0 n k sz' (kRK n k sz' ce' (clT (fun _ => 0)) (llT (fun _ => 0)) 0) (kLK n k sz' ce' (clT (fun _ => 0)) (llT (fun _ => 0)) 0) (kCK n k sz' ce' (clT (fun _ => 0)) (llT (fun _ => 0)) 0) := by
          unfold kLK kCK kRK
          rw [cl0, ll0]
          exact k20
        show WP sc0 20 m_X3_find 48 [vR 99, vR 0, vR t, vU] [] M2 (fun z M' => ∃ v : Int, z = some (vI v) ∧ (∀ a, (a < 100 ∨ 166 < a) → M' a = M a) ∧ ((v = 1 ∧ ∃ y, liso (n, k, sz, ce) (n2, k2, sz', ce') y ∧ MAr M' sz y k) ∨ (v = 0 ∧ ∀ y, ¬ iso (n, k, sz, ce) (n2, k2, sz', ce') y)))
        refine WP.aload_n dX3_find_48 rfl ?_
        refine WP.getR (y := 103) dX3_find_49 fl_X3_21 (rfl) (by decide) (rfl) ?_
        refine WP.iconst dX3_find_52 ?_
        refine WP.callVp (as := [vI (0 : Int)]) dX3_find_53 mv_X3_48 rfl (rfl) (by decide) rfl rfl (c_Z_summary (s := 103) (t := 0) (d := 0) hs1 t0 hT2_ hW hn h4 hmf2 (by omega) hk2.1 hk2.2.2) rfl (Nat.le_of_ble_eq_true rfl) (by omega) ?_
        refine WP.aload_n dX3_find_56 rfl ?_
        refine WP.getR (y := 135) dX3_find_57 fl_X3_25 (rfl) (by decide) (rfl) ?_
        refine WP.iconst dX3_find_60 ?_
        refine WP.callVp (as := [vI (0 : Int)]) dX3_find_61 mv_X3_48 rfl (rfl) (by decide) rfl rfl (c_Z_summary (s := 135) (t := t) (d := 0) hs2 ht hT22 hW2n hn h42 m2 (by omega) hkt.1 hkt.2.2) rfl (Nat.le_of_ble_eq_true rfl) (by omega) ?_
        refine WP.lcmp dX3_find_64 ?_
        refine WP.if_eq (tgt := 70) dX3_find_65 (by decide) (lcI_r) (fun h65 => ?_) (fun h65 => ?_)
        · skip
          refine WP.iconst dX3_find_70 ?_
          refine WP.istore_n (lt := [vR 99, vR 0, vR t, vI (0 : Int)]) dX3_find_71 (by decide) rfl ?_
          have L72 : ∀ (n9 : Nat) (c : Nat) (M3 : Mem) (hc : c ≤ k) (hF3 : ∀ a, (a < 103 ∨ 135 ≤ a) → M3 a = M2 a) (hm3 : M3 103 0 = ((0 : Nat) : Int)) (hl3 : LB M3 103 k sz (lF c) (llF c)) (hg3 : M3 106 = M2 106) (hk3 : ∀ d, d ≤ c → KY M3 103 d n k sz (kRK n k sz ce lF llF d) (kLK n k sz ce lF llF d) (kCK n k sz ce lF llF d)), k - c < n9 → WP sc0 20 m_X3_find 72 [vR 99, vR 0, vR t, vI ((c : Nat) : Int)] [] M3 (fun z M' => ∃ v : Int, z = some (vI v) ∧ (∀ a, (a < 100 ∨ 166 < a) → M' a = M a) ∧ ((v = 1 ∧ ∃ y, liso (n, k, sz, ce) (n2, k2, sz', ce') y ∧ MAr M' sz y k) ∨ (v = 0 ∧ ∀ y, ¬ iso (n, k, sz, ce) (n2, k2, sz', ce') y))) := by
            intro n9
            induction n9 with
            | zero =>
              intro c M3 hc hF3 hm3 hl3 hg3 hk3 hm9
              exact absurd hm9 (Nat.not_lt_zero _)
            | succ n9 ih72 =>
              intro c M3 hc hF3 hm3 hl3 hg3 hk3 hm9
              have hT3 : TX M3 0 n k sz ce := hT2_.fr (hF3 _ (by omega)) (hF3 _ (by omega)) (hF3 _ (by omega))
              refine WP.iload_n dX3_find_72 rfl ?_
              refine WP.aload_n dX3_find_73 rfl ?_
              refine WP.getI (x := ((k : Nat) : Int)) dX3_find_74 fl_X3_37 (rfl) (by decide) (hT3.2.1) ?_
              refine WP.icmp_ge (tgt := 104) dX3_find_77 (by decide) (by omega) (by omega) (fun h77 => ?_) (fun h77 => ?_)
              · skip
                have hck : c = k := by omega
                have hC3 : MC M3 t n k sz ce sz' ce' := ⟨hT3, hT22.fr (hF3 _ (by omega)) (hF3 _ (by omega)) (hF3 _ (by omega)), hm3, by rw [hF3 _ (by omega)]; exact m2, by rw [← hck]; rw [← hck] at hl3; exact hl3, by rw [hg3]; exact hg2, fun d hd => hk3 d (by omega)⟩
                have hZ3 : MZ M3 n k sz sz' ce' (fun _ => 0) 0 := ⟨hw0.fr (hF3 _ (by omega)) (hF3 _ (by omega)), fun d hd => by
                  rw [show d = 0 by omega]
                  exact hkt.fr (hF3 _ (by omega)) (hF3 _ (by omega)) (hF3 _ (by omega)), fun b hb => absurd hb (Nat.not_lt_zero b)⟩
                refine WP.aload_n dX3_find_104 rfl ?_
                refine WP.iconst dX3_find_105 ?_
                refine WP.callV (as := [vI (0 : Int)]) dX3_find_106 mv_X3_59 rfl (rfl) (by decide) rfl rfl (AC_all hS k 0 (by omega) M3 (fun _ => 0) hC3 (fun b hb => absurd hb (Nat.not_lt_zero b)) hZ3) rfl (Nat.le_of_ble_eq_true rfl) (by omega) (fun r9 M6 h9 => ?_)
                obtain ⟨v6, rfl, f6, q6⟩ := h9
                have hF6 : ∀ a, (a < 100 ∨ 166 < a) → M6 a = M a := fun a ha => by rw [f6 a (by unfold ZF; omega), hF3 a (by omega), hF2 a ha]
                show WP sc0 20 m_X3_find 109 [vR 99, vR 0, vR t, vI ((c : Nat) : Int)] [vI v6] M6 (fun z M' => ∃ v : Int, z = some (vI v) ∧ (∀ a, (a < 100 ∨ 166 < a) → M' a = M a) ∧ ((v = 1 ∧ ∃ y, liso (n, k, sz, ce) (n2, k2, sz', ce') y ∧ MAr M' sz y k) ∨ (v = 0 ∧ ∀ y, ¬ iso (n, k, sz, ce) (n2, k2, sz', ce') y)))
                refine WP.zret dX3_find_109 rfl (by rcases q6 with z | z <;> omega) ?_
                refine ⟨_, rfl, hF6, ?_⟩
                rw [← en, ← ek]
                rcases q6 with ⟨z, y, y1, _, y3, y4⟩ | ⟨z, n6, _⟩
                · exact Or.inl ⟨z, y, ⟨y1, fun y' hy' => y3 y' hy' (fun b hb => absurd hb (Nat.not_lt_zero b))⟩, y4⟩
                · exact Or.inr ⟨z, fun y hy => n6 y hy (fun b hb => absurd hb (Nat.not_lt_zero b))⟩
              · skip
                refine WP.aload_n dX3_find_80 rfl ?_
                refine WP.getR (y := 103) dX3_find_81 fl_X3_21 (rfl) (by decide) (rfl) ?_
                refine WP.iload_n dX3_find_84 rfl ?_
                refine WP.callV (as := [vI ((c : Nat) : Int)]) dX3_find_85 mv_X3_52 rfl (rfl) (by decide) rfl rfl (c_Z_labelColumn (s := 103) (t := 0) (c := c) hs1 t0 hT3 hW hn h4 hm3 (by omega) hl3) rfl (Nat.le_of_ble_eq_true rfl) (by omega) (fun r9 M4 h9 => ?_)
                obtain ⟨rfl, f4, hl4⟩ := h9
                have hT4 : TX M4 0 n k sz ce := hT3.fr (f4 _ (by omega) (by omega)) (f4 _ (by omega) (by omega)) (f4 _ (by omega) (by omega))
                have hm4 : M4 103 0 = ((0 : Nat) : Int) := by rw [f4 _ (by omega) (by omega)]; exact hm3
                show WP sc0 20 m_X3_find 88 [vR 99, vR 0, vR t, vI ((c : Nat) : Int)] [] M4 (fun z M' => ∃ v : Int, z = some (vI v) ∧ (∀ a, (a < 100 ∨ 166 < a) → M' a = M a) ∧ ((v = 1 ∧ ∃ y, liso (n, k, sz, ce) (n2, k2, sz', ce') y ∧ MAr M' sz y k) ∨ (v = 0 ∧ ∀ y, ¬ iso (n, k, sz, ce) (n2, k2, sz', ce') y)))
                refine WP.aload_n dX3_find_88 rfl ?_
                refine WP.getR (y := 103) dX3_find_89 fl_X3_21 (rfl) (by decide) (rfl) ?_
                refine WP.iload_n dX3_find_92 rfl ?_
                refine WP.iconst dX3_find_93 ?_
                refine WP.iadd dX3_find_94 ?_
                refine WP.eqs (st' := [vI ((c + 1 : Nat) : Int), vR 103]) rfl (lc (congrArg vI (by omega)) (rfl)) ?_
                refine WP.callV (as := [vI ((c + 1 : Nat) : Int)]) dX3_find_95 mv_X3_56 rfl (rfl) (by decide) rfl rfl (c_Z_refine (s := 103) (t := 0) (d := c + 1) (rk := kRK n k sz ce lF llF c) hs1 t0 hT4 hW hn h4 hm4 hl4 (by omega) (fun r hr => by rw [show c + 1 - 1 = c by omega, f4 _ (by omega) (by omega)]; exact (hk3 c (Nat.le_refl _)).1 r hr)) rfl (Nat.le_of_ble_eq_true rfl) (by omega) (fun r9 M5 h9 => ?_)
                obtain ⟨rfl, f5, k5⟩ := h9
                show WP sc0 20 m_X3_find 98 [vR 99, vR 0, vR t, vI ((c : Nat) : Int)] [] M5 (fun z M' => ∃ v : Int, z = some (vI v) ∧ (∀ a, (a < 100 ∨ 166 < a) → M' a = M a) ∧ ((v = 1 ∧ ∃ y, liso (n, k, sz, ce) (n2, k2, sz', ce') y ∧ MAr M' sz y k) ∨ (v = 0 ∧ ∀ y, ¬ iso (n, k, sz, ce) (n2, k2, sz', ce') y)))
                refine WP.iinc (lt := [vR 99, vR 0, vR t, vI (((c : Nat) : Int) + 1)]) dX3_find_98 rfl (by decide) rfl ?_
                refine WP.goto (tgt := 72) dX3_find_101 (by decide) ?_
                refine WP.fgt (lt := [vR 99, vR 0, vR t, vI (((c + 1) : Nat) : Int)]) ⟨Or.inr rfl, Or.inr rfl, Or.inr rfl, Or.inr (congrArg vI (by omega)), trivial⟩ ?_
                exact ih72 (c + 1) (M5) (by omega) (fun a ha => by rw [f5 a (by omega) (by omega) (by omega), f4 a (by omega) (by omega)]; exact hF3 a ha) (by rw [f5 _ (by omega) (by omega) (by omega), f4 _ (by omega) (by omega)]; exact hm3) (hl4.fr (f5 _ (by omega) (by omega) (by omega)) (f5 _ (by omega) (by omega) (by omega))) (by rw [f5 _ (by omega) (by omega) (by omega), f4 _ (by omega) (by omega)]; exact hg3) (fun d hd => by
                  by_cases e9 : d = c + 1
                  · rw [e9]; exact k5
                  · exact (hk3 d (by omega)).fr (by rw [f5 _ (by omega) (by omega) (by omega), f4 _ (by omega) (by omega)]) (by rw [f5 _ (by omega) (by omega) (by omega), f4 _ (by omega) (by omega)]) (by rw [f5 _ (by omega) (by omega) (by omega), f4 _ (by omega) (by omega)])) (by omega)
          refine WP.fgt (lt := [vR 99, vR 0, vR t, vI ((0 : Nat) : Int)]) ⟨Or.inr rfl, Or.inr rfl, Or.inr rfl, Or.inr (congrArg vI (by omega)), trivial⟩ ?_
          exact L72 _ (0) (M2) (Nat.zero_le _) (fun _ _ => rfl) (hmf2) (hl2) (rfl) (fun d hd => by rw [show d = 0 by omega]; exact hk2) (Nat.lt_succ_self _)
        · skip
          have q65 : ¬ (kSM n k sz ce lF llF 0) = (kSM n k sz' ce' (clT (fun _ => 0)) (llT (fun _ => 0)) 0) := fun z => h65 (lcI_0.mpr z)
          have hno : ∀ y, ¬ iso (n, k, sz, ce) (n2, k2, sz', ce') y := fun y hy => by
            rw [← en, ← ek] at hy
            exact q65 (iso_keys (d := 0) hW h4 hy (Nat.zero_le _) (fun b hb => absurd hb (Nat.not_lt_zero b))).2.2.symm
          refine WP.iconst dX3_find_68 ?_
          refine WP.zret dX3_find_69 rfl (by decide) ?_
          exact ⟨_, rfl, hF2, Or.inr ⟨rfl, hno⟩⟩
      · skip
        have q27 := bi_0 h27
        have hno : ∀ y, ¬ iso (n, k, sz, ce) (n2, k2, sz', ce') y := fun y hy => by
          rw [← en, ← ek] at hy
          exact q27 (fun s _ _ => iso_same hy s)
        refine WP.iconst dX3_find_30 ?_
        refine WP.zret dX3_find_31 rfl (by decide) ?_
        exact ⟨_, rfl, fun _ _ => rfl, Or.inr ⟨rfl, hno⟩⟩
theorem InvX.ci {M M' : Mem} {n k : Nat} {sz : Nat → Nat} {ce : Nat → Nat → Nat} {H : Nat × (Nat → AR)} {im : Nat → Option AR} {T : Nat × (Nat → Nat)} (hI : InvX M ((n, k, sz, ce), H, im, T)) (h : ∀ a, a ≠ 42 → (a < 100 ∨ 166 < a) → M' a = M a) (h42 : ∀ j, j ≠ 10 → j ≠ 11 → M' 42 j = M 42 j) (hc : CIx M' (n, k, sz, ce) im) : InvX M' ((n, k, sz, ce), H, im, T) := by
  obtain ⟨a1, a2, a3, a4, a5, a6⟩ := hI
  refine ⟨a1.fr (h _ (by omega) (by omega)) (h _ (by omega) (by omega)) (h _ (by omega) (by omega)), a2.fr (h _ (by omega) (by omega)) (fun a i1 i2 => h a (by omega) (by omega)), a3.fr (h _ (by omega) (by omega)) (fun a i1 i2 => h a (by omega) (by omega)), a4.fr (h _ (by omega) (by omega)) (h _ (by omega) (by omega)), ?_, hc⟩
  unfold CEx
  rw [h42 8 (by decide) (by decide), h42 9 (by decide) (by decide), h 53 (by omega) (by omega)]
  exact a5
set_option maxHeartbeats 4000000 in
set_option maxRecDepth 20000 in
theorem c_X_hasMatch {M : Mem} {n k h len : Nat} {sz tx : Nat → Nat} {ce : Nat → Nat → Nat} {hs : Nat → AR} {im : Nat → Option AR} {i : Nat} {B : AR} (hV : InvX M (mkS n k sz ce h hs im len tx)) (hi : i < 2) (hB : im i = some B) (hcm : cmt (n, k, sz, ce)) : CT 21 m_X7_hasMatch [vR 42, vI ((i : Nat) : Int)] M (fun z M' => z = some (vI (bi (∃ w, iso (n, k, sz, ce) B w))) ∧ InvX M' (mkS n k sz ce h hs im len tx) ∧ (∀ a, 167 ≤ a → M' a = M a) ∧ ((∃ w, iso (n, k, sz, ce) B w) → ∀ c, c < k → M' 100 c = ((lxI (n, k, sz, ce) B c / 256 : Nat) : Int) ∧ ∀ v, v < sz c → M' 101 (c * 4 + v) = ((imo (lxI (n, k, sz, ce) B c) v : Nat) : Int))) := by
  have hT : TX M 0 n k sz ce := hV.1.1
  have hW : Wf n k sz ce := hV.1.2
  have hH : HX M h hs := hV.2.1
  have hIM : IMx M im := hV.2.2.1
  have hS : SX M len tx := hV.2.2.2.1
  have b1 := hW.1
  have b2 := hW.2.1
  have t0 : isT 0 := ⟨rfl, by decide⟩
  have hh8 := hH.1
  have hl3 := hS.1
  have hTB : TA M (3 + 3 * i) B := ((hIM i hi).2 B hB).2
  have h8r : -2147483648 ≤ M 42 10 ∧ M 42 10 < 2147483648 := by
    rcases hV.2.2.2.2.2 with c0 | ⟨i', c1, c2, B', c3, c4, c5, c6⟩ <;> omega
  refine CT.ofWP (by decide +kernel) (Nat.le_of_ble_eq_true rfl) ?_
  show WP sc0 21 m_X7_hasMatch 0 [vR 42, vI ((i : Nat) : Int)] [] M (fun z M' => z = some (vI (bi (∃ w, iso (n, k, sz, ce) B w))) ∧ InvX M' (mkS n k sz ce h hs im len tx) ∧ (∀ a, 167 ≤ a → M' a = M a) ∧ ((∃ w, iso (n, k, sz, ce) B w) → ∀ c, c < k → M' 100 c = ((lxI (n, k, sz, ce) B c / 256 : Nat) : Int) ∧ ∀ v, v < sz c → M' 101 (c * 4 + v) = ((imo (lxI (n, k, sz, ce) B c) v : Nat) : Int)))
  refine WP.aload_n dX7_hasMatch_0 rfl ?_
  refine WP.getI (x := (M 42 10)) dX7_hasMatch_1 fl_X7_67 (rfl) (by decide) (rfl) ?_
  refine WP.iload_n dX7_hasMatch_4 rfl ?_
  refine WP.icmp_eq (tgt := 34) dX7_hasMatch_5 (by decide) (by omega) (by omega) (fun h5 => ?_) (fun h5 => ?_)
  · skip
    rcases hV.2.2.2.2.2 with c0 | ⟨i', c1, c2, B', c3, c4, c5, c6⟩
    · exfalso
      omega
    have c7 : i' = i := by omega
    have c3' : im i = some B' := by rw [← c7]; exact c3
    rw [hB] at c3'
    have c8 : B = B' := Option.some.inj c3'
    rw [← c8] at c5 c6
    refine WP.aload_n dX7_hasMatch_34 rfl ?_
    refine WP.getI (x := bi (∃ w, iso (n, k, sz, ce) B w)) dX7_hasMatch_35 fl_X7_70 (rfl) (by decide) (c5) ?_
    refine WP.zret dX7_hasMatch_38 rfl (bi_01) ?_
    exact ⟨rfl, hV, fun _ _ => rfl, c6⟩
  · skip
    refine WP.aload_n dX7_hasMatch_8 rfl ?_
    refine WP.aload_n dX7_hasMatch_9 rfl ?_
    refine WP.getR (y := 99) dX7_hasMatch_10 fl_X7_55 (rfl) (by decide) (rfl) ?_
    refine WP.aload_n dX7_hasMatch_13 rfl ?_
    refine WP.getR (y := 0) dX7_hasMatch_14 fl_X7_10 (rfl) (by decide) (rfl) ?_
    refine WP.aload_n dX7_hasMatch_17 rfl ?_
    refine WP.getR (y := 45) dX7_hasMatch_18 fl_X7_23 (rfl) (by decide) (rfl) ?_
    refine WP.iload_n dX7_hasMatch_21 rfl ?_
    refine WP.aaload (y := i) (z := (3 + 3 * i)) dX7_hasMatch_22 (rfl) (by omega) (by omega) (rfl) ?_
    refine WP.callV (as := [vR 0, vR (3 + 3 * i)]) dX7_hasMatch_23 mv_X7_241 rfl (rfl) (by decide) rfl rfl (c_M_find (n2 := B.1) (k2 := B.2.1) (sz' := B.2.2.1) (ce' := B.2.2.2) (isT_im hi) (by omega) hT hTB.1 hW hTB.2 hcm) rfl (Nat.le_of_ble_eq_true rfl) (by omega) (fun r9 M1 h9 => ?_)
    obtain ⟨v, rfl, e1, e2⟩ := h9
    have hv : v = bi (∃ w, iso (n, k, sz, ce) B w) := by
      rcases e2 with ⟨z, y, y1, _⟩ | ⟨z, n1⟩
      · rw [z, bi_t ⟨y, y1.1⟩]
      · rw [z, bi_f (fun ⟨y, hy⟩ => n1 y hy)]
    show WP sc0 21 m_X7_hasMatch 26 [vR 42, vI ((i : Nat) : Int)] [vI v, vR 42] M1 (fun z M' => z = some (vI (bi (∃ w, iso (n, k, sz, ce) B w))) ∧ InvX M' (mkS n k sz ce h hs im len tx) ∧ (∀ a, 167 ≤ a → M' a = M a) ∧ ((∃ w, iso (n, k, sz, ce) B w) → ∀ c, c < k → M' 100 c = ((lxI (n, k, sz, ce) B c / 256 : Nat) : Int) ∧ ∀ v, v < sz c → M' 101 (c * 4 + v) = ((imo (lxI (n, k, sz, ce) B c) v : Nat) : Int)))
    refine WP.putZ dX7_hasMatch_26 fl_X7_70 (rfl) (by decide) (by rw [hv]; exact bi_01) rfl ?_
    refine WP.aload_n dX7_hasMatch_29 rfl ?_
    refine WP.iload_n dX7_hasMatch_30 rfl ?_
    refine WP.putI dX7_hasMatch_31 fl_X7_67 (rfl) (by decide) rfl ?_
    obtain ⟨M2, hM2⟩ : ∃ z, z = (mset (mset M1 42 11 v) 42 10 ((i : Nat) : Int)) := ⟨_, rfl⟩
    refine WP.eqM hM2.symm ?_
    have hO2 : ∀ a, a ≠ 42 → M2 a = M1 a := fun a ha => by rw [hM2, mset_o a ha, mset_o a ha]
    have hm11 : M2 42 11 = bi (∃ w, iso (n, k, sz, ce) B w) := by rw [hM2, mset_n (Or.inr (by decide)), mset_s, hv]
    have hm10 : M2 42 10 = (i : Int) := by rw [hM2, mset_s]
    have hcx : (∃ w, iso (n, k, sz, ce) B w) → ∀ c, c < k → M2 100 c = ((lxI (n, k, sz, ce) B c / 256 : Nat) : Int) ∧ ∀ v, v < sz c → M2 101 (c * 4 + v) = ((imo (lxI (n, k, sz, ce) B c) v : Nat) : Int) := fun z => by
      rcases e2 with ⟨_, y, y1, y2⟩ | ⟨_, n1⟩
      · intro c hc
        rw [hO2 100 (by decide), hO2 101 (by decide), lxI_eq y1 (show c < k from hc)]
        exact y2 c hc
      · exact absurd z (fun ⟨y, hy⟩ => n1 y hy)
    have hV2 : InvX M2 (mkS n k sz ce h hs im len tx) := InvX.ci hV (fun a i1 i2 => by rw [hO2 a i1, e1 a i2]) (fun j j1 j2 => by rw [hM2, mset_n (Or.inr j1), mset_n (Or.inr j2), e1 42 (by decide)]) (Or.inr ⟨i, hi, hm10, B, hB, hcm, hm11, hcx⟩)
    refine WP.aload_n dX7_hasMatch_34 rfl ?_
    refine WP.getI (x := bi (∃ w, iso (n, k, sz, ce) B w)) dX7_hasMatch_35 fl_X7_70 (rfl) (by decide) (hm11) ?_
    refine WP.zret dX7_hasMatch_38 rfl (bi_01) ?_
    exact ⟨rfl, hV2, fun a ha => by rw [hO2 a (by omega), e1 a (by omega)], hcx⟩
theorem o_isIso_n {S : ST} {i : Int} (h : hI i) (h2 : ¬ ((∃ B, S.2.2.1 i.toNat = some B) ∧ cmt S.1)) : o_isIso S i = (-2, S) := by
  rw [o_isIso, cif_t h]
  cases e : S.2.2.1 i.toNat with
  | none => rfl
  | some B => exact congrArg (fun z => (z, S)) (cif_f (fun z => h2 ⟨⟨B, e⟩, z⟩))
theorem o_isIso_s {S : ST} {i : Int} {B : AR} (h : hI i) (e : S.2.2.1 i.toNat = some B) (h2 : cmt S.1) : o_isIso S i = (bi (∃ w, iso S.1 B w), S) := by
  rw [o_isIso, cif_t h, e]
  exact congrArg (fun z => (z, S)) (cif_t h2)
theorem o_mapped_0 {S : ST} {i c v : Int} (h : ¬ (hI i ∧ hC S c ∧ -1 ≤ v ∧ v < (S.1.2.2.1 c.toNat : Int))) : o_mapped S i c v = (-1, S) := by rw [o_mapped, cif_f h]
theorem o_mapped_n {S : ST} {i c v : Int} (h : hI i ∧ hC S c ∧ -1 ≤ v ∧ v < (S.1.2.2.1 c.toNat : Int)) (h2 : ¬ ((∃ B, S.2.2.1 i.toNat = some B) ∧ cmt S.1)) : o_mapped S i c v = (-2, S) := by
  rw [o_mapped, cif_t h]
  cases e : S.2.2.1 i.toNat with
  | none => rfl
  | some B => exact congrArg (fun z => (z, S)) (cif_f (fun z => h2 ⟨⟨B, e⟩, z⟩))
theorem o_mapped_s {S : ST} {i c v : Int} {B : AR} (h : hI i ∧ hC S c ∧ -1 ≤ v ∧ v < (S.1.2.2.1 c.toNat : Int)) (e : S.2.2.1 i.toNat = some B) (h2 : cmt S.1) : o_mapped S i c v = (cif (∃ w, iso S.1 B w) (if v = -1 then ((lxI S.1 B c.toNat / 256 : Nat) : Int) else ((imo (lxI S.1 B c.toNat) v.toNat : Nat) : Int)) (-9), S) := by
  rw [o_mapped, cif_t h, e]
  exact congrArg (fun z => (z, S)) (cif_t h2)
set_option maxHeartbeats 4000000 in
set_option maxRecDepth 20000 in
theorem x_isIso {M : Mem} {n k h len : Nat} {sz tx : Nat → Nat} {ce : Nat → Nat → Nat} {hs : Nat → AR} {im : Nat → Option AR} (hV : InvX M (mkS n k sz ce h hs im len tx)) {x : Int} (hx : -2147483648 ≤ x ∧ x < 2147483648) : CT 40 m_X7_isIsomorphic [vR 42, vI x] M (PX M (o_isIso (mkS n k sz ce h hs im len tx) x)) := by
  have hT : TX M 0 n k sz ce := hV.1.1
  have hW : Wf n k sz ce := hV.1.2
  have hH : HX M h hs := hV.2.1
  have hIM : IMx M im := hV.2.2.1
  have hS : SX M len tx := hV.2.2.2.1
  have b1 := hW.1
  have b2 := hW.2.1
  have t0 : isT 0 := ⟨rfl, by decide⟩
  have hh8 := hH.1
  have hl3 := hS.1
  refine CT.ofWP (by decide +kernel) (Nat.le_of_ble_eq_true rfl) ?_
  show WP sc0 40 m_X7_isIsomorphic 0 [vR 42, vI x] [] M (PX M (o_isIso (mkS n k sz ce h hs im len tx) x))
  refine WP.iload_n dX7_isIsomorphic_0 rfl ?_
  refine WP.callSp (as := [vI x]) dX7_isIsomorphic_1 ms_X7_134 rfl (c_X_isImage (by omega)) rfl (Nat.le_of_ble_eq_true rfl) (by omega) ?_
  refine WP.if_ne (tgt := 9) dX7_isIsomorphic_4 (by decide) (bi_rng) (fun h4 => ?_) (fun h4 => ?_)
  · skip
    have q4 := bi_1 h4
    obtain ⟨i, hi0⟩ : ∃ i : Nat, x.toNat = i := ⟨_, rfl⟩
    have hi1 : x = ((i : Nat) : Int) := by omega
    refine WP.fgt (lt := [vR 42, vI ((i : Nat) : Int)]) ⟨Or.inr rfl, Or.inr (congrArg vI (hi1.symm)), trivial⟩ ?_
    refine WP.aload_n dX7_isIsomorphic_9 rfl ?_
    refine WP.iload_n dX7_isIsomorphic_10 rfl ?_
    refine WP.callVp (as := [vI ((i : Nat) : Int)]) dX7_isIsomorphic_11 mv_X7_221 rfl (rfl) (by decide) rfl rfl (c_X_canMatch hV (i := i) (by omega)) rfl (Nat.le_of_ble_eq_true rfl) (by omega) ?_
    refine WP.if_ne (tgt := 20) dX7_isIsomorphic_14 (by decide) (bi_rng) (fun h14 => ?_) (fun h14 => ?_)
    · skip
      obtain ⟨⟨B, hB⟩, hcm⟩ := bi_1 h14
      refine WP.aload_n dX7_isIsomorphic_20 rfl ?_
      refine WP.iload_n dX7_isIsomorphic_21 rfl ?_
      refine WP.callV (as := [vI ((i : Nat) : Int)]) dX7_isIsomorphic_22 mv_X7_224 rfl (rfl) (by decide) rfl rfl (c_X_hasMatch hV (i := i) (by omega) hB hcm) rfl (Nat.le_of_ble_eq_true rfl) (by omega) (fun r9 M1 h9 => ?_)
      obtain ⟨rfl, hV1, hf1, hx1⟩ := h9
      show WP sc0 40 m_X7_isIsomorphic 25 [vR 42, vI ((i : Nat) : Int)] [vI (bi (∃ w, iso (n, k, sz, ce) B w))] M1 (PX M (o_isIso (mkS n k sz ce h hs im len tx) x))
      refine WP.if_eq (tgt := 32) dX7_isIsomorphic_25 (by decide) (bi_rng) (fun h25 => ?_) (fun h25 => ?_)
      · skip
        have q25 : bi (∃ w, iso (n, k, sz, ce) B w) = 0 := h25
        refine WP.iconst dX7_isIsomorphic_32 ?_
        refine WP.iret dX7_isIsomorphic_33 rfl ?_
        subst hi0
        have hq : o_isIso (mkS n k sz ce h hs im len tx) x = (_, (mkS n k sz ce h hs im len tx)) := (o_isIso_s q4 hB hcm).trans (congrArg (fun z => (z, _)) q25)
        rw [hq]
        exact ⟨rfl, hV1, hf1⟩
      · skip
        have q25 : bi (∃ w, iso (n, k, sz, ce) B w) = 1 := bi_t (bi_1 h25)
        refine WP.iconst dX7_isIsomorphic_28 ?_
        refine WP.goto (tgt := 33) dX7_isIsomorphic_29 (by decide) ?_
        refine WP.iret dX7_isIsomorphic_33 rfl ?_
        subst hi0
        have hq : o_isIso (mkS n k sz ce h hs im len tx) x = (_, (mkS n k sz ce h hs im len tx)) := (o_isIso_s q4 hB hcm).trans (congrArg (fun z => (z, _)) q25)
        rw [hq]
        exact ⟨rfl, hV1, hf1⟩
    · skip
      have q14 := bi_0 h14
      refine WP.bipush dX7_isIsomorphic_17 (by decide) ?_
      refine WP.iret dX7_isIsomorphic_19 rfl ?_
      exact PX.same (by subst hi0; exact o_isIso_n q4 q14) hV
  · skip
    have q4 := bi_0 h4
    refine WP.iconst dX7_isIsomorphic_7 ?_
    refine WP.iret dX7_isIsomorphic_8 rfl ?_
    exact PX.same (congrArg (fun z => (z, _)) (cif_f q4)) hV
set_option maxHeartbeats 4000000 in
set_option maxRecDepth 20000 in
theorem x_mapped {M : Mem} {n k h len : Nat} {sz tx : Nat → Nat} {ce : Nat → Nat → Nat} {hs : Nat → AR} {im : Nat → Option AR} (hV : InvX M (mkS n k sz ce h hs im len tx)) {x : Int} (hx : -2147483648 ≤ x ∧ x < 2147483648) {y : Int} (hy : -2147483648 ≤ y ∧ y < 2147483648) {z : Int} (hz : -2147483648 ≤ z ∧ z < 2147483648) : CT 40 m_X7_mapped [vR 42, vI x, vI y, vI z] M (PX M (o_mapped (mkS n k sz ce h hs im len tx) x y z)) := by
  have hT : TX M 0 n k sz ce := hV.1.1
  have hW : Wf n k sz ce := hV.1.2
  have hH : HX M h hs := hV.2.1
  have hIM : IMx M im := hV.2.2.1
  have hS : SX M len tx := hV.2.2.2.1
  have b1 := hW.1
  have b2 := hW.2.1
  have t0 : isT 0 := ⟨rfl, by decide⟩
  have hh8 := hH.1
  have hl3 := hS.1
  refine CT.ofWP (by decide +kernel) (Nat.le_of_ble_eq_true rfl) ?_
  show WP sc0 40 m_X7_mapped 0 [vR 42, vI x, vI y, vI z] [] M (PX M (o_mapped (mkS n k sz ce h hs im len tx) x y z))
  refine WP.iload_n dX7_mapped_0 rfl ?_
  refine WP.callSp (as := [vI x]) dX7_mapped_1 ms_X7_134 rfl (c_X_isImage (by omega)) rfl (Nat.le_of_ble_eq_true rfl) (by omega) ?_
  refine WP.if_eq (tgt := 36) dX7_mapped_4 (by decide) (bi_rng) (fun h4 => ?_) (fun h4 => ?_)
  · skip
    have hbad : ¬ (hI x ∧ hC (mkS n k sz ce h hs im len tx) y ∧ -1 ≤ z ∧ z < ((((mkS n k sz ce h hs im len tx)).1.2.2.1 y.toNat : Nat) : Int)) := fun q9 => bi_0 h4 q9.1
    refine WP.iconst dX7_mapped_36 ?_
    refine WP.iret dX7_mapped_37 rfl ?_
    exact PX.same (o_mapped_0 hbad) hV
  · skip
    have q4 := bi_1 h4
    obtain ⟨i, hi0⟩ : ∃ i : Nat, x.toNat = i := ⟨_, rfl⟩
    have hi1 : x = ((i : Nat) : Int) := by omega
    refine WP.fgt (lt := [vR 42, vI ((i : Nat) : Int), vI y, vI z]) ⟨Or.inr rfl, Or.inr (congrArg vI (hi1.symm)), Or.inr rfl, Or.inr rfl, trivial⟩ ?_
    refine WP.aload_n dX7_mapped_7 rfl ?_
    refine WP.getR (y := 0) dX7_mapped_8 fl_X7_10 (rfl) (by decide) (rfl) ?_
    refine WP.iload_n dX7_mapped_11 rfl ?_
    refine WP.callVp (as := [vI y]) dX7_mapped_12 mv_X7_95 rfl (rfl) (by decide) rfl rfl (c_T_hasColumn t0 hT.2.1 (by omega) (by omega)) rfl (Nat.le_of_ble_eq_true rfl) (by omega) ?_
    refine WP.if_eq (tgt := 36) dX7_mapped_15 (by decide) (bi_rng) (fun h15 => ?_) (fun h15 => ?_)
    · skip
      have hbad : ¬ (hI x ∧ hC (mkS n k sz ce h hs im len tx) y ∧ -1 ≤ z ∧ z < ((((mkS n k sz ce h hs im len tx)).1.2.2.1 y.toNat : Nat) : Int)) := fun q9 => bi_0 h15 q9.2.1
      refine WP.iconst dX7_mapped_36 ?_
      refine WP.iret dX7_mapped_37 rfl ?_
      exact PX.same (o_mapped_0 hbad) hV
    · skip
      have q15 := bi_1 h15
      obtain ⟨c, hc0⟩ : ∃ c : Nat, y.toNat = c := ⟨_, rfl⟩
      have hc1 : y = ((c : Nat) : Int) := by omega
      refine WP.fgt (lt := [vR 42, vI ((i : Nat) : Int), vI ((c : Nat) : Int), vI z]) ⟨Or.inr rfl, Or.inr rfl, Or.inr (congrArg vI (hc1.symm)), Or.inr rfl, trivial⟩ ?_
      refine WP.iload_n dX7_mapped_18 rfl ?_
      refine WP.iconst dX7_mapped_19 ?_
      refine WP.icmp_lt (tgt := 36) dX7_mapped_20 (by decide) (by omega) (by omega) (fun h20 => ?_) (fun h20 => ?_)
      · skip
        have hbad : ¬ (hI x ∧ hC (mkS n k sz ce h hs im len tx) y ∧ -1 ≤ z ∧ z < ((((mkS n k sz ce h hs im len tx)).1.2.2.1 y.toNat : Nat) : Int)) := fun q9 => by have := q9.2.2.1; omega
        refine WP.iconst dX7_mapped_36 ?_
        refine WP.iret dX7_mapped_37 rfl ?_
        exact PX.same (o_mapped_0 hbad) hV
      · skip
        have w1 := hW.2.2.1 c (by omega)
        refine WP.iload_n dX7_mapped_23 rfl ?_
        refine WP.aload_n dX7_mapped_24 rfl ?_
        refine WP.getR (y := 0) dX7_mapped_25 fl_X7_10 (rfl) (by decide) (rfl) ?_
        refine WP.getR (y := 1) dX7_mapped_28 fl_X7_104 (rfl) (by decide) (rfl) ?_
        refine WP.iload_n dX7_mapped_31 rfl ?_
        refine WP.iaload (y := c) (x := ((sz c : Nat) : Int)) dX7_mapped_32 (rfl) (by omega) (by omega) (hT.2.2.1 c (by omega)) ?_
        refine WP.icmp_lt (tgt := 38) dX7_mapped_33 (by decide) (by omega) (by omega) (fun h33 => ?_) (fun h33 => ?_)
        · skip
          have hok : hI x ∧ hC (mkS n k sz ce h hs im len tx) y ∧ -1 ≤ z ∧ z < ((((mkS n k sz ce h hs im len tx)).1.2.2.1 y.toNat : Nat) : Int) := ⟨q4, q15, by omega, (show z < ((sz y.toNat : Nat) : Int) by rw [hc0]; exact h33)⟩
          refine WP.aload_n dX7_mapped_38 rfl ?_
          refine WP.iload_n dX7_mapped_39 rfl ?_
          refine WP.callVp (as := [vI ((i : Nat) : Int)]) dX7_mapped_40 mv_X7_221 rfl (rfl) (by decide) rfl rfl (c_X_canMatch hV (i := i) (by omega)) rfl (Nat.le_of_ble_eq_true rfl) (by omega) ?_
          refine WP.if_ne (tgt := 49) dX7_mapped_43 (by decide) (bi_rng) (fun h43 => ?_) (fun h43 => ?_)
          · skip
            obtain ⟨⟨B, hB⟩, hcm⟩ := bi_1 h43
            refine WP.aload_n dX7_mapped_49 rfl ?_
            refine WP.iload_n dX7_mapped_50 rfl ?_
            refine WP.callV (as := [vI ((i : Nat) : Int)]) dX7_mapped_51 mv_X7_224 rfl (rfl) (by decide) rfl rfl (c_X_hasMatch hV (i := i) (by omega) hB hcm) rfl (Nat.le_of_ble_eq_true rfl) (by omega) (fun r9 M1 h9 => ?_)
            obtain ⟨rfl, hV1, hf1, hx1⟩ := h9
            show WP sc0 40 m_X7_mapped 54 [vR 42, vI ((i : Nat) : Int), vI ((c : Nat) : Int), vI z] [vI (bi (∃ w, iso (n, k, sz, ce) B w))] M1 (PX M (o_mapped (mkS n k sz ce h hs im len tx) x y z))
            refine WP.if_ne (tgt := 60) dX7_mapped_54 (by decide) (bi_rng) (fun h54 => ?_) (fun h54 => ?_)
            · skip
              have q54 := bi_1 h54
              refine WP.iload_n dX7_mapped_60 rfl ?_
              refine WP.iconst dX7_mapped_61 ?_
              refine WP.icmp_ne (tgt := 77) dX7_mapped_62 (by decide) (by omega) (by omega) (fun h62 => ?_) (fun h62 => ?_)
              · skip
                obtain ⟨v, hv0⟩ : ∃ v : Nat, z.toNat = v := ⟨_, rfl⟩
                have hv1 : z = ((v : Nat) : Int) := by omega
                refine WP.fgt (lt := [vR 42, vI ((i : Nat) : Int), vI ((c : Nat) : Int), vI ((v : Nat) : Int)]) ⟨Or.inr rfl, Or.inr rfl, Or.inr rfl, Or.inr (congrArg vI (hv1.symm)), trivial⟩ ?_
                have w4 : sz c ≤ 4 := hcm.2 c (show c < k by omega)
                refine WP.aload_n dX7_mapped_77 rfl ?_
                refine WP.getR (y := 99) dX7_mapped_78 fl_X7_55 (rfl) (by decide) (rfl) ?_
                refine WP.getR (y := 101) dX7_mapped_81 fl_X7_230 (rfl) (by decide) (rfl) ?_
                refine WP.iload_n dX7_mapped_84 rfl ?_
                refine WP.iconst dX7_mapped_85 ?_
                refine WP.imul dX7_mapped_86 ?_
                refine WP.iload_n dX7_mapped_87 rfl ?_
                refine WP.iadd dX7_mapped_88 ?_
                refine WP.iaload (y := (c * 4 + v)) (x := ((imo (lxI (n, k, sz, ce) B c) v : Nat) : Int)) dX7_mapped_89 (rfl) (by omega) (by omega) ((hx1 q54 c (by omega)).2 v (by omega)) ?_
                refine WP.iret dX7_mapped_90 rfl ?_
                subst hi0
                subst hc0
                subst hv0
                have hq : o_mapped (mkS n k sz ce h hs im len tx) x y z = (_, (mkS n k sz ce h hs im len tx)) := (o_mapped_s hok hB hcm).trans (congrArg (fun z => (z, _)) ((cif_t q54).trans ((if_neg (h62)))))
                rw [hq]
                exact ⟨rfl, hV1, hf1⟩
              · skip
                have w4 : sz c ≤ 4 := hcm.2 c (show c < k by omega)
                refine WP.aload_n dX7_mapped_65 rfl ?_
                refine WP.getR (y := 99) dX7_mapped_66 fl_X7_55 (rfl) (by decide) (rfl) ?_
                refine WP.getR (y := 100) dX7_mapped_69 fl_X7_227 (rfl) (by decide) (rfl) ?_
                refine WP.iload_n dX7_mapped_72 rfl ?_
                refine WP.iaload (y := c) (x := ((lxI (n, k, sz, ce) B c / 256 : Nat) : Int)) dX7_mapped_73 (rfl) (by omega) (by omega) ((hx1 q54 c (by omega)).1) ?_
                refine WP.goto (tgt := 90) dX7_mapped_74 (by decide) ?_
                refine WP.iret dX7_mapped_90 rfl ?_
                subst hi0
                subst hc0
                have hq : o_mapped (mkS n k sz ce h hs im len tx) x y z = (_, (mkS n k sz ce h hs im len tx)) := (o_mapped_s hok hB hcm).trans (congrArg (fun z => (z, _)) ((cif_t q54).trans (if_pos h62)))
                rw [hq]
                exact ⟨rfl, hV1, hf1⟩
            · skip
              have q54 := bi_0 h54
              refine WP.bipush dX7_mapped_57 (by decide) ?_
              refine WP.iret dX7_mapped_59 rfl ?_
              subst hi0
              subst hc0
              have hq : o_mapped (mkS n k sz ce h hs im len tx) x y z = (_, (mkS n k sz ce h hs im len tx)) := (o_mapped_s hok hB hcm).trans (congrArg (fun z => (z, _)) (cif_f q54))
              rw [hq]
              exact ⟨rfl, hV1, hf1⟩
          · skip
            have q43 := bi_0 h43
            refine WP.bipush dX7_mapped_46 (by decide) ?_
            refine WP.iret dX7_mapped_48 rfl ?_
            exact PX.same (by subst hi0; exact o_mapped_n hok q43) hV
        · skip
          have hbad : ¬ (hI x ∧ hC (mkS n k sz ce h hs im len tx) y ∧ -1 ≤ z ∧ z < ((((mkS n k sz ce h hs im len tx)).1.2.2.1 y.toNat : Nat) : Int)) := fun q9 => by
            have q8 : z < ((sz y.toNat : Nat) : Int) := q9.2.2.2
            rw [hc0] at q8
            omega
          refine WP.iconst dX7_mapped_36 ?_
          refine WP.iret dX7_mapped_37 rfl ?_
          exact PX.same (o_mapped_0 hbad) hV
