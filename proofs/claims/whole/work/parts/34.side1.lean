def isS (s : Nat) : Prop := s = 103 ∨ s = 135
theorem shS {s : Nat} (h : isS s) : shp s = (5, 0) ∧ shp (s + 1) = (10, 7) ∧ shp (s + 2) = (10, 28) ∧ shp (s + 3) = (10, 28) ∧ shp (s + 4) = (14, 8) ∧ shp (s + 13) = (14, 8) ∧ shp (s + 22) = (14, 8) ∧ shp (s + 31) = (10, 4) := by
  rcases h with rfl | rfl <;> exact ⟨rfl, rfl, rfl, rfl, rfl, rfl, rfl, rfl⟩
theorem shSd : ∀ s, s < 136 → (s = 103 ∨ s = 135) → ∀ d, d < 8 → shp (s + 5 + d) = (11, 18) ∧ shp (s + 14 + d) = (11, 28) ∧ shp (s + 23 + d) = (11, 7) := by decide +kernel
theorem shSk {s d : Nat} (h : isS s) (hd : d < 8) : shp (s + 5 + d) = (11, 18) ∧ shp (s + 14 + d) = (11, 28) ∧ shp (s + 23 + d) = (11, 7) := shSd s (by unfold isS at h; omega) h d hd
theorem srS {s : Nat} (h : isS s) : srf s 1 = s + 1 ∧ srf s 2 = s + 2 ∧ srf s 3 = s + 3 ∧ srf s 4 = s + 4 ∧ srf s 5 = s + 13 ∧ srf s 6 = s + 22 ∧ srf s 7 = s + 31 := by
  rcases h with rfl | rfl <;> exact ⟨rfl, rfl, rfl, rfl, rfl, rfl, rfl⟩
theorem srSd {s d : Nat} (h : isS s) : srf (s + 4) d = s + 5 + d ∧ srf (s + 13) d = s + 14 + d ∧ srf (s + 22) d = s + 23 + d := by
  rcases h with rfl | rfl <;> exact ⟨rfl, rfl, rfl⟩
theorem oi_l {x : Nat} (h : x < 2147483648) : (Int32.ofInt ((x : Nat) : Int)).toInt64 = Int64.ofNat x := by
  rw [← Int64.toInt_inj, Int32.toInt_toInt64, oi_t (by omega), Int64.toInt_ofNat_of_lt (by omega)]
theorem lo_ti (x : Int64) : Int64.ofInt x.toInt = x := Int64.ofInt_toInt x
theorem lo_0 : Int64.ofInt (Int64.toInt 0) = 0 := by decide
set_option maxHeartbeats 4000000 in
set_option maxRecDepth 20000 in
theorem c_Z_mix {M : Mem} {x : Int64} : CT 1 m_X5_mix [vL x] M (Rt (some (vL (mixv x))) M) := by
  refine CT.ofWP (by decide +kernel) (Nat.le_of_ble_eq_true rfl) ?_
  show WP sc0 1 m_X5_mix 0 [vL x, vU, vU, vU] [] M (Rt (some (vL (mixv x))) M)
  refine WP.lload_n dX5_mix_0 rfl ?_
  refine WP.lconst (v := 1) dX5_mix_1 (by decide) ?_
  refine WP.ladd dX5_mix_2 ?_
  refine WP.ldc2 dX5_mix_3 w_k_X5_84 ?_
  refine WP.lmul dX5_mix_6 ?_
  refine WP.lstore_n (lt := [vL x, vU, vL ((x + (1 : Int64)) * (-7046029254386353131 : Int64)), vU]) dX5_mix_7 (by decide) rfl ?_
  refine WP.lload_n dX5_mix_8 rfl ?_
  refine WP.lload_n dX5_mix_9 rfl ?_
  refine WP.bipush dX5_mix_10 (by decide) ?_
  refine WP.lushr (z := (lS ((x + (1 : Int64)) * (-7046029254386353131 : Int64)) 32)) dX5_mix_12 (rfl) ?_
  refine WP.lxor dX5_mix_13 ?_
  refine WP.ldc2 dX5_mix_14 w_k_X5_86 ?_
  refine WP.lmul dX5_mix_17 ?_
  refine WP.lstore_n (lt := [vL x, vU, vL ((((x + (1 : Int64)) * (-7046029254386353131 : Int64)) ^^^ (lS ((x + (1 : Int64)) * (-7046029254386353131 : Int64)) 32)) * (-2960836687051489901 : Int64)), vU]) dX5_mix_18 (by decide) rfl ?_
  refine WP.lload_n dX5_mix_19 rfl ?_
  refine WP.lload_n dX5_mix_20 rfl ?_
  refine WP.bipush dX5_mix_21 (by decide) ?_
  refine WP.lushr (z := (lS ((((x + (1 : Int64)) * (-7046029254386353131 : Int64)) ^^^ (lS ((x + (1 : Int64)) * (-7046029254386353131 : Int64)) 32)) * (-2960836687051489901 : Int64)) 32)) dX5_mix_23 (rfl) ?_
  refine WP.lxor dX5_mix_24 ?_
  refine WP.lret dX5_mix_25 rfl ?_
  exact ⟨rfl, rfl⟩
/-- a side's labels -/
def LB (M : Mem) (s k : Nat) (sz : Nat → Nat) (cl : Nat → Nat) (ll : Nat → Nat → Nat) : Prop := ∀ c, c < k → (M (s + 1) c = (cl c : Int) ∧ cl c ≤ 8) ∧ ∀ v, v < sz c → M (s + 2) (c * 4 + v) = (ll c v : Int) ∧ ll c v ≤ 8
set_option maxHeartbeats 4000000 in
set_option maxRecDepth 20000 in
theorem c_Z_gather {M : Mem} {a b e : Nat} {rk : Nat → Int64} {s t n k : Nat} {sz : Nat → Nat} {ce : Nat → Nat → Nat} (hs : isS s) (ht : isT t) (hT : TX M t n k sz ce) (hW : Wf n k sz ce) (hn : n ≤ 18) (h4 : ∀ c, c < k → sz c ≤ 4) (hm0 : M s 0 = (t : Int)) {cl : Nat → Nat} {ll : Nat → Nat → Nat} (hL : LB M s k sz cl ll) (ha : shp a = (11, 18)) (hb : shp b = (11, 28)) (he : shp e = (11, 7)) (hra : ∀ r, r < n → Int64.ofInt (M a r) = rk r) : CT 2 m_X5_gather [vR s, vR a, vR b, vR e] M (fun z M' => z = none ∧ (∀ x, x ≠ b → x ≠ e → M' x = M x) ∧ (∀ c, c < k → ∀ v, v < sz c → Int64.ofInt (M' b (c * 4 + v)) = kGL n sz ce cl ll rk c v) ∧ ∀ c, c < k → Int64.ofInt (M' e c) = kGC n sz ce cl ll rk c) := by
  have b1 := hW.1
  have b2 := hW.2.1
  have nb : ∀ x p q, shp x = (p, q) → p ≠ 11 → b ≠ x ∧ e ≠ x := fun x p q hx hp => ⟨fun z => by rw [← z, hb] at hx; cases hx; exact hp rfl, fun z => by rw [← z, he] at hx; cases hx; exact hp rfl⟩
  have hab : a ≠ b := fun z => by rw [z, hb] at ha; cases ha
  have hae : a ≠ e := fun z => by rw [z, he] at ha; cases ha
  have hbe : b ≠ e := fun z => by rw [z, he] at hb; cases hb
  have q0 := nb s _ _ (shS hs).1 (by decide)
  have q1 := nb t _ _ (shT0 ht) (by decide)
  have q2 := nb (t + 1) _ _ (shT1 ht) (by decide)
  have q3 := nb (t + 2) _ _ (shT2 ht) (by decide)
  have q4 := nb (s + 1) _ _ (shS hs).2.1 (by decide)
  have q5 := nb (s + 2) _ _ (shS hs).2.2.1 (by decide)
  have hbs : s ≠ b ∧ t ≠ b ∧ t + 1 ≠ b ∧ t + 2 ≠ b ∧ s + 1 ≠ b ∧ s + 2 ≠ b := ⟨q0.1.symm, q1.1.symm, q2.1.symm, q3.1.symm, q4.1.symm, q5.1.symm⟩
  have hes : s ≠ e ∧ t ≠ e ∧ t + 1 ≠ e ∧ t + 2 ≠ e ∧ s + 1 ≠ e ∧ s + 2 ≠ e := ⟨q0.2.symm, q1.2.symm, q2.2.symm, q3.2.symm, q4.2.symm, q5.2.symm⟩
  refine CT.ofWP (by decide +kernel) (Nat.le_of_ble_eq_true rfl) ?_
  show WP sc0 2 m_X5_gather 0 [vR s, vR a, vR b, vR e, vU, vU, vU, vU, vU, vU] [] M (fun z M' => z = none ∧ (∀ x, x ≠ b → x ≠ e → M' x = M x) ∧ (∀ c, c < k → ∀ v, v < sz c → Int64.ofInt (M' b (c * 4 + v)) = kGL n sz ce cl ll rk c v) ∧ ∀ c, c < k → Int64.ofInt (M' e c) = kGC n sz ce cl ll rk c)
  refine WP.iconst dX5_gather_0 ?_
  refine WP.istore (lt := [vR s, vR a, vR b, vR e, vI (0 : Int), vU, vU, vU, vU, vU]) dX5_gather_1 (by decide) rfl ?_
  have L3 : ∀ (n9 : Nat) (c : Nat) (M1 : Mem) (hc : c ≤ k) (hF1 : ∀ x, x ≠ b → x ≠ e → M1 x = M x) (hP1 : ∀ d, d < c → (∀ v, v < sz d → Int64.ofInt (M1 b (d * 4 + v)) = kGL n sz ce cl ll rk d v) ∧ Int64.ofInt (M1 e d) = kGC n sz ce cl ll rk d), k - c < n9 → WP sc0 2 m_X5_gather 3 [vR s, vR a, vR b, vR e, vI ((c : Nat) : Int), vU, vU, vU, vU, vU] [] M1 (fun z M' => z = none ∧ (∀ x, x ≠ b → x ≠ e → M' x = M x) ∧ (∀ c, c < k → ∀ v, v < sz c → Int64.ofInt (M' b (c * 4 + v)) = kGL n sz ce cl ll rk c v) ∧ ∀ c, c < k → Int64.ofInt (M' e c) = kGC n sz ce cl ll rk c) := by
    intro n9
    induction n9 with
    | zero =>
      intro c M1 hc hF1 hP1 hm9
      exact absurd hm9 (Nat.not_lt_zero _)
    | succ n9 ih3 =>
      intro c M1 hc hF1 hP1 hm9
      have hm1 : M1 s 0 = (t : Int) := by rw [hF1 s hbs.1 hes.1]; exact hm0
      have hT1 : TX M1 t n k sz ce := hT.fr (hF1 t hbs.2.1 hes.2.1) (hF1 (t + 1) hbs.2.2.1 hes.2.2.1) (hF1 (t + 2) hbs.2.2.2.1 hes.2.2.2.1)
      refine WP.iload dX5_gather_3 rfl ?_
      refine WP.aload_n dX5_gather_5 rfl ?_
      refine WP.getM (y := t) dX5_gather_6 fl_X5_12 ((shS hs).1) (by decide) (hm1) ?_
      refine WP.getI (x := ((k : Nat) : Int)) dX5_gather_9 fl_X5_57 (shT0 ht) (by decide) (hT1.2.1) ?_
      refine WP.icmp_ge (tgt := 220) dX5_gather_12 (by decide) (by omega) (by omega) (fun h12 => ?_) (fun h12 => ?_)
      · skip
        refine WP.vret dX5_gather_220 rfl ?_
        exact ⟨rfl, hF1, fun d hd => (hP1 d (by omega)).1, fun d hd => (hP1 d (by omega)).2⟩
      · skip
        have w1 := hW.2.2.1 c (by omega)
        have w4 := h4 c (by omega)
        refine WP.iload dX5_gather_15 rfl ?_
        refine WP.iconst dX5_gather_17 ?_
        refine WP.imul dX5_gather_18 ?_
        refine WP.istore (lt := [vR s, vR a, vR b, vR e, vI ((c : Nat) : Int), vI (((c : Nat) : Int) * (4 : Int)), vU, vU, vU, vU]) dX5_gather_19 (by decide) rfl ?_
        refine WP.iload dX5_gather_21 rfl ?_
        refine WP.aload_n dX5_gather_23 rfl ?_
        refine WP.getM (y := t) dX5_gather_24 fl_X5_12 ((shS hs).1) (by decide) (hm1) ?_
        refine WP.getR (y := (t + 1)) dX5_gather_27 fl_X5_67 (shT0 ht) (by decide) (srT1 ht) ?_
        refine WP.iload dX5_gather_30 rfl ?_
        refine WP.iaload (y := c) (x := ((sz c : Nat) : Int)) dX5_gather_32 (shT1 ht) (by omega) (by omega) (hT1.2.2.1 c (by omega)) ?_
        refine WP.iadd dX5_gather_33 ?_
        refine WP.istore (lt := [vR s, vR a, vR b, vR e, vI ((c : Nat) : Int), vI (((c : Nat) : Int) * (4 : Int)), vI ((((c : Nat) : Int) * (4 : Int)) + ((sz c : Nat) : Int)), vU, vU, vU]) dX5_gather_34 (by decide) rfl ?_
        refine WP.iload dX5_gather_36 rfl ?_
        refine WP.istore (lt := [vR s, vR a, vR b, vR e, vI ((c : Nat) : Int), vI (((c : Nat) : Int) * (4 : Int)), vI ((((c : Nat) : Int) * (4 : Int)) + ((sz c : Nat) : Int)), vI (((c : Nat) : Int) * (4 : Int)), vU, vU]) dX5_gather_38 (by decide) rfl ?_
        have L40 : ∀ (n9 : Nat) (v : Nat) (M2 : Mem) (hv : v ≤ sz c) (hF2 : ∀ x, x ≠ b → x ≠ e → M2 x = M x) (hP2 : ∀ d, d < c → (∀ v, v < sz d → Int64.ofInt (M2 b (d * 4 + v)) = kGL n sz ce cl ll rk d v) ∧ Int64.ofInt (M2 e d) = kGC n sz ce cl ll rk d) (hZ : ∀ u, u < v → M2 b (c * 4 + u) = 0), sz c - v < n9 → WP sc0 2 m_X5_gather 40 [vR s, vR a, vR b, vR e, vI ((c : Nat) : Int), vI ((c * 4 : Nat) : Int), vI ((c * 4 + sz c : Nat) : Int), vI ((c * 4 + v : Nat) : Int), vU, vU] [] M2 (fun z M' => z = none ∧ (∀ x, x ≠ b → x ≠ e → M' x = M x) ∧ (∀ c, c < k → ∀ v, v < sz c → Int64.ofInt (M' b (c * 4 + v)) = kGL n sz ce cl ll rk c v) ∧ ∀ c, c < k → Int64.ofInt (M' e c) = kGC n sz ce cl ll rk c) := by
          intro n9
          induction n9 with
          | zero =>
            intro v M2 hv hF2 hP2 hZ hm9
            exact absurd hm9 (Nat.not_lt_zero _)
          | succ n9 ih40 =>
            intro v M2 hv hF2 hP2 hZ hm9
            refine WP.iload dX5_gather_40 rfl ?_
            refine WP.iload dX5_gather_42 rfl ?_
            refine WP.icmp_ge (tgt := 58) dX5_gather_44 (by decide) (by omega) (by omega) (fun h44 => ?_) (fun h44 => ?_)
            · skip
              refine WP.iconst dX5_gather_58 ?_
              refine WP.istore (lt := [vR s, vR a, vR b, vR e, vI ((c : Nat) : Int), vI ((c * 4 : Nat) : Int), vI ((c * 4 + sz c : Nat) : Int), vI (0 : Int), vU, vU]) dX5_gather_59 (by decide) rfl ?_
              have L61 : ∀ (n9 : Nat) (r : Nat) (M3 : Mem) (hr : r ≤ n) (hF3 : ∀ x, x ≠ b → x ≠ e → M3 x = M x) (hP3 : ∀ d, d < c → (∀ v, v < sz d → Int64.ofInt (M3 b (d * 4 + v)) = kGL n sz ce cl ll rk d v) ∧ Int64.ofInt (M3 e d) = kGC n sz ce cl ll rk d) (hZ3 : ∀ u, u < sz c → Int64.ofInt (M3 b (c * 4 + u)) = (lsm (fun y9 => cif (ce y9 c = u) (rk y9) 0) r)), n - r < n9 → WP sc0 2 m_X5_gather 61 [vR s, vR a, vR b, vR e, vI ((c : Nat) : Int), vI ((c * 4 : Nat) : Int), vI ((c * 4 + sz c : Nat) : Int), vI ((r : Nat) : Int), vU, vU] [] M3 (fun z M' => z = none ∧ (∀ x, x ≠ b → x ≠ e → M' x = M x) ∧ (∀ c, c < k → ∀ v, v < sz c → Int64.ofInt (M' b (c * 4 + v)) = kGL n sz ce cl ll rk c v) ∧ ∀ c, c < k → Int64.ofInt (M' e c) = kGC n sz ce cl ll rk c) := by
                intro n9
                induction n9 with
                | zero =>
                  intro r M3 hr hF3 hP3 hZ3 hm9
                  exact absurd hm9 (Nat.not_lt_zero _)
                | succ n9 ih61 =>
                  intro r M3 hr hF3 hP3 hZ3 hm9
                  have hm3 : M3 s 0 = (t : Int) := by rw [hF3 s hbs.1 hes.1]; exact hm0
                  have hT3 : TX M3 t n k sz ce := hT.fr (hF3 t hbs.2.1 hes.2.1) (hF3 (t + 1) hbs.2.2.1 hes.2.2.1) (hF3 (t + 2) hbs.2.2.2.1 hes.2.2.2.1)
                  have hra3 : ∀ r, r < n → Int64.ofInt (M3 a r) = rk r := fun r hr => by rw [hF3 a hab hae]; exact hra r hr
                  refine WP.iload dX5_gather_61 rfl ?_
                  refine WP.aload_n dX5_gather_63 rfl ?_
                  refine WP.getM (y := t) dX5_gather_64 fl_X5_12 ((shS hs).1) (by decide) (hm3) ?_
                  refine WP.getI (x := ((n : Nat) : Int)) dX5_gather_67 fl_X5_45 (shT0 ht) (by decide) (hT3.1) ?_
                  refine WP.icmp_ge (tgt := 102) dX5_gather_70 (by decide) (by omega) (by omega) (fun h70 => ?_) (fun h70 => ?_)
                  · skip
                    refine WP.aload_n dX5_gather_102 rfl ?_
                    refine WP.getM (y := t) dX5_gather_103 fl_X5_12 ((shS hs).1) (by decide) (hm3) ?_
                    refine WP.getR (y := (t + 1)) dX5_gather_106 fl_X5_67 (shT0 ht) (by decide) (srT1 ht) ?_
                    refine WP.iload dX5_gather_109 rfl ?_
                    refine WP.iaload (y := c) (x := ((sz c : Nat) : Int)) dX5_gather_111 (shT1 ht) (by omega) (by omega) (hT3.2.2.1 c (by omega)) ?_
                    refine WP.bipush dX5_gather_112 (by decide) ?_
                    refine WP.imul dX5_gather_114 ?_
                    have w7 := (hL c (by omega)).1.2
                    refine WP.aload_n dX5_gather_115 rfl ?_
                    refine WP.getR (y := (s + 1)) dX5_gather_116 fl_X5_18 ((shS hs).1) (by decide) ((srS hs).1) ?_
                    refine WP.iload dX5_gather_119 rfl ?_
                    refine WP.iaload (y := c) (x := ((cl c : Nat) : Int)) dX5_gather_121 ((shS hs).2.1) (by omega) (by omega) (by rw [hF3 (s + 1) hbs.2.2.2.2.1 hes.2.2.2.2.1]; exact (hL c (by omega)).1.1) ?_
                    refine WP.iadd dX5_gather_122 ?_
                    refine WP.i2l (z := (Int64.ofNat (sz c * 8 + cl c))) dX5_gather_123 (by rw [show ((((sz c : Nat) : Int) * (8 : Int)) + ((cl c : Nat) : Int)) = ((sz c * 8 + cl c : Nat) : Int) by omega]; exact oi_l (by omega)) ?_
                    refine WP.lstore (lt := [vR s, vR a, vR b, vR e, vI ((c : Nat) : Int), vI ((c * 4 : Nat) : Int), vI ((c * 4 + sz c : Nat) : Int), vL (Int64.ofNat (sz c * 8 + cl c)), vU, vU]) dX5_gather_124 (by decide) rfl ?_
                    refine WP.iload dX5_gather_126 rfl ?_
                    refine WP.istore (lt := [vR s, vR a, vR b, vR e, vI ((c : Nat) : Int), vI ((c * 4 : Nat) : Int), vI ((c * 4 + sz c : Nat) : Int), vL (Int64.ofNat (sz c * 8 + cl c)), vU, vI ((c * 4 : Nat) : Int)]) dX5_gather_128 (by decide) rfl ?_
                    have L130 : ∀ (n9 : Nat) (v : Nat) (M4 : Mem) (hv : v ≤ sz c) (hF4 : ∀ x, x ≠ b → x ≠ e → M4 x = M x) (hP4 : ∀ d, d < c → (∀ v, v < sz d → Int64.ofInt (M4 b (d * 4 + v)) = kGL n sz ce cl ll rk d v) ∧ Int64.ofInt (M4 e d) = kGC n sz ce cl ll rk d) (hU4 : ∀ u, u < v → Int64.ofInt (M4 b (c * 4 + u)) = kG1 n ce ll rk c u) (hV4 : ∀ u, v ≤ u → u < sz c → Int64.ofInt (M4 b (c * 4 + u)) = (lsm (fun y9 => cif (ce y9 c = u) (rk y9) 0) n)), sz c - v < n9 → WP sc0 2 m_X5_gather 130 [vR s, vR a, vR b, vR e, vI ((c : Nat) : Int), vI ((c * 4 : Nat) : Int), vI ((c * 4 + sz c : Nat) : Int), vL (Int64.ofNat (sz c * 8 + cl c) + lsm (kG1 n ce ll rk c) v), vU, vI ((c * 4 + v : Nat) : Int)] [] M4 (fun z M' => z = none ∧ (∀ x, x ≠ b → x ≠ e → M' x = M x) ∧ (∀ c, c < k → ∀ v, v < sz c → Int64.ofInt (M' b (c * 4 + v)) = kGL n sz ce cl ll rk c v) ∧ ∀ c, c < k → Int64.ofInt (M' e c) = kGC n sz ce cl ll rk c) := by
                      intro n9
                      induction n9 with
                      | zero =>
                        intro v M4 hv hF4 hP4 hU4 hV4 hm9
                        exact absurd hm9 (Nat.not_lt_zero _)
                      | succ n9 ih130 =>
                        intro v M4 hv hF4 hP4 hU4 hV4 hm9
                        refine WP.iload dX5_gather_130 rfl ?_
                        refine WP.iload dX5_gather_132 rfl ?_
                        refine WP.icmp_ge (tgt := 172) dX5_gather_134 (by decide) (by omega) (by omega) (fun h134 => ?_) (fun h134 => ?_)
                        · skip
                          have hvs : v = sz c := by omega
                          rw [hvs]
                          refine WP.aload_n dX5_gather_172 rfl ?_
                          refine WP.iload dX5_gather_173 rfl ?_
                          refine WP.lload dX5_gather_175 rfl ?_
                          refine WP.callSp (as := [vL (Int64.ofNat (sz c * 8 + cl c) + lsm (kG1 n ce ll rk c) (sz c))]) dX5_gather_177 ms_X5_53 rfl (c_Z_mix) rfl (Nat.le_of_ble_eq_true rfl) (by omega) ?_
                          refine WP.lastore (y := c) dX5_gather_180 (he) (by omega) (by omega) rfl ?_
                          obtain ⟨M5, hM5⟩ : ∃ z, z = (mset M4 e c ((kGC n sz ce cl ll rk c)).toInt) := ⟨_, rfl⟩
                          refine WP.eqM hM5.symm ?_
                          have hO5 : ∀ x, x ≠ e → M5 x = M4 x := fun x hx => by rw [hM5]; exact mset_o x hx
                          have hF5 : ∀ x, x ≠ b → x ≠ e → M5 x = M x := fun x i1 i2 => (hO5 x i2).trans (hF4 x i1 i2)
                          have hE5 : Int64.ofInt (M5 e c) = kGC n sz ce cl ll rk c := by rw [hM5, mset_s, lo_ti]
                          have hP5 : ∀ d, d < c → (∀ v, v < sz d → Int64.ofInt (M5 b (d * 4 + v)) = kGL n sz ce cl ll rk d v) ∧ Int64.ofInt (M5 e d) = kGC n sz ce cl ll rk d := fun d hd => ⟨fun v hv => by rw [hO5 b hbe]; exact (hP4 d hd).1 v hv, by rw [hM5, mset_n (Or.inr (by omega))]; exact (hP4 d hd).2⟩
                          refine WP.iload dX5_gather_181 rfl ?_
                          refine WP.istore (lt := [vR s, vR a, vR b, vR e, vI ((c : Nat) : Int), vI ((c * 4 : Nat) : Int), vI ((c * 4 + sz c : Nat) : Int), vL (Int64.ofNat (sz c * 8 + cl c) + lsm (kG1 n ce ll rk c) (sz c)), vU, vI ((c * 4 : Nat) : Int)]) dX5_gather_183 (by decide) rfl ?_
                          have L185 : ∀ (n9 : Nat) (v : Nat) (M6 : Mem) (hv6 : v ≤ sz c) (hF6 : ∀ x, x ≠ b → x ≠ e → M6 x = M x) (hP6 : ∀ d, d < c → (∀ v, v < sz d → Int64.ofInt (M6 b (d * 4 + v)) = kGL n sz ce cl ll rk d v) ∧ Int64.ofInt (M6 e d) = kGC n sz ce cl ll rk d) (hU6 : ∀ u, u < v → Int64.ofInt (M6 b (c * 4 + u)) = kGL n sz ce cl ll rk c u) (hV6 : ∀ u, v ≤ u → u < sz c → Int64.ofInt (M6 b (c * 4 + u)) = kG1 n ce ll rk c u) (hE6 : Int64.ofInt (M6 e c) = kGC n sz ce cl ll rk c), sz c - v < n9 → WP sc0 2 m_X5_gather 185 [vR s, vR a, vR b, vR e, vI ((c : Nat) : Int), vI ((c * 4 : Nat) : Int), vI ((c * 4 + sz c : Nat) : Int), vU, vU, vI ((c * 4 + v : Nat) : Int)] [] M6 (fun z M' => z = none ∧ (∀ x, x ≠ b → x ≠ e → M' x = M x) ∧ (∀ c, c < k → ∀ v, v < sz c → Int64.ofInt (M' b (c * 4 + v)) = kGL n sz ce cl ll rk c v) ∧ ∀ c, c < k → Int64.ofInt (M' e c) = kGC n sz ce cl ll rk c) := by
                            intro n9
                            induction n9 with
                            | zero =>
                              intro v M6 hv6 hF6 hP6 hU6 hV6 hE6 hm9
                              exact absurd hm9 (Nat.not_lt_zero _)
                            | succ n9 ih185 =>
                              intro v M6 hv6 hF6 hP6 hU6 hV6 hE6 hm9
                              refine WP.iload dX5_gather_185 rfl ?_
                              refine WP.iload dX5_gather_187 rfl ?_
                              refine WP.icmp_ge (tgt := 214) dX5_gather_189 (by decide) (by omega) (by omega) (fun h189 => ?_) (fun h189 => ?_)
                              · skip
                                refine WP.iinc (lt := [vR s, vR a, vR b, vR e, vI (((c : Nat) : Int) + 1), vI ((c * 4 : Nat) : Int), vI ((c * 4 + sz c : Nat) : Int), vU, vU, vI ((c * 4 + v : Nat) : Int)]) dX5_gather_214 rfl (by decide) rfl ?_
                                refine WP.goto (tgt := 3) dX5_gather_217 (by decide) ?_
                                refine WP.fgt (lt := [vR s, vR a, vR b, vR e, vI (((c + 1) : Nat) : Int), vU, vU, vU, vU, vU]) ⟨Or.inr rfl, Or.inr rfl, Or.inr rfl, Or.inr rfl, Or.inr (congrArg vI (by omega)), Or.inl rfl, Or.inl rfl, Or.inl rfl, Or.inl rfl, Or.inl rfl, trivial⟩ ?_
                                exact ih3 (c + 1) (M6) (by omega) (hF6) (fun d hd => by
                                  by_cases e9 : d = c
                                  · rw [e9]; exact ⟨fun v hv => hU6 v (by omega), hE6⟩
                                  · exact hP6 d (by omega)) (by omega)
                              · skip
                                refine WP.aload_n dX5_gather_192 rfl ?_
                                refine WP.iload dX5_gather_193 rfl ?_
                                refine WP.aload_n dX5_gather_195 rfl ?_
                                refine WP.iload dX5_gather_196 rfl ?_
                                refine WP.laload (y := (c * 4 + v)) (x := (kG1 n ce ll rk c v)) dX5_gather_198 (hb) (by omega) (by omega) (hV6 v (Nat.le_refl _) (by omega)) ?_
                                refine WP.aload_n dX5_gather_199 rfl ?_
                                refine WP.iload dX5_gather_200 rfl ?_
                                refine WP.laload (y := c) (x := (kGC n sz ce cl ll rk c)) dX5_gather_202 (he) (by omega) (by omega) (hE6) ?_
                                refine WP.ladd dX5_gather_203 ?_
                                refine WP.callSp (as := [vL ((kG1 n ce ll rk c v) + (kGC n sz ce cl ll rk c))]) dX5_gather_204 ms_X5_53 rfl (c_Z_mix) rfl (Nat.le_of_ble_eq_true rfl) (by omega) ?_
                                refine WP.lastore (y := (c * 4 + v)) dX5_gather_207 (hb) (by omega) (by omega) rfl ?_
                                obtain ⟨M60, hM60⟩ : ∃ z, z = (mset M6 b ((c * 4 + v)) ((kGL n sz ce cl ll rk c v)).toInt) := ⟨_, rfl⟩
                                refine WP.eqM hM60.symm ?_
                                have hO60 : ∀ x, x ≠ b → M60 x = M6 x := fun x hx => by rw [hM60]; exact mset_o x hx
                                refine WP.iinc (lt := [vR s, vR a, vR b, vR e, vI ((c : Nat) : Int), vI ((c * 4 : Nat) : Int), vI ((c * 4 + sz c : Nat) : Int), vU, vU, vI (((c * 4 + v : Nat) : Int) + 1)]) dX5_gather_208 rfl (by decide) rfl ?_
                                refine WP.goto (tgt := 185) dX5_gather_211 (by decide) ?_
                                refine WP.fgt (lt := [vR s, vR a, vR b, vR e, vI ((c : Nat) : Int), vI ((c * 4 : Nat) : Int), vI ((c * 4 + sz c : Nat) : Int), vU, vU, vI ((c * 4 + (v + 1) : Nat) : Int)]) ⟨Or.inr rfl, Or.inr rfl, Or.inr rfl, Or.inr rfl, Or.inr rfl, Or.inr rfl, Or.inr rfl, Or.inl rfl, Or.inl rfl, Or.inr (congrArg vI (by omega)), trivial⟩ ?_
                                exact ih185 (v + 1) (M60) (by omega) (fun x i1 i2 => (hO60 x i1).trans (hF6 x i1 i2)) (fun d hd => by
                                  obtain ⟨i1, i2⟩ := hP6 d hd
                                  have w5 := h4 d (by omega)
                                  refine ⟨fun v hv => ?_, by rw [hM60, mset_o e hbe.symm]; exact i2⟩
                                  rw [hM60, mset_n (Or.inr (by omega))]
                                  exact i1 v hv) (fun u hu => by
                                  rw [hM60]
                                  by_cases e9 : u = v
                                  · rw [e9, mset_s, lo_ti]
                                  · rw [mset_n (Or.inr (by omega))]; exact hU6 u (by omega)) (fun u i1 hu => by rw [hM60, mset_n (Or.inr (by omega))]; exact hV6 u (by omega) hu) (by rw [hO60 e hbe.symm]; exact hE6) (by omega)
                          refine WP.fgt (lt := [vR s, vR a, vR b, vR e, vI ((c : Nat) : Int), vI ((c * 4 : Nat) : Int), vI ((c * 4 + sz c : Nat) : Int), vU, vU, vI ((c * 4 + 0 : Nat) : Int)]) ⟨Or.inr rfl, Or.inr rfl, Or.inr rfl, Or.inr rfl, Or.inr rfl, Or.inr rfl, Or.inr rfl, Or.inl rfl, Or.inl rfl, Or.inr (congrArg vI (by omega)), trivial⟩ ?_
                          exact L185 _ (0) (M5) (Nat.zero_le _) (hF5) (hP5) (fun u hu => absurd hu (Nat.not_lt_zero u)) (fun u _ hu => by rw [hO5 b hbe]; exact hU4 u (by omega)) (hE5) (Nat.lt_succ_self _)
                        · skip
                          refine WP.aload_n dX5_gather_137 rfl ?_
                          refine WP.iload dX5_gather_138 rfl ?_
                          refine WP.aload_n dX5_gather_140 rfl ?_
                          refine WP.iload dX5_gather_141 rfl ?_
                          refine WP.laload (y := (c * 4 + v)) (x := (lsm (fun y9 => cif (ce y9 c = v) (rk y9) 0) n)) dX5_gather_143 (hb) (by omega) (by omega) (hV4 v (Nat.le_refl _) (by omega)) ?_
                          refine WP.aload_n dX5_gather_144 rfl ?_
                          refine WP.getR (y := (s + 2)) dX5_gather_145 fl_X5_22 ((shS hs).1) (by decide) ((srS hs).2.1) ?_
                          refine WP.iload dX5_gather_148 rfl ?_
                          refine WP.iaload (y := (c * 4 + v)) (x := ((ll c v : Nat) : Int)) dX5_gather_150 ((shS hs).2.2.1) (by omega) (by omega) (by rw [hF4 (s + 2) hbs.2.2.2.2.2 hes.2.2.2.2.2]; exact ((hL c (by omega)).2 v (by omega)).1) ?_
                          refine WP.i2l (z := (Int64.ofNat (ll c v))) dX5_gather_151 (oi_l (by have := ((hL c (by omega)).2 v (by omega)).2; omega)) ?_
                          refine WP.ladd dX5_gather_152 ?_
                          refine WP.callSp (as := [vL ((lsm (fun y9 => cif (ce y9 c = v) (rk y9) 0) n) + (Int64.ofNat (ll c v)))]) dX5_gather_153 ms_X5_53 rfl (c_Z_mix) rfl (Nat.le_of_ble_eq_true rfl) (by omega) ?_
                          refine WP.lastore (y := (c * 4 + v)) dX5_gather_156 (hb) (by omega) (by omega) rfl ?_
                          obtain ⟨M40, hM40⟩ : ∃ z, z = (mset M4 b ((c * 4 + v)) ((kG1 n ce ll rk c v)).toInt) := ⟨_, rfl⟩
                          refine WP.eqM hM40.symm ?_
                          have hO40 : ∀ x, x ≠ b → M40 x = M4 x := fun x hx => by rw [hM40]; exact mset_o x hx
                          refine WP.lload dX5_gather_157 rfl ?_
                          refine WP.aload_n dX5_gather_159 rfl ?_
                          refine WP.iload dX5_gather_160 rfl ?_
                          refine WP.laload (y := (c * 4 + v)) (x := (kG1 n ce ll rk c v)) dX5_gather_162 (hb) (by omega) (by omega) (by rw [hM40, mset_s, lo_ti]) ?_
                          refine WP.ladd dX5_gather_163 ?_
                          refine WP.lstore (lt := [vR s, vR a, vR b, vR e, vI ((c : Nat) : Int), vI ((c * 4 : Nat) : Int), vI ((c * 4 + sz c : Nat) : Int), vL ((Int64.ofNat (sz c * 8 + cl c) + lsm (kG1 n ce ll rk c) v) + (kG1 n ce ll rk c v)), vU, vI ((c * 4 + v : Nat) : Int)]) dX5_gather_164 (by decide) rfl ?_
                          refine WP.iinc (lt := [vR s, vR a, vR b, vR e, vI ((c : Nat) : Int), vI ((c * 4 : Nat) : Int), vI ((c * 4 + sz c : Nat) : Int), vL ((Int64.ofNat (sz c * 8 + cl c) + lsm (kG1 n ce ll rk c) v) + (kG1 n ce ll rk c v)), vU, vI (((c * 4 + v : Nat) : Int) + 1)]) dX5_gather_166 rfl (by decide) rfl ?_
                          refine WP.goto (tgt := 130) dX5_gather_169 (by decide) ?_
                          refine WP.fgt (lt := [vR s, vR a, vR b, vR e, vI ((c : Nat) : Int), vI ((c * 4 : Nat) : Int), vI ((c * 4 + sz c : Nat) : Int), vL (Int64.ofNat (sz c * 8 + cl c) + lsm (kG1 n ce ll rk c) (v + 1)), vU, vI ((c * 4 + (v + 1) : Nat) : Int)]) ⟨Or.inr rfl, Or.inr rfl, Or.inr rfl, Or.inr rfl, Or.inr rfl, Or.inr rfl, Or.inr rfl, Or.inr (congrArg vL (by rw [lsm, Int64.add_assoc])), Or.inl rfl, Or.inr (congrArg vI (by omega)), trivial⟩ ?_
                          exact ih130 (v + 1) (M40) (by omega) (fun x i1 i2 => (hO40 x i1).trans (hF4 x i1 i2)) (fun d hd => by
                            obtain ⟨i1, i2⟩ := hP4 d hd
                            have w5 := h4 d (by omega)
                            refine ⟨fun v hv => ?_, by rw [hM40, mset_o e hbe.symm]; exact i2⟩
                            rw [hM40, mset_n (Or.inr (by omega))]
                            exact i1 v hv) (fun u hu => by
                            rw [hM40]
                            by_cases e9 : u = v
                            · rw [e9, mset_s, lo_ti]
                            · rw [mset_n (Or.inr (by omega))]; exact hU4 u (by omega)) (fun u i1 hu => by rw [hM40, mset_n (Or.inr (by omega))]; exact hV4 u (by omega) hu) (by omega)
                    refine WP.fgt (lt := [vR s, vR a, vR b, vR e, vI ((c : Nat) : Int), vI ((c * 4 : Nat) : Int), vI ((c * 4 + sz c : Nat) : Int), vL (Int64.ofNat (sz c * 8 + cl c) + lsm (kG1 n ce ll rk c) 0), vU, vI ((c * 4 + 0 : Nat) : Int)]) ⟨Or.inr rfl, Or.inr rfl, Or.inr rfl, Or.inr rfl, Or.inr rfl, Or.inr rfl, Or.inr rfl, Or.inr (congrArg vL (by rw [lsm, Int64.add_zero])), Or.inl rfl, Or.inr (congrArg vI (by omega)), trivial⟩ ?_
                    exact L130 _ (0) (M3) (Nat.zero_le _) (hF3) (hP3) (fun u hu => absurd hu (Nat.not_lt_zero u)) (fun u _ hu => by rw [hZ3 u hu, show r = n by omega]) (Nat.lt_succ_self _)
                  · skip
                    have w6 := hW.2.2.2 r (by omega) c (by omega)
                    refine WP.aload_n dX5_gather_73 rfl ?_
                    refine WP.iload dX5_gather_74 rfl ?_
                    refine WP.aload_n dX5_gather_76 rfl ?_
                    refine WP.getM (y := t) dX5_gather_77 fl_X5_12 ((shS hs).1) (by decide) (hm3) ?_
                    refine WP.iload dX5_gather_80 rfl ?_
                    refine WP.iload dX5_gather_82 rfl ?_
                    refine WP.callVp (as := [vI ((r : Nat) : Int), vI ((c : Nat) : Int)]) dX5_gather_84 mv_X5_60 rfl (shT0 ht) (by decide) rfl rfl (c_T_at (r := r) (c := c) ht (by omega) (by omega) (hT3.2.2.2 r (by omega) c (by omega))) rfl (Nat.le_of_ble_eq_true rfl) (by omega) ?_
                    refine WP.iadd dX5_gather_87 ?_
                    refine WP.dup2 dX5_gather_88 rfl rfl ?_
                    refine WP.laload (y := (c * 4 + ce r c)) (x := (lsm (fun y9 => cif (ce y9 c = (ce r c)) (rk y9) 0) r)) dX5_gather_89 (hb) (by omega) (by omega) (hZ3 _ w6) ?_
                    refine WP.aload_n dX5_gather_90 rfl ?_
                    refine WP.iload dX5_gather_91 rfl ?_
                    refine WP.laload (y := r) (x := (rk r)) dX5_gather_93 (ha) (by omega) (by omega) (hra3 r (by omega)) ?_
                    refine WP.ladd dX5_gather_94 ?_
                    refine WP.lastore (y := (c * 4 + ce r c)) dX5_gather_95 (hb) (by omega) (by omega) rfl ?_
                    obtain ⟨M30, hM30⟩ : ∃ z, z = (mset M3 b ((c * 4 + ce r c)) (((lsm (fun y9 => cif (ce y9 c = (ce r c)) (rk y9) 0) r) + (rk r))).toInt) := ⟨_, rfl⟩
                    refine WP.eqM hM30.symm ?_
                    have hO30 : ∀ x, x ≠ b → M30 x = M3 x := fun x hx => by rw [hM30]; exact mset_o x hx
                    refine WP.iinc (lt := [vR s, vR a, vR b, vR e, vI ((c : Nat) : Int), vI ((c * 4 : Nat) : Int), vI ((c * 4 + sz c : Nat) : Int), vI (((r : Nat) : Int) + 1), vU, vU]) dX5_gather_96 rfl (by decide) rfl ?_
                    refine WP.goto (tgt := 61) dX5_gather_99 (by decide) ?_
                    refine WP.fgt (lt := [vR s, vR a, vR b, vR e, vI ((c : Nat) : Int), vI ((c * 4 : Nat) : Int), vI ((c * 4 + sz c : Nat) : Int), vI (((r + 1) : Nat) : Int), vU, vU]) ⟨Or.inr rfl, Or.inr rfl, Or.inr rfl, Or.inr rfl, Or.inr rfl, Or.inr rfl, Or.inr rfl, Or.inr (congrArg vI (by omega)), Or.inl rfl, Or.inl rfl, trivial⟩ ?_
                    exact ih61 (r + 1) (M30) (by omega) (fun x i1 i2 => (hO30 x i1).trans (hF3 x i1 i2)) (fun d hd => by
                      obtain ⟨i1, i2⟩ := hP3 d hd
                      have w5 := h4 d (by omega)
                      refine ⟨fun v hv => ?_, by rw [hM30, mset_o e hbe.symm]; exact i2⟩
                      rw [hM30, mset_n (Or.inr (by omega))]
                      exact i1 v hv) (fun u hu => by
                      rw [hM30, lsm]
                      by_cases e9 : ce r c = u
                      · rw [e9, mset_s, lo_ti, cif_t rfl]
                      · rw [mset_n (Or.inr (by omega)), cif_f e9, Int64.add_zero]; exact hZ3 u hu) (by omega)
              refine WP.fgt (lt := [vR s, vR a, vR b, vR e, vI ((c : Nat) : Int), vI ((c * 4 : Nat) : Int), vI ((c * 4 + sz c : Nat) : Int), vI ((0 : Nat) : Int), vU, vU]) ⟨Or.inr rfl, Or.inr rfl, Or.inr rfl, Or.inr rfl, Or.inr rfl, Or.inr rfl, Or.inr rfl, Or.inr (congrArg vI (by omega)), Or.inl rfl, Or.inl rfl, trivial⟩ ?_
              exact L61 _ (0) (M2) (Nat.zero_le _) (hF2) (hP2) (fun u hu => by rw [hZ u (by omega)]; rfl) (Nat.lt_succ_self _)
            · skip
              refine WP.aload_n dX5_gather_47 rfl ?_
              refine WP.iload dX5_gather_48 rfl ?_
              refine WP.lconst (v := 0) dX5_gather_50 (by decide) ?_
              refine WP.lastore (y := (c * 4 + v)) dX5_gather_51 (hb) (by omega) (by omega) rfl ?_
              obtain ⟨M20, hM20⟩ : ∃ z, z = (mset M2 b ((c * 4 + v)) ((0 : Int64)).toInt) := ⟨_, rfl⟩
              refine WP.eqM hM20.symm ?_
              have hO20 : ∀ x, x ≠ b → M20 x = M2 x := fun x hx => by rw [hM20]; exact mset_o x hx
              refine WP.iinc (lt := [vR s, vR a, vR b, vR e, vI ((c : Nat) : Int), vI ((c * 4 : Nat) : Int), vI ((c * 4 + sz c : Nat) : Int), vI (((c * 4 + v : Nat) : Int) + 1), vU, vU]) dX5_gather_52 rfl (by decide) rfl ?_
              refine WP.goto (tgt := 40) dX5_gather_55 (by decide) ?_
              refine WP.fgt (lt := [vR s, vR a, vR b, vR e, vI ((c : Nat) : Int), vI ((c * 4 : Nat) : Int), vI ((c * 4 + sz c : Nat) : Int), vI ((c * 4 + (v + 1) : Nat) : Int), vU, vU]) ⟨Or.inr rfl, Or.inr rfl, Or.inr rfl, Or.inr rfl, Or.inr rfl, Or.inr rfl, Or.inr rfl, Or.inr (congrArg vI (by omega)), Or.inl rfl, Or.inl rfl, trivial⟩ ?_
              exact ih40 (v + 1) (M20) (by omega) (fun x i1 i2 => (hO20 x i1).trans (hF2 x i1 i2)) (fun d hd => by
                obtain ⟨i1, i2⟩ := hP2 d hd
                have w5 := h4 d (by omega)
                refine ⟨fun v hv => ?_, by rw [hM20, mset_o e hbe.symm]; exact i2⟩
                rw [hM20, mset_n (Or.inr (by omega))]
                exact i1 v hv) (fun u hu => by
                rw [hM20]
                by_cases e9 : u = v
                · rw [e9, mset_s]; rfl
                · rw [mset_n (Or.inr (by omega))]; exact hZ u (by omega)) (by omega)
        refine WP.fgt (lt := [vR s, vR a, vR b, vR e, vI ((c : Nat) : Int), vI ((c * 4 : Nat) : Int), vI ((c * 4 + sz c : Nat) : Int), vI ((c * 4 + 0 : Nat) : Int), vU, vU]) ⟨Or.inr rfl, Or.inr rfl, Or.inr rfl, Or.inr rfl, Or.inr rfl, Or.inr (congrArg vI (by omega)), Or.inr (congrArg vI (by omega)), Or.inr (congrArg vI (by omega)), Or.inl rfl, Or.inl rfl, trivial⟩ ?_
        exact L40 _ (0) (M1) (Nat.zero_le _) (hF1) (hP1) (fun u hu => absurd hu (Nat.not_lt_zero u)) (Nat.lt_succ_self _)
  refine WP.fgt (lt := [vR s, vR a, vR b, vR e, vI ((0 : Nat) : Int), vU, vU, vU, vU, vU]) ⟨Or.inr rfl, Or.inr rfl, Or.inr rfl, Or.inr rfl, Or.inr (congrArg vI (by omega)), Or.inl rfl, Or.inl rfl, Or.inl rfl, Or.inl rfl, Or.inl rfl, trivial⟩ ?_
  exact L3 _ (0) (M) (Nat.zero_le _) (fun _ _ _ => rfl) (fun d hd => absurd hd (Nat.not_lt_zero d)) (Nat.lt_succ_self _)
