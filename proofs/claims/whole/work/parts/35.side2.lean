theorem oi_or (a b : Nat) : Int32.ofInt (a : Int) ||| Int32.ofInt (b : Int) = Int32.ofInt ((a ||| b : Nat) : Int) := by
  rw [oi_n, oi_n, oi_n, ← Int32.toBitVec_inj, Int32.toBitVec_or]
  exact (BitVec.ofNat_or).symm
theorem oi_shl1 : ∀ k : Nat, k < 31 → Int32.ofInt (1 : Int) <<< (Int32.ofInt (k : Int) &&& 31) = Int32.ofInt ((2 ^ k : Nat) : Int) := shl_ok
theorem or_b {a c k : Nat} (ha : a < 2 ^ k) (hc : c < k) : a ||| 2 ^ c < 2 ^ k := or_lt ha hc
def twn (n : Nat) (sz : Nat → Nat) (ce : Nat → Nat → Nat) (d e : Nat) : Prop := sz d = sz e ∧ ∀ p q, p < n → q < n → (ce p d = ce q d ↔ ce p e = ce q e)
set_option maxHeartbeats 4000000 in
set_option maxRecDepth 20000 in
theorem c_Z_spread {M : Mem} {a b : Nat} {rk : Nat → Int64} {lk : Nat → Nat → Int64} {s t n k : Nat} {sz : Nat → Nat} {ce : Nat → Nat → Nat} (hs : isS s) (ht : isT t) (hT : TX M t n k sz ce) (hW : Wf n k sz ce) (hn : n ≤ 18) (h4 : ∀ c, c < k → sz c ≤ 4) (hm0 : M s 0 = (t : Int)) (ha : shp a = (11, 18)) (hb : shp b = (11, 28)) (hra : ∀ r, r < n → Int64.ofInt (M a r) = rk r) (hlk : ∀ c, c < k → ∀ v, v < sz c → Int64.ofInt (M b (c * 4 + v)) = lk c v) : CT 2 m_X5_spread [vR s, vR a, vR b] M (fun z M' => z = none ∧ (∀ x, x ≠ a → M' x = M x) ∧ ∀ r, r < n → Int64.ofInt (M' a r) = kSP k ce lk rk r) := by
  have b1 := hW.1
  have b2 := hW.2.1
  have nb : ∀ x p q, shp x = (p, q) → p ≠ 11 → x ≠ a := fun x p q hx hp z => by rw [z, ha] at hx; cases hx; exact hp rfl
  have hab : a ≠ b := fun z => by rw [z, hb] at ha; cases ha
  have nz : s ≠ a ∧ t ≠ a ∧ t + 1 ≠ a ∧ t + 2 ≠ a := ⟨nb s _ _ (shS hs).1 (by decide), nb t _ _ (shT0 ht) (by decide), nb (t + 1) _ _ (shT1 ht) (by decide), nb (t + 2) _ _ (shT2 ht) (by decide)⟩
  refine CT.ofWP (by decide +kernel) (Nat.le_of_ble_eq_true rfl) ?_
  show WP sc0 2 m_X5_spread 0 [vR s, vR a, vR b, vU, vU, vU, vU] [] M (fun z M' => z = none ∧ (∀ x, x ≠ a → M' x = M x) ∧ ∀ r, r < n → Int64.ofInt (M' a r) = kSP k ce lk rk r)
  refine WP.iconst dX5_spread_0 ?_
  refine WP.istore_n (lt := [vR s, vR a, vR b, vI (0 : Int), vU, vU, vU]) dX5_spread_1 (by decide) rfl ?_
  have L2 : ∀ (n9 : Nat) (r : Nat) (M1 : Mem) (hr : r ≤ n) (hF : ∀ x, x ≠ a → M1 x = M x) (hD : ∀ q, q < r → Int64.ofInt (M1 a q) = kSP k ce lk rk q) (hE : ∀ q, r ≤ q → q < n → Int64.ofInt (M1 a q) = rk q), n - r < n9 → WP sc0 2 m_X5_spread 2 [vR s, vR a, vR b, vI ((r : Nat) : Int), vU, vU, vU] [] M1 (fun z M' => z = none ∧ (∀ x, x ≠ a → M' x = M x) ∧ ∀ r, r < n → Int64.ofInt (M' a r) = kSP k ce lk rk r) := by
    intro n9
    induction n9 with
    | zero =>
      intro r M1 hr hF hD hE hm9
      exact absurd hm9 (Nat.not_lt_zero _)
    | succ n9 ih2 =>
      intro r M1 hr hF hD hE hm9
      have hm1 : M1 s 0 = (t : Int) := by rw [hF s nz.1]; exact hm0
      have hT1 : TX M1 t n k sz ce := hT.fr (hF t nz.2.1) (hF (t + 1) nz.2.2.1) (hF (t + 2) nz.2.2.2)
      refine WP.iload_n dX5_spread_2 rfl ?_
      refine WP.aload_n dX5_spread_3 rfl ?_
      refine WP.getM (y := t) dX5_spread_4 fl_X5_12 ((shS hs).1) (by decide) (hm1) ?_
      refine WP.getI (x := ((n : Nat) : Int)) dX5_spread_7 fl_X5_45 (shT0 ht) (by decide) (hT1.1) ?_
      refine WP.icmp_ge (tgt := 75) dX5_spread_10 (by decide) (by omega) (by omega) (fun h10 => ?_) (fun h10 => ?_)
      · skip
        refine WP.vret dX5_spread_75 rfl ?_
        exact ⟨rfl, hF, fun q hq => hD q (by omega)⟩
      · skip
        refine WP.aload_n dX5_spread_13 rfl ?_
        refine WP.iload_n dX5_spread_14 rfl ?_
        refine WP.laload (y := r) (x := (rk r)) dX5_spread_15 (ha) (by omega) (by omega) (hE r (Nat.le_refl _) (by omega)) ?_
        refine WP.lstore (lt := [vR s, vR a, vR b, vI ((r : Nat) : Int), vL (rk r), vU, vU]) dX5_spread_16 (by decide) rfl ?_
        refine WP.iconst dX5_spread_18 ?_
        refine WP.istore (lt := [vR s, vR a, vR b, vI ((r : Nat) : Int), vL (rk r), vU, vI (0 : Int)]) dX5_spread_19 (by decide) rfl ?_
        have L21 : ∀ (n9 : Nat) (c : Nat) (hc : c ≤ k), k - c < n9 → WP sc0 2 m_X5_spread 21 [vR s, vR a, vR b, vI ((r : Nat) : Int), vL (rk r + lsm (fun y9 => lk y9 (ce r y9)) c), vU, vI ((c : Nat) : Int)] [] M1 (fun z M' => z = none ∧ (∀ x, x ≠ a → M' x = M x) ∧ ∀ r, r < n → Int64.ofInt (M' a r) = kSP k ce lk rk r) := by
          intro n9
          induction n9 with
          | zero =>
            intro c hc hm9
            exact absurd hm9 (Nat.not_lt_zero _)
          | succ n9 ih21 =>
            intro c hc hm9
            refine WP.iload dX5_spread_21 rfl ?_
            refine WP.aload_n dX5_spread_23 rfl ?_
            refine WP.getM (y := t) dX5_spread_24 fl_X5_12 ((shS hs).1) (by decide) (hm1) ?_
            refine WP.getI (x := ((k : Nat) : Int)) dX5_spread_27 fl_X5_57 (shT0 ht) (by decide) (hT1.2.1) ?_
            refine WP.icmp_ge (tgt := 61) dX5_spread_30 (by decide) (by omega) (by omega) (fun h30 => ?_) (fun h30 => ?_)
            · skip
              refine WP.aload_n dX5_spread_61 rfl ?_
              refine WP.iload_n dX5_spread_62 rfl ?_
              refine WP.lload dX5_spread_63 rfl ?_
              refine WP.callSp (as := [vL (rk r + lsm (fun y9 => lk y9 (ce r y9)) c)]) dX5_spread_65 ms_X5_53 rfl (c_Z_mix) rfl (Nat.le_of_ble_eq_true rfl) (by omega) ?_
              refine WP.lastore (y := r) dX5_spread_68 (ha) (by omega) (by omega) rfl ?_
              obtain ⟨M2, hM2⟩ : ∃ z, z = (mset M1 a r ((mixv (rk r + lsm (fun y9 => lk y9 (ce r y9)) c))).toInt) := ⟨_, rfl⟩
              refine WP.eqM hM2.symm ?_
              have hO2 : ∀ x, x ≠ a → M2 x = M1 x := fun x hx => by rw [hM2]; exact mset_o x hx
              refine WP.iinc (lt := [vR s, vR a, vR b, vI (((r : Nat) : Int) + 1), vL (rk r + lsm (fun y9 => lk y9 (ce r y9)) c), vU, vI ((c : Nat) : Int)]) dX5_spread_69 rfl (by decide) rfl ?_
              refine WP.goto (tgt := 2) dX5_spread_72 (by decide) ?_
              refine WP.fgt (lt := [vR s, vR a, vR b, vI (((r + 1) : Nat) : Int), vU, vU, vU]) ⟨Or.inr rfl, Or.inr rfl, Or.inr rfl, Or.inr (congrArg vI (by omega)), Or.inl rfl, Or.inl rfl, Or.inl rfl, trivial⟩ ?_
              exact ih2 (r + 1) (M2) (by omega) (fun x hx => (hO2 x hx).trans (hF x hx)) (fun q hq => by
                rw [hM2]
                by_cases e9 : q = r
                · rw [e9, mset_s, lo_ti, show c = k by omega]; rfl
                · rw [mset_n (Or.inr (by omega))]; exact hD q (by omega)) (fun q i1 hq => by rw [hM2, mset_n (Or.inr (by omega))]; exact hE q (by omega) hq) (by omega)
            · skip
              have w6 := hW.2.2.2 r (by omega) c (by omega)
              have w4 := h4 c (by omega)
              refine WP.lload dX5_spread_33 rfl ?_
              refine WP.aload_n dX5_spread_35 rfl ?_
              refine WP.iload dX5_spread_36 rfl ?_
              refine WP.iconst dX5_spread_38 ?_
              refine WP.imul dX5_spread_39 ?_
              refine WP.aload_n dX5_spread_40 rfl ?_
              refine WP.getM (y := t) dX5_spread_41 fl_X5_12 ((shS hs).1) (by decide) (hm1) ?_
              refine WP.iload_n dX5_spread_44 rfl ?_
              refine WP.iload dX5_spread_45 rfl ?_
              refine WP.callVp (as := [vI ((r : Nat) : Int), vI ((c : Nat) : Int)]) dX5_spread_47 mv_X5_60 rfl (shT0 ht) (by decide) rfl rfl (c_T_at (r := r) (c := c) ht (by omega) (by omega) (hT1.2.2.2 r (by omega) c (by omega))) rfl (Nat.le_of_ble_eq_true rfl) (by omega) ?_
              refine WP.iadd dX5_spread_50 ?_
              refine WP.laload (y := (c * 4 + ce r c)) (x := (lk c (ce r c))) dX5_spread_51 (hb) (by omega) (by omega) (by rw [hF b hab.symm]; exact hlk c (by omega) _ w6) ?_
              refine WP.ladd dX5_spread_52 ?_
              refine WP.lstore (lt := [vR s, vR a, vR b, vI ((r : Nat) : Int), vL ((rk r + lsm (fun y9 => lk y9 (ce r y9)) c) + (lk c (ce r c))), vU, vI ((c : Nat) : Int)]) dX5_spread_53 (by decide) rfl ?_
              refine WP.iinc (lt := [vR s, vR a, vR b, vI ((r : Nat) : Int), vL ((rk r + lsm (fun y9 => lk y9 (ce r y9)) c) + (lk c (ce r c))), vU, vI (((c : Nat) : Int) + 1)]) dX5_spread_55 rfl (by decide) rfl ?_
              refine WP.goto (tgt := 21) dX5_spread_58 (by decide) ?_
              refine WP.fgt (lt := [vR s, vR a, vR b, vI ((r : Nat) : Int), vL (rk r + lsm (fun y9 => lk y9 (ce r y9)) (c + 1)), vU, vI (((c + 1) : Nat) : Int)]) ⟨Or.inr rfl, Or.inr rfl, Or.inr rfl, Or.inr rfl, Or.inr (congrArg vL (by rw [lsm, Int64.add_assoc])), Or.inl rfl, Or.inr (congrArg vI (by omega)), trivial⟩ ?_
              exact ih21 (c + 1) (by omega) (by omega)
        refine WP.fgt (lt := [vR s, vR a, vR b, vI ((r : Nat) : Int), vL (rk r + lsm (fun y9 => lk y9 (ce r y9)) 0), vU, vI ((0 : Nat) : Int)]) ⟨Or.inr rfl, Or.inr rfl, Or.inr rfl, Or.inr rfl, Or.inr (congrArg vL (by rw [lsm, Int64.add_zero])), Or.inl rfl, Or.inr (congrArg vI (by omega)), trivial⟩ ?_
        exact L21 _ (0) (Nat.zero_le _) (Nat.lt_succ_self _)
  refine WP.fgt (lt := [vR s, vR a, vR b, vI ((0 : Nat) : Int), vU, vU, vU]) ⟨Or.inr rfl, Or.inr rfl, Or.inr rfl, Or.inr (congrArg vI (by omega)), Or.inl rfl, Or.inl rfl, Or.inl rfl, trivial⟩ ?_
  exact L2 _ (0) (M) (Nat.zero_le _) (fun _ _ => rfl) (fun q hq => absurd hq (Nat.not_lt_zero q)) (fun q _ hq => hra q hq) (Nat.lt_succ_self _)
set_option maxHeartbeats 4000000 in
set_option maxRecDepth 20000 in
theorem c_Z_summary {M : Mem} {d : Nat} {rk ck : Nat → Int64} {s t n k : Nat} {sz : Nat → Nat} {ce : Nat → Nat → Nat} (hs : isS s) (ht : isT t) (hT : TX M t n k sz ce) (hW : Wf n k sz ce) (hn : n ≤ 18) (h4 : ∀ c, c < k → sz c ≤ 4) (hm0 : M s 0 = (t : Int)) (hd : d < 8) (hrk : ∀ r, r < n → Int64.ofInt (M (s + 5 + d) r) = rk r) (hck : ∀ c, c < k → Int64.ofInt (M (s + 23 + d) c) = ck c) : CT 1 m_X5_summary [vR s, vI ((d : Nat) : Int)] M (Rt (some (vL (lsm rk n + lsm ck k))) M) := by
  have b1 := hW.1
  have b2 := hW.2.1
  refine CT.ofWP (by decide +kernel) (Nat.le_of_ble_eq_true rfl) ?_
  show WP sc0 1 m_X5_summary 0 [vR s, vI ((d : Nat) : Int), vU, vU, vU] [] M (Rt (some (vL (lsm rk n + lsm ck k))) M)
  refine WP.lconst (v := 0) dX5_summary_0 (by decide) ?_
  refine WP.lstore_n (lt := [vR s, vI ((d : Nat) : Int), vL (0 : Int64), vU, vU]) dX5_summary_1 (by decide) rfl ?_
  refine WP.iconst dX5_summary_2 ?_
  refine WP.istore (lt := [vR s, vI ((d : Nat) : Int), vL (0 : Int64), vU, vI (0 : Int)]) dX5_summary_3 (by decide) rfl ?_
  have L5 : ∀ (n9 : Nat) (r : Nat) (hr : r ≤ n), n - r < n9 → WP sc0 1 m_X5_summary 5 [vR s, vI ((d : Nat) : Int), vL (lsm rk r), vU, vI ((r : Nat) : Int)] [] M (Rt (some (vL (lsm rk n + lsm ck k))) M) := by
    intro n9
    induction n9 with
    | zero =>
      intro r hr hm9
      exact absurd hm9 (Nat.not_lt_zero _)
    | succ n9 ih5 =>
      intro r hr hm9
      refine WP.iload dX5_summary_5 rfl ?_
      refine WP.aload_n dX5_summary_7 rfl ?_
      refine WP.getM (y := t) dX5_summary_8 fl_X5_12 ((shS hs).1) (by decide) (hm0) ?_
      refine WP.getI (x := ((n : Nat) : Int)) dX5_summary_11 fl_X5_45 (shT0 ht) (by decide) (hT.1) ?_
      refine WP.icmp_ge (tgt := 35) dX5_summary_14 (by decide) (by omega) (by omega) (fun h14 => ?_) (fun h14 => ?_)
      · skip
        have hrn : r = n := by omega
        refine WP.iconst dX5_summary_35 ?_
        refine WP.istore (lt := [vR s, vI ((d : Nat) : Int), vL (lsm rk r), vU, vI (0 : Int)]) dX5_summary_36 (by decide) rfl ?_
        have L38 : ∀ (n9 : Nat) (c : Nat) (hc : c ≤ k), k - c < n9 → WP sc0 1 m_X5_summary 38 [vR s, vI ((d : Nat) : Int), vL (lsm rk n + lsm ck c), vU, vI ((c : Nat) : Int)] [] M (Rt (some (vL (lsm rk n + lsm ck k))) M) := by
          intro n9
          induction n9 with
          | zero =>
            intro c hc hm9
            exact absurd hm9 (Nat.not_lt_zero _)
          | succ n9 ih38 =>
            intro c hc hm9
            refine WP.iload dX5_summary_38 rfl ?_
            refine WP.aload_n dX5_summary_40 rfl ?_
            refine WP.getM (y := t) dX5_summary_41 fl_X5_12 ((shS hs).1) (by decide) (hm0) ?_
            refine WP.getI (x := ((k : Nat) : Int)) dX5_summary_44 fl_X5_57 (shT0 ht) (by decide) (hT.2.1) ?_
            refine WP.icmp_ge (tgt := 68) dX5_summary_47 (by decide) (by omega) (by omega) (fun h47 => ?_) (fun h47 => ?_)
            · skip
              refine WP.lload_n dX5_summary_68 rfl ?_
              refine WP.lret dX5_summary_69 rfl ?_
              rw [show c = k by omega]; exact ⟨rfl, rfl⟩
            · skip
              refine WP.lload_n dX5_summary_50 rfl ?_
              refine WP.aload_n dX5_summary_51 rfl ?_
              refine WP.getR (y := (s + 22)) dX5_summary_52 fl_X5_36 ((shS hs).1) (by decide) ((srS hs).2.2.2.2.2.1) ?_
              refine WP.iload_n dX5_summary_55 rfl ?_
              refine WP.aaloadL (y := d) (z := (s + 23 + d)) dX5_summary_56 ((shS hs).2.2.2.2.2.2.1) (by omega) (by omega) ((srSd hs).2.2) ?_
              refine WP.iload dX5_summary_57 rfl ?_
              refine WP.laload (y := c) (x := (ck c)) dX5_summary_59 ((shSk hs hd).2.2) (by omega) (by omega) (hck c (by omega)) ?_
              refine WP.ladd dX5_summary_60 ?_
              refine WP.lstore_n (lt := [vR s, vI ((d : Nat) : Int), vL ((lsm rk n + lsm ck c) + (ck c)), vU, vI ((c : Nat) : Int)]) dX5_summary_61 (by decide) rfl ?_
              refine WP.iinc (lt := [vR s, vI ((d : Nat) : Int), vL ((lsm rk n + lsm ck c) + (ck c)), vU, vI (((c : Nat) : Int) + 1)]) dX5_summary_62 rfl (by decide) rfl ?_
              refine WP.goto (tgt := 38) dX5_summary_65 (by decide) ?_
              refine WP.fgt (lt := [vR s, vI ((d : Nat) : Int), vL (lsm rk n + lsm ck (c + 1)), vU, vI (((c + 1) : Nat) : Int)]) ⟨Or.inr rfl, Or.inr rfl, Or.inr (congrArg vL (by rw [lsm, Int64.add_assoc])), Or.inl rfl, Or.inr (congrArg vI (by omega)), trivial⟩ ?_
              exact ih38 (c + 1) (by omega) (by omega)
        refine WP.fgt (lt := [vR s, vI ((d : Nat) : Int), vL (lsm rk n + lsm ck 0), vU, vI ((0 : Nat) : Int)]) ⟨Or.inr rfl, Or.inr rfl, Or.inr (congrArg vL (by rw [lsm, Int64.add_zero, hrn])), Or.inl rfl, Or.inr (congrArg vI (by omega)), trivial⟩ ?_
        exact L38 _ (0) (Nat.zero_le _) (Nat.lt_succ_self _)
      · skip
        refine WP.lload_n dX5_summary_17 rfl ?_
        refine WP.aload_n dX5_summary_18 rfl ?_
        refine WP.getR (y := (s + 4)) dX5_summary_19 fl_X5_30 ((shS hs).1) (by decide) ((srS hs).2.2.2.1) ?_
        refine WP.iload_n dX5_summary_22 rfl ?_
        refine WP.aaloadL (y := d) (z := (s + 5 + d)) dX5_summary_23 ((shS hs).2.2.2.2.1) (by omega) (by omega) ((srSd hs).1) ?_
        refine WP.iload dX5_summary_24 rfl ?_
        refine WP.laload (y := r) (x := (rk r)) dX5_summary_26 ((shSk hs hd).1) (by omega) (by omega) (hrk r (by omega)) ?_
        refine WP.ladd dX5_summary_27 ?_
        refine WP.lstore_n (lt := [vR s, vI ((d : Nat) : Int), vL ((lsm rk r) + (rk r)), vU, vI ((r : Nat) : Int)]) dX5_summary_28 (by decide) rfl ?_
        refine WP.iinc (lt := [vR s, vI ((d : Nat) : Int), vL ((lsm rk r) + (rk r)), vU, vI (((r : Nat) : Int) + 1)]) dX5_summary_29 rfl (by decide) rfl ?_
        refine WP.goto (tgt := 5) dX5_summary_32 (by decide) ?_
        refine WP.fgt (lt := [vR s, vI ((d : Nat) : Int), vL (lsm rk (r + 1)), vU, vI (((r + 1) : Nat) : Int)]) ⟨Or.inr rfl, Or.inr rfl, Or.inr (congrArg vL (rfl)), Or.inl rfl, Or.inr (congrArg vI (by omega)), trivial⟩ ?_
        exact ih5 (r + 1) (by omega) (by omega)
  refine WP.fgt (lt := [vR s, vI ((d : Nat) : Int), vL (lsm rk 0), vU, vI ((0 : Nat) : Int)]) ⟨Or.inr rfl, Or.inr rfl, Or.inr (congrArg vL (rfl)), Or.inl rfl, Or.inr (congrArg vI (by omega)), trivial⟩ ?_
  exact L5 _ (0) (Nat.zero_le _) (Nat.lt_succ_self _)
set_option maxHeartbeats 4000000 in
set_option maxRecDepth 20000 in
theorem c_Z_isLabelled {M : Mem} {s c w : Nat} (hs : isS s) (hc : c < 7) (hl : M (s + 1) c = (w : Int)) (hw : w ≤ 8) : CT 1 m_X5_isLabelled [vR s, vI ((c : Nat) : Int)] M (Rt (some (vI (bi (w ≠ 0)))) M) := by
  refine CT.ofWP (by decide +kernel) (Nat.le_of_ble_eq_true rfl) ?_
  show WP sc0 1 m_X5_isLabelled 0 [vR s, vI ((c : Nat) : Int)] [] M (Rt (some (vI (bi (w ≠ 0)))) M)
  refine WP.aload_n dX5_isLabelled_0 rfl ?_
  refine WP.getR (y := (s + 1)) dX5_isLabelled_1 fl_X5_18 ((shS hs).1) (by decide) ((srS hs).1) ?_
  refine WP.iload_n dX5_isLabelled_4 rfl ?_
  refine WP.iaload (y := c) (x := ((w : Nat) : Int)) dX5_isLabelled_5 ((shS hs).2.1) (by omega) (by omega) (hl) ?_
  refine WP.if_eq (tgt := 13) dX5_isLabelled_6 (by decide) (by omega) (fun h6 => ?_) (fun h6 => ?_)
  · skip
    refine WP.iconst dX5_isLabelled_13 ?_
    refine WP.zret dX5_isLabelled_14 rfl (by decide) ?_
    exact ⟨congrArg some (congrArg vI (bi_f (by omega)).symm), rfl⟩
  · skip
    refine WP.iconst dX5_isLabelled_9 ?_
    refine WP.goto (tgt := 14) dX5_isLabelled_10 (by decide) ?_
    refine WP.zret dX5_isLabelled_14 rfl (by decide) ?_
    exact ⟨congrArg some (congrArg vI (bi_t (by omega)).symm), rfl⟩
theorem tw_ext {ce : Nat → Nat → Nat} {d e r p : Nat} (h : ∀ p q, p < r → q < r → (ce p d = ce q d ↔ ce p e = ce q e)) (hp : p < r) (h1 : ce p d = ce r d) (h2 : ce p e = ce r e) : ∀ p q, p < r + 1 → q < r + 1 → (ce p d = ce q d ↔ ce p e = ce q e) := by
  have key : ∀ q, q < r → (ce q d = ce r d ↔ ce q e = ce r e) := fun q hq => by
    rw [← h1, ← h2]
    exact h q p hq hp
  intro a b ha hb
  by_cases e1 : a = r
  · by_cases e2 : b = r
    · rw [e1, e2]; exact ⟨fun _ => rfl, fun _ => rfl⟩
    · rw [e1]
      exact ⟨fun z => ((key b (by omega)).mp z.symm).symm, fun z => ((key b (by omega)).mpr z.symm).symm⟩
  · by_cases e2 : b = r
    · rw [e2]; exact key a (by omega)
    · exact h a b (by omega) (by omega)
theorem tw_new {ce : Nat → Nat → Nat} {d e r : Nat} (h : ∀ p q, p < r → q < r → (ce p d = ce q d ↔ ce p e = ce q e)) (h1 : ∀ q, q < r → ce q d ≠ ce r d) (h2 : ∀ q, q < r → ce q e ≠ ce r e) : ∀ p q, p < r + 1 → q < r + 1 → (ce p d = ce q d ↔ ce p e = ce q e) := by
  intro a b ha hb
  by_cases e1 : a = r
  · by_cases e2 : b = r
    · rw [e1, e2]; exact ⟨fun _ => rfl, fun _ => rfl⟩
    · rw [e1]
      exact ⟨fun z => absurd z.symm (h1 b (by omega)), fun z => absurd z.symm (h2 b (by omega))⟩
  · by_cases e2 : b = r
    · rw [e2]
      exact ⟨fun z => absurd z (h1 a (by omega)), fun z => absurd z (h2 a (by omega))⟩
    · exact h a b (by omega) (by omega)
set_option maxHeartbeats 4000000 in
set_option maxRecDepth 20000 in
theorem c_Z_areTwins {M : Mem} {s t n k d e : Nat} {sz : Nat → Nat} {ce : Nat → Nat → Nat} (hs : isS s) (ht : isT t) (hT : TX M t n k sz ce) (hW : Wf n k sz ce) (hn : n ≤ 18) (h4 : ∀ c, c < k → sz c ≤ 4) (hm0 : M s 0 = (t : Int)) (hd : d < k) (he : e < k) : CT 2 m_X5_areTwins [vR s, vI ((d : Nat) : Int), vI ((e : Nat) : Int)] M (fun z M' => z = some (vI (bi (twn n sz ce d e))) ∧ ∀ x, x ≠ s + 31 → M' x = M x) := by
  have b1 := hW.1
  have b2 := hW.2.1
  have ht2 := ht.2
  have hs9 := hs
  unfold isS at hs9
  have wd := hW.2.2.1 d hd
  have we := hW.2.2.1 e he
  refine CT.ofWP (by decide +kernel) (Nat.le_of_ble_eq_true rfl) ?_
  show WP sc0 2 m_X5_areTwins 0 [vR s, vI ((d : Nat) : Int), vI ((e : Nat) : Int), vU, vU, vU, vU] [] M (fun z M' => z = some (vI (bi (twn n sz ce d e))) ∧ ∀ x, x ≠ s + 31 → M' x = M x)
  refine WP.aload_n dX5_areTwins_0 rfl ?_
  refine WP.getM (y := t) dX5_areTwins_1 fl_X5_12 ((shS hs).1) (by decide) (hm0) ?_
  refine WP.getR (y := (t + 1)) dX5_areTwins_4 fl_X5_67 (shT0 ht) (by decide) (srT1 ht) ?_
  refine WP.iload_n dX5_areTwins_7 rfl ?_
  refine WP.iaload (y := d) (x := ((sz d : Nat) : Int)) dX5_areTwins_8 (shT1 ht) (by omega) (by omega) (hT.2.2.1 d hd) ?_
  refine WP.aload_n dX5_areTwins_9 rfl ?_
  refine WP.getM (y := t) dX5_areTwins_10 fl_X5_12 ((shS hs).1) (by decide) (hm0) ?_
  refine WP.getR (y := (t + 1)) dX5_areTwins_13 fl_X5_67 (shT0 ht) (by decide) (srT1 ht) ?_
  refine WP.iload_n dX5_areTwins_16 rfl ?_
  refine WP.iaload (y := e) (x := ((sz e : Nat) : Int)) dX5_areTwins_17 (shT1 ht) (by omega) (by omega) (hT.2.2.1 e he) ?_
  refine WP.icmp_eq (tgt := 23) dX5_areTwins_18 (by decide) (by omega) (by omega) (fun h18 => ?_) (fun h18 => ?_)
  · skip
    refine WP.iconst dX5_areTwins_23 ?_
    refine WP.istore_n (lt := [vR s, vI ((d : Nat) : Int), vI ((e : Nat) : Int), vI (0 : Int), vU, vU, vU]) dX5_areTwins_24 (by decide) rfl ?_
    refine WP.iconst dX5_areTwins_25 ?_
    refine WP.istore (lt := [vR s, vI ((d : Nat) : Int), vI ((e : Nat) : Int), vI (0 : Int), vI (0 : Int), vU, vU]) dX5_areTwins_26 (by decide) rfl ?_
    have L28 : ∀ (n9 : Nat) (v : Nat) (M1 : Mem) (hv : v ≤ 4) (hF1 : ∀ x, x ≠ s + 31 → M1 x = M x) (hN : ∀ u, u < v → M1 (s + 31) u = -1), 4 - v < n9 → WP sc0 2 m_X5_areTwins 28 [vR s, vI ((d : Nat) : Int), vI ((e : Nat) : Int), vI (0 : Int), vI ((v : Nat) : Int), vU, vU] [] M1 (fun z M' => z = some (vI (bi (twn n sz ce d e))) ∧ ∀ x, x ≠ s + 31 → M' x = M x) := by
      intro n9
      induction n9 with
      | zero =>
        intro v M1 hv hF1 hN hm9
        exact absurd hm9 (Nat.not_lt_zero _)
      | succ n9 ih28 =>
        intro v M1 hv hF1 hN hm9
        refine WP.iload dX5_areTwins_28 rfl ?_
        refine WP.iconst dX5_areTwins_30 ?_
        refine WP.icmp_ge (tgt := 48) dX5_areTwins_31 (by decide) (by omega) (by omega) (fun h31 => ?_) (fun h31 => ?_)
        · skip
          have hv4 : v = 4 := by omega
          refine WP.iconst dX5_areTwins_48 ?_
          refine WP.istore (lt := [vR s, vI ((d : Nat) : Int), vI ((e : Nat) : Int), vI (0 : Int), vI (0 : Int), vU, vU]) dX5_areTwins_49 (by decide) rfl ?_
          have L51 : ∀ (n9 : Nat) (r m : Nat) (M3 : Mem) (hr : r ≤ n) (hF3 : ∀ x, x ≠ s + 31 → M3 x = M x) (hm16 : m < 2 ^ 4) (hmk : ∀ w, w < 4 → (mk m w ↔ ∃ q, q < r ∧ ce q e = w)) (htw : ∀ v, v < 4 → (M3 (s + 31) v = -1 ∧ ∀ q, q < r → ce q d ≠ v) ∨ ∃ q, q < r ∧ ce q d = v ∧ M3 (s + 31) v = (ce q e : Int)) (hok : ∀ p q, p < r → q < r → (ce p d = ce q d ↔ ce p e = ce q e)), n - r < n9 → WP sc0 2 m_X5_areTwins 51 [vR s, vI ((d : Nat) : Int), vI ((e : Nat) : Int), vI ((m : Nat) : Int), vI ((r : Nat) : Int), vU, vU] [] M3 (fun z M' => z = some (vI (bi (twn n sz ce d e))) ∧ ∀ x, x ≠ s + 31 → M' x = M x) := by
            intro n9
            induction n9 with
            | zero =>
              intro r m M3 hr hF3 hm16 hmk htw hok hm9
              exact absurd hm9 (Nat.not_lt_zero _)
            | succ n9 ih51 =>
              intro r m M3 hr hF3 hm16 hmk htw hok hm9
              have hm3 : M3 s 0 = (t : Int) := by rw [hF3 s (by omega)]; exact hm0
              have hT3 : TX M3 t n k sz ce := hT.fr (hF3 t (by omega)) (hF3 (t + 1) (by omega)) (hF3 (t + 2) (by omega))
              have h16 : 2 ^ 4 = 16 := rfl
              refine WP.iload dX5_areTwins_51 rfl ?_
              refine WP.aload_n dX5_areTwins_53 rfl ?_
              refine WP.getM (y := t) dX5_areTwins_54 fl_X5_12 ((shS hs).1) (by decide) (hm3) ?_
              refine WP.getI (x := ((n : Nat) : Int)) dX5_areTwins_57 fl_X5_45 (shT0 ht) (by decide) (hT3.1) ?_
              refine WP.icmp_ge (tgt := 142) dX5_areTwins_60 (by decide) (by omega) (by omega) (fun h60 => ?_) (fun h60 => ?_)
              · skip
                refine WP.iconst dX5_areTwins_142 ?_
                refine WP.zret dX5_areTwins_143 rfl (by decide) ?_
                exact ⟨congrArg some (congrArg vI (bi_t ⟨by omega, fun p q hp hq => hok p q (by omega) (by omega)⟩).symm), hF3⟩
              · skip
                have w6 := hW.2.2.2 r (by omega) d hd
                have w7 := hW.2.2.2 r (by omega) e he
                have w8 := h4 d hd
                have w9 := h4 e he
                refine WP.aload_n dX5_areTwins_63 rfl ?_
                refine WP.getM (y := t) dX5_areTwins_64 fl_X5_12 ((shS hs).1) (by decide) (hm3) ?_
                refine WP.iload dX5_areTwins_67 rfl ?_
                refine WP.iload_n dX5_areTwins_69 rfl ?_
                refine WP.callVp (as := [vI ((r : Nat) : Int), vI ((d : Nat) : Int)]) dX5_areTwins_70 mv_X5_60 rfl (shT0 ht) (by decide) rfl rfl (c_T_at (r := r) (c := d) ht (by omega) (by omega) (hT3.2.2.2 r (by omega) d (by omega))) rfl (Nat.le_of_ble_eq_true rfl) (by omega) ?_
                refine WP.istore (lt := [vR s, vI ((d : Nat) : Int), vI ((e : Nat) : Int), vI ((m : Nat) : Int), vI ((r : Nat) : Int), vI ((ce r d : Nat) : Int), vU]) dX5_areTwins_73 (by decide) rfl ?_
                refine WP.aload_n dX5_areTwins_75 rfl ?_
                refine WP.getM (y := t) dX5_areTwins_76 fl_X5_12 ((shS hs).1) (by decide) (hm3) ?_
                refine WP.iload dX5_areTwins_79 rfl ?_
                refine WP.iload_n dX5_areTwins_81 rfl ?_
                refine WP.callVp (as := [vI ((r : Nat) : Int), vI ((e : Nat) : Int)]) dX5_areTwins_82 mv_X5_60 rfl (shT0 ht) (by decide) rfl rfl (c_T_at (r := r) (c := e) ht (by omega) (by omega) (hT3.2.2.2 r (by omega) e (by omega))) rfl (Nat.le_of_ble_eq_true rfl) (by omega) ?_
                refine WP.istore (lt := [vR s, vI ((d : Nat) : Int), vI ((e : Nat) : Int), vI ((m : Nat) : Int), vI ((r : Nat) : Int), vI ((ce r d : Nat) : Int), vI ((ce r e : Nat) : Int)]) dX5_areTwins_85 (by decide) rfl ?_
                have htr := htw (ce r d) (by omega)
                have hrg : -2147483648 ≤ M3 (s + 31) (ce r d) ∧ M3 (s + 31) (ce r d) < 2147483648 := by
                  rcases htr with ⟨z, _⟩ | ⟨q, q1, q2, q3⟩
                  · omega
                  · have := hW.2.2.2 q (by omega) e he
                    omega
                refine WP.aload_n dX5_areTwins_87 rfl ?_
                refine WP.getR (y := (s + 31)) dX5_areTwins_88 fl_X5_39 ((shS hs).1) (by decide) ((srS hs).2.2.2.2.2.2) ?_
                refine WP.iload dX5_areTwins_91 rfl ?_
                refine WP.iaload (y := (ce r d)) (x := (M3 (s + 31) (ce r d))) dX5_areTwins_93 ((shS hs).2.2.2.2.2.2.2) (by omega) (by omega) (rfl) ?_
                refine WP.if_ge (tgt := 122) dX5_areTwins_94 (by decide) (hrg) (fun h94 => ?_) (fun h94 => ?_)
                · skip
                  have hsome : ∃ q, q < r ∧ ce q d = ce r d ∧ M3 (s + 31) (ce r d) = (ce q e : Int) := htr.resolve_left (fun z => by omega)
                  have hcase : (∀ q, q < r → ce q d ≠ ce r d) → ∃ q, q < r ∧ ce q e = ce r e := fun z => by
                    obtain ⟨q, q1, q2, _⟩ := hsome
                    exact absurd q2 (z q q1)
                  refine WP.aload_n dX5_areTwins_122 rfl ?_
                  refine WP.getR (y := (s + 31)) dX5_areTwins_123 fl_X5_39 ((shS hs).1) (by decide) ((srS hs).2.2.2.2.2.2) ?_
                  refine WP.iload dX5_areTwins_126 rfl ?_
                  refine WP.iaload (y := (ce r d)) (x := (M3 (s + 31) (ce r d))) dX5_areTwins_128 ((shS hs).2.2.2.2.2.2.2) (by omega) (by omega) (rfl) ?_
                  refine WP.iload dX5_areTwins_129 rfl ?_
                  refine WP.icmp_eq (tgt := 136) dX5_areTwins_131 (by decide) (by omega) (by omega) (fun h131 => ?_) (fun h131 => ?_)
                  · skip
                    have hex : ∃ p, p < r ∧ ce p d = ce r d ∧ (ce p e : Int) = (ce r e : Int) := by
                      rcases htr with z | ⟨q, q1, q2, q3⟩
                      · exfalso
                        omega
                      · exact ⟨q, q1, q2, by omega⟩
                    refine WP.iinc (lt := [vR s, vI ((d : Nat) : Int), vI ((e : Nat) : Int), vI ((m : Nat) : Int), vI (((r : Nat) : Int) + 1), vI ((ce r d : Nat) : Int), vI ((ce r e : Nat) : Int)]) dX5_areTwins_136 rfl (by decide) rfl ?_
                    refine WP.goto (tgt := 51) dX5_areTwins_139 (by decide) ?_
                    refine WP.fgt (lt := [vR s, vI ((d : Nat) : Int), vI ((e : Nat) : Int), vI ((m : Nat) : Int), vI (((r + 1) : Nat) : Int), vU, vU]) ⟨Or.inr rfl, Or.inr rfl, Or.inr rfl, Or.inr rfl, Or.inr (congrArg vI (by omega)), Or.inl rfl, Or.inl rfl, trivial⟩ ?_
                    exact ih51 (r + 1) (m) (M3) (by omega) (hF3) (hm16) (fun w hw => ⟨fun z => by
                      obtain ⟨q, q1, q2⟩ := (hmk w hw).mp z
                      exact ⟨q, by omega, q2⟩, fun ⟨q, q1, q2⟩ => by
                      by_cases e9 : q = r
                      · obtain ⟨p, p1, p2, p3⟩ := hex
                        exact (hmk w hw).mpr ⟨p, p1, by rw [← q2, e9]; omega⟩
                      · exact (hmk w hw).mpr ⟨q, by omega, q2⟩⟩) (fun v hv => (htw v hv).elim (fun z => by
                      by_cases e9 : v = ce r d
                      · obtain ⟨p, p1, p2, p3⟩ := hex
                        exact absurd (p2.trans e9.symm) (z.2 p p1)
                      · refine Or.inl ⟨z.1, fun q hq => ?_⟩
                        by_cases e8 : q = r
                        · rw [e8]; exact fun x => e9 x.symm
                        · exact z.2 q (by omega)) (fun ⟨q, q1, q2, q3⟩ => Or.inr ⟨q, by omega, q2, q3⟩)) (by
                      obtain ⟨p, p1, p2, p3⟩ := hex
                      have hpe : ce p e = ce r e := by omega
                      exact tw_ext hok p1 p2 hpe) (by omega)
                  · skip
                    have hbad : ¬ twn n sz ce d e := fun z => by
                      rcases htr with ⟨z1, z2⟩ | ⟨q, q1, q2, q3⟩
                      · obtain ⟨q, q1, q2⟩ := hcase z2
                        exact z2 q q1 ((z.2 q r (by omega) (by omega)).mpr q2)
                      · have := (z.2 q r (by omega) (by omega)).mp q2
                        omega
                    refine WP.iconst dX5_areTwins_134 ?_
                    refine WP.zret dX5_areTwins_135 rfl (by decide) ?_
                    exact ⟨congrArg some (congrArg vI (bi_f hbad).symm), hF3⟩
                · skip
                  have hnd : ∀ q, q < r → ce q d ≠ ce r d := htr.elim (fun z => z.2) (fun ⟨q, q1, q2, q3⟩ => by omega)
                  refine WP.iload_n dX5_areTwins_97 rfl ?_
                  refine WP.iload dX5_areTwins_98 rfl ?_
                  refine WP.ishr (z := ((m / 2 ^ ce r e : Nat) : Int)) dX5_areTwins_100 (oi_shr (by omega) (by omega)) ?_
                  refine WP.iconst dX5_areTwins_101 ?_
                  refine WP.iand (z := ((m / 2 ^ ce r e % 2 : Nat) : Int)) dX5_areTwins_102 (oi_and1 (bit_lt (by omega))) ?_
                  refine WP.if_ne (tgt := 122) dX5_areTwins_103 (by decide) (by omega) (fun h103 => ?_) (fun h103 => ?_)
                  · skip
                    have htk : mk m (ce r e) := by
                      have : m / 2 ^ ce r e % 2 < 2 := Nat.mod_lt _ (by decide)
                      unfold mk
                      omega
                    have hcase : (∀ q, q < r → ce q d ≠ ce r d) → ∃ q, q < r ∧ ce q e = ce r e := fun _ => (hmk (ce r e) (by omega)).mp htk
                    refine WP.aload_n dX5_areTwins_122 rfl ?_
                    refine WP.getR (y := (s + 31)) dX5_areTwins_123 fl_X5_39 ((shS hs).1) (by decide) ((srS hs).2.2.2.2.2.2) ?_
                    refine WP.iload dX5_areTwins_126 rfl ?_
                    refine WP.iaload (y := (ce r d)) (x := (M3 (s + 31) (ce r d))) dX5_areTwins_128 ((shS hs).2.2.2.2.2.2.2) (by omega) (by omega) (rfl) ?_
                    refine WP.iload dX5_areTwins_129 rfl ?_
                    refine WP.icmp_eq (tgt := 136) dX5_areTwins_131 (by decide) (by omega) (by omega) (fun h131 => ?_) (fun h131 => ?_)
                    · skip
                      have hex : ∃ p, p < r ∧ ce p d = ce r d ∧ (ce p e : Int) = (ce r e : Int) := by
                        rcases htr with z | ⟨q, q1, q2, q3⟩
                        · exfalso
                          omega
                        · exact ⟨q, q1, q2, by omega⟩
                      refine WP.iinc (lt := [vR s, vI ((d : Nat) : Int), vI ((e : Nat) : Int), vI ((m : Nat) : Int), vI (((r : Nat) : Int) + 1), vI ((ce r d : Nat) : Int), vI ((ce r e : Nat) : Int)]) dX5_areTwins_136 rfl (by decide) rfl ?_
                      refine WP.goto (tgt := 51) dX5_areTwins_139 (by decide) ?_
                      refine WP.fgt (lt := [vR s, vI ((d : Nat) : Int), vI ((e : Nat) : Int), vI ((m : Nat) : Int), vI (((r + 1) : Nat) : Int), vU, vU]) ⟨Or.inr rfl, Or.inr rfl, Or.inr rfl, Or.inr rfl, Or.inr (congrArg vI (by omega)), Or.inl rfl, Or.inl rfl, trivial⟩ ?_
                      exact ih51 (r + 1) (m) (M3) (by omega) (hF3) (hm16) (fun w hw => ⟨fun z => by
                        obtain ⟨q, q1, q2⟩ := (hmk w hw).mp z
                        exact ⟨q, by omega, q2⟩, fun ⟨q, q1, q2⟩ => by
                        by_cases e9 : q = r
                        · obtain ⟨p, p1, p2, p3⟩ := hex
                          exact (hmk w hw).mpr ⟨p, p1, by rw [← q2, e9]; omega⟩
                        · exact (hmk w hw).mpr ⟨q, by omega, q2⟩⟩) (fun v hv => (htw v hv).elim (fun z => by
                        by_cases e9 : v = ce r d
                        · obtain ⟨p, p1, p2, p3⟩ := hex
                          exact absurd (p2.trans e9.symm) (z.2 p p1)
                        · refine Or.inl ⟨z.1, fun q hq => ?_⟩
                          by_cases e8 : q = r
                          · rw [e8]; exact fun x => e9 x.symm
                          · exact z.2 q (by omega)) (fun ⟨q, q1, q2, q3⟩ => Or.inr ⟨q, by omega, q2, q3⟩)) (by
                        obtain ⟨p, p1, p2, p3⟩ := hex
                        have hpe : ce p e = ce r e := by omega
                        exact tw_ext hok p1 p2 hpe) (by omega)
                    · skip
                      have hbad : ¬ twn n sz ce d e := fun z => by
                        rcases htr with ⟨z1, z2⟩ | ⟨q, q1, q2, q3⟩
                        · obtain ⟨q, q1, q2⟩ := hcase z2
                          exact z2 q q1 ((z.2 q r (by omega) (by omega)).mpr q2)
                        · have := (z.2 q r (by omega) (by omega)).mp q2
                          omega
                      refine WP.iconst dX5_areTwins_134 ?_
                      refine WP.zret dX5_areTwins_135 rfl (by decide) ?_
                      exact ⟨congrArg some (congrArg vI (bi_f hbad).symm), hF3⟩
                  · skip
                    have hnw : ∀ q, q < r → ce q e ≠ ce r e := fun q hq z => by
                      have := (hmk (ce r e) (by omega)).mpr ⟨q, hq, z⟩
                      unfold mk at this
                      omega
                    refine WP.aload_n dX5_areTwins_106 rfl ?_
                    refine WP.getR (y := (s + 31)) dX5_areTwins_107 fl_X5_39 ((shS hs).1) (by decide) ((srS hs).2.2.2.2.2.2) ?_
                    refine WP.iload dX5_areTwins_110 rfl ?_
                    refine WP.iload dX5_areTwins_112 rfl ?_
                    refine WP.iastore (y := (ce r d)) dX5_areTwins_114 ((shS hs).2.2.2.2.2.2.2) (by omega) (by omega) rfl ?_
                    obtain ⟨M4, hM4⟩ : ∃ z, z = (mset M3 ((s + 31)) ((ce r d)) ((ce r e : Nat) : Int)) := ⟨_, rfl⟩
                    refine WP.eqM hM4.symm ?_
                    have hO4 : ∀ x, x ≠ s + 31 → M4 x = M3 x := fun x hx => by rw [hM4]; exact mset_o x hx
                    refine WP.iload_n dX5_areTwins_115 rfl ?_
                    refine WP.iconst dX5_areTwins_116 ?_
                    refine WP.iload dX5_areTwins_117 rfl ?_
                    refine WP.ishl (z := ((2 ^ ce r e : Nat) : Int)) dX5_areTwins_119 (oi_shl1 (ce r e) (by omega)) ?_
                    refine WP.ior (z := ((m ||| 2 ^ ce r e : Nat) : Int)) dX5_areTwins_120 (oi_or m (2 ^ ce r e)) ?_
                    refine WP.istore_n (lt := [vR s, vI ((d : Nat) : Int), vI ((e : Nat) : Int), vI ((m ||| 2 ^ ce r e : Nat) : Int), vI ((r : Nat) : Int), vI ((ce r d : Nat) : Int), vI ((ce r e : Nat) : Int)]) dX5_areTwins_121 (by decide) rfl ?_
                    refine WP.aload_n dX5_areTwins_122 rfl ?_
                    refine WP.getR (y := (s + 31)) dX5_areTwins_123 fl_X5_39 ((shS hs).1) (by decide) ((srS hs).2.2.2.2.2.2) ?_
                    refine WP.iload dX5_areTwins_126 rfl ?_
                    refine WP.iaload (y := (ce r d)) (x := ((ce r e : Nat) : Int)) dX5_areTwins_128 ((shS hs).2.2.2.2.2.2.2) (by omega) (by omega) (by rw [hM4, mset_s]) ?_
                    refine WP.iload dX5_areTwins_129 rfl ?_
                    refine WP.icmp_eq (tgt := 136) dX5_areTwins_131 (by decide) (by omega) (by omega) (fun h131 => ?_) (fun h131 => ?_)
                    · skip
                      refine WP.iinc (lt := [vR s, vI ((d : Nat) : Int), vI ((e : Nat) : Int), vI ((m ||| 2 ^ ce r e : Nat) : Int), vI (((r : Nat) : Int) + 1), vI ((ce r d : Nat) : Int), vI ((ce r e : Nat) : Int)]) dX5_areTwins_136 rfl (by decide) rfl ?_
                      refine WP.goto (tgt := 51) dX5_areTwins_139 (by decide) ?_
                      refine WP.fgt (lt := [vR s, vI ((d : Nat) : Int), vI ((e : Nat) : Int), vI (((m ||| 2 ^ ce r e) : Nat) : Int), vI (((r + 1) : Nat) : Int), vU, vU]) ⟨Or.inr rfl, Or.inr rfl, Or.inr rfl, Or.inr (congrArg vI (by omega)), Or.inr (congrArg vI (by omega)), Or.inl rfl, Or.inl rfl, trivial⟩ ?_
                      exact ih51 (r + 1) (m ||| 2 ^ ce r e) (M4) (by omega) (fun x hx => (hO4 x hx).trans (hF3 x hx)) (or_b hm16 (by omega)) (fun w hw => by
                        rw [mk_or, hmk w hw]
                        exact ⟨fun z => z.elim (fun ⟨q, q1, q2⟩ => ⟨q, by omega, q2⟩) (fun q => ⟨r, by omega, q.symm⟩), fun ⟨q, q1, q2⟩ => by
                          by_cases e9 : q = r
                          · rw [e9] at q2; exact Or.inr q2.symm
                          · exact Or.inl ⟨q, by omega, q2⟩⟩) (fun v hv => by
                        by_cases e9 : v = ce r d
                        · exact Or.inr ⟨r, by omega, e9.symm, by rw [hM4, e9, mset_s]⟩
                        · rw [hM4, mset_n (Or.inr e9)]
                          refine (htw v hv).elim (fun z => Or.inl ⟨z.1, fun q hq => ?_⟩) (fun ⟨q, q1, q2, q3⟩ => Or.inr ⟨q, by omega, q2, q3⟩)
                          by_cases e8 : q = r
                          · rw [e8]; exact fun x => e9 x.symm
                          · exact z.2 q (by omega)) (tw_new hok hnd hnw) (by omega)
                    · skip
                      exact absurd rfl h131
          refine WP.fgt (lt := [vR s, vI ((d : Nat) : Int), vI ((e : Nat) : Int), vI ((0 : Nat) : Int), vI ((0 : Nat) : Int), vU, vU]) ⟨Or.inr rfl, Or.inr rfl, Or.inr rfl, Or.inr (congrArg vI (by omega)), Or.inr (congrArg vI (by omega)), Or.inl rfl, Or.inl rfl, trivial⟩ ?_
          exact L51 _ (0) (0) (M1) (Nat.zero_le _) (hF1) (by decide) (fun w hw => ⟨fun z => by unfold mk at z; rw [Nat.zero_div] at z; exact absurd z (by decide), fun ⟨q, hq, _⟩ => absurd hq (Nat.not_lt_zero q)⟩) (fun v hv => Or.inl ⟨hN v (by omega), fun q hq => absurd hq (Nat.not_lt_zero q)⟩) (fun p q hp => absurd hp (Nat.not_lt_zero p)) (Nat.lt_succ_self _)
        · skip
          refine WP.aload_n dX5_areTwins_34 rfl ?_
          refine WP.getR (y := (s + 31)) dX5_areTwins_35 fl_X5_39 ((shS hs).1) (by decide) ((srS hs).2.2.2.2.2.2) ?_
          refine WP.iload dX5_areTwins_38 rfl ?_
          refine WP.iconst dX5_areTwins_40 ?_
          refine WP.iastore (y := v) dX5_areTwins_41 ((shS hs).2.2.2.2.2.2.2) (by omega) (by omega) rfl ?_
          obtain ⟨M2, hM2⟩ : ∃ z, z = (mset M1 ((s + 31)) v ((-1) : Int)) := ⟨_, rfl⟩
          refine WP.eqM hM2.symm ?_
          have hO2 : ∀ x, x ≠ s + 31 → M2 x = M1 x := fun x hx => by rw [hM2]; exact mset_o x hx
          refine WP.iinc (lt := [vR s, vI ((d : Nat) : Int), vI ((e : Nat) : Int), vI (0 : Int), vI (((v : Nat) : Int) + 1), vU, vU]) dX5_areTwins_42 rfl (by decide) rfl ?_
          refine WP.goto (tgt := 28) dX5_areTwins_45 (by decide) ?_
          refine WP.fgt (lt := [vR s, vI ((d : Nat) : Int), vI ((e : Nat) : Int), vI (0 : Int), vI (((v + 1) : Nat) : Int), vU, vU]) ⟨Or.inr rfl, Or.inr rfl, Or.inr rfl, Or.inr rfl, Or.inr (congrArg vI (by omega)), Or.inl rfl, Or.inl rfl, trivial⟩ ?_
          exact ih28 (v + 1) (M2) (by omega) (fun x hx => (hO2 x hx).trans (hF1 x hx)) (fun u hu => by
            rw [hM2]
            by_cases e9 : u = v
            · rw [e9, mset_s]
            · rw [mset_n (Or.inr e9)]; exact hN u (by omega)) (by omega)
    refine WP.fgt (lt := [vR s, vI ((d : Nat) : Int), vI ((e : Nat) : Int), vI (0 : Int), vI ((0 : Nat) : Int), vU, vU]) ⟨Or.inr rfl, Or.inr rfl, Or.inr rfl, Or.inr rfl, Or.inr (congrArg vI (by omega)), Or.inl rfl, Or.inl rfl, trivial⟩ ?_
    exact L28 _ (0) (M) (by omega) (fun _ _ => rfl) (fun u hu => absurd hu (Nat.not_lt_zero u)) (Nat.lt_succ_self _)
  · skip
    refine WP.iconst dX5_areTwins_21 ?_
    refine WP.zret dX5_areTwins_22 rfl (by decide) ?_
    exact ⟨congrArg some (congrArg vI (bi_f (fun z => by have := z.1; omega)).symm), fun _ _ => rfl⟩
