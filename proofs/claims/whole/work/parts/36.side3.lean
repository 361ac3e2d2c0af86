theorem LB.fr {M M' : Mem} {s k : Nat} {sz cl : Nat → Nat} {ll : Nat → Nat → Nat} (h : LB M s k sz cl ll) (h1 : M' (s + 1) = M (s + 1)) (h2 : M' (s + 2) = M (s + 2)) : LB M' s k sz cl ll := fun c hc => ⟨⟨by rw [h1]; exact (h c hc).1.1, (h c hc).1.2⟩, fun v hv => ⟨by rw [h2]; exact ((h c hc).2 v hv).1, ((h c hc).2 v hv).2⟩⟩
/-- the keys of depth d -/
def KY (M : Mem) (s d n k : Nat) (sz : Nat → Nat) (rk : Nat → Int64) (lk : Nat → Nat → Int64) (ck : Nat → Int64) : Prop := (∀ r, r < n → Int64.ofInt (M (s + 5 + d) r) = rk r) ∧ (∀ c, c < k → ∀ v, v < sz c → Int64.ofInt (M (s + 14 + d) (c * 4 + v)) = lk c v) ∧ ∀ c, c < k → Int64.ofInt (M (s + 23 + d) c) = ck c
theorem KY.fr {M M' : Mem} {s d n k : Nat} {sz : Nat → Nat} {rk : Nat → Int64} {lk : Nat → Nat → Int64} {ck : Nat → Int64} (h : KY M s d n k sz rk lk ck) (h1 : M' (s + 5 + d) = M (s + 5 + d)) (h2 : M' (s + 14 + d) = M (s + 14 + d)) (h3 : M' (s + 23 + d) = M (s + 23 + d)) : KY M' s d n k sz rk lk ck := by
  unfold KY
  rw [h1, h2, h3]
  exact h
noncomputable def kr1 (k : Nat) (ce : Nat → Nat → Nat) (j r : Nat) : Int64 := lsm (fun q => cif (q = j) 0 (mixv (Int64.ofNat (agr ce j q k)))) r
theorem kr1_s {k : Nat} {ce : Nat → Nat → Nat} {j r : Nat} (h : r ≠ j) : kr1 k ce j (r + 1) = kr1 k ce j r + mixv (Int64.ofNat (agr ce j r k)) := by rw [kr1, lsm, cif_f h]; rfl
theorem kr1_e (k : Nat) (ce : Nat → Nat → Nat) (r : Nat) : kr1 k ce r (r + 1) = kr1 k ce r r := by rw [kr1, lsm, cif_t rfl, Int64.add_zero]; rfl
def lF (d c : Nat) : Nat := if c < d then c + 1 else 0
def llF (d c v : Nat) : Nat := if c < d then v + 1 else 0
set_option maxHeartbeats 4000000 in
set_option maxRecDepth 20000 in
theorem c_Z_refine {M : Mem} {d : Nat} {rk : Nat → Int64} {s t n k : Nat} {sz : Nat → Nat} {ce : Nat → Nat → Nat} (hs : isS s) (ht : isT t) (hT : TX M t n k sz ce) (hW : Wf n k sz ce) (hn : n ≤ 18) (h4 : ∀ c, c < k → sz c ≤ 4) (hm0 : M s 0 = (t : Int)) {cl : Nat → Nat} {ll : Nat → Nat → Nat} (hL : LB M s k sz cl ll) (hd : d < 8) (hsrc : ∀ r, r < n → Int64.ofInt (M (s + 5 + (d - 1)) r) = rk r) : CT 3 m_X5_refine [vR s, vI ((d : Nat) : Int)] M (fun z M' => z = none ∧ (∀ x, x ≠ s + 5 + d → x ≠ s + 14 + d → x ≠ s + 23 + d → M' x = M x) ∧ KY M' s d n k sz (kRF n k sz ce cl ll rk) (kGL n sz ce cl ll (kRF n k sz ce cl ll rk)) (kGC n sz ce cl ll (kRF n k sz ce cl ll rk))) := by
  have b1 := hW.1
  have b2 := hW.2.1
  have ht2 := ht.2
  have hs9 := hs
  unfold isS at hs9
  refine CT.ofWP (by decide +kernel) (Nat.le_of_ble_eq_true rfl) ?_
  show WP sc0 3 m_X5_refine 0 [vR s, vI ((d : Nat) : Int)] [] M (fun z M' => z = none ∧ (∀ x, x ≠ s + 5 + d → x ≠ s + 14 + d → x ≠ s + 23 + d → M' x = M x) ∧ KY M' s d n k sz (kRF n k sz ce cl ll rk) (kGL n sz ce cl ll (kRF n k sz ce cl ll rk)) (kGC n sz ce cl ll (kRF n k sz ce cl ll rk)))
  refine WP.iload_n dX5_refine_0 rfl ?_
  refine WP.if_le (tgt := 25) dX5_refine_1 (by decide) (by omega) (fun h1 => ?_) (fun h1 => ?_)
  · skip
    obtain ⟨M1, hM1⟩ : ∃ z, z = M := ⟨_, rfl⟩
    have hO1 : ∀ x, x ≠ s + 5 + d → M1 x = M x := fun x _ => by rw [hM1]
    have hr1 : ∀ r, r < n → Int64.ofInt (M1 (s + 5 + d) r) = rk r := fun r hr => by rw [hM1, show s + 5 + d = s + 5 + (d - 1) by omega]; exact hsrc r hr
    refine WP.eqM hM1.symm ?_
    have hT1 : TX M1 t n k sz ce := hT.fr (hO1 t (by omega)) (hO1 (t + 1) (by omega)) (hO1 (t + 2) (by omega))
    have hL1 : LB M1 s k sz cl ll := hL.fr (hO1 _ (by omega)) (hO1 _ (by omega))
    have hm1 : M1 s 0 = (t : Int) := by rw [hO1 s (by omega)]; exact hm0
    refine WP.aload_n dX5_refine_25 rfl ?_
    refine WP.aload_n dX5_refine_26 rfl ?_
    refine WP.getR (y := (s + 4)) dX5_refine_27 fl_X5_30 ((shS hs).1) (by decide) ((srS hs).2.2.2.1) ?_
    refine WP.iload_n dX5_refine_30 rfl ?_
    refine WP.aaloadL (y := d) (z := (s + 5 + d)) dX5_refine_31 ((shS hs).2.2.2.2.1) (by omega) (by omega) ((srSd hs).1) ?_
    refine WP.aload_n dX5_refine_32 rfl ?_
    refine WP.getR (y := (s + 13)) dX5_refine_33 fl_X5_33 ((shS hs).1) (by decide) ((srS hs).2.2.2.2.1) ?_
    refine WP.iload_n dX5_refine_36 rfl ?_
    refine WP.aaloadL (y := d) (z := (s + 14 + d)) dX5_refine_37 ((shS hs).2.2.2.2.2.1) (by omega) (by omega) ((srSd hs).2.1) ?_
    refine WP.aload_n dX5_refine_38 rfl ?_
    refine WP.getR (y := (s + 22)) dX5_refine_39 fl_X5_36 ((shS hs).1) (by decide) ((srS hs).2.2.2.2.2.1) ?_
    refine WP.iload_n dX5_refine_42 rfl ?_
    refine WP.aaloadL (y := d) (z := (s + 23 + d)) dX5_refine_43 ((shS hs).2.2.2.2.2.2.1) (by omega) (by omega) ((srSd hs).2.2) ?_
    refine WP.callV (as := [vR (s + 5 + d), vR (s + 14 + d), vR (s + 23 + d)]) dX5_refine_44 mv_X5_76 rfl ((shS hs).1) (by decide) rfl rfl (c_Z_gather (rk := rk) hs ht hT1 hW hn h4 hm1 hL1 (shSk hs (d := d) (by omega)).1 (shSk hs (d := d) (by omega)).2.1 (shSk hs (d := d) (by omega)).2.2 hr1) rfl (Nat.le_of_ble_eq_true rfl) (by omega) (fun r9 M2 h9 => ?_)
    obtain ⟨rfl, f2, l2, c2⟩ := h9
    have hT2 : TX M2 t n k sz ce := hT1.fr (f2 t (by omega) (by omega)) (f2 (t + 1) (by omega) (by omega)) (f2 (t + 2) (by omega) (by omega))
    have hL2 : LB M2 s k sz cl ll := hL1.fr (f2 _ (by omega) (by omega)) (f2 _ (by omega) (by omega))
    have hm2 : M2 s 0 = (t : Int) := by rw [f2 s (by omega) (by omega)]; exact hm1
    show WP sc0 3 m_X5_refine 47 [vR s, vI ((d : Nat) : Int)] [] M2 (fun z M' => z = none ∧ (∀ x, x ≠ s + 5 + d → x ≠ s + 14 + d → x ≠ s + 23 + d → M' x = M x) ∧ KY M' s d n k sz (kRF n k sz ce cl ll rk) (kGL n sz ce cl ll (kRF n k sz ce cl ll rk)) (kGC n sz ce cl ll (kRF n k sz ce cl ll rk)))
    refine WP.aload_n dX5_refine_47 rfl ?_
    refine WP.aload_n dX5_refine_48 rfl ?_
    refine WP.getR (y := (s + 4)) dX5_refine_49 fl_X5_30 ((shS hs).1) (by decide) ((srS hs).2.2.2.1) ?_
    refine WP.iload_n dX5_refine_52 rfl ?_
    refine WP.aaloadL (y := d) (z := (s + 5 + d)) dX5_refine_53 ((shS hs).2.2.2.2.1) (by omega) (by omega) ((srSd hs).1) ?_
    refine WP.aload_n dX5_refine_54 rfl ?_
    refine WP.getR (y := (s + 13)) dX5_refine_55 fl_X5_33 ((shS hs).1) (by decide) ((srS hs).2.2.2.2.1) ?_
    refine WP.iload_n dX5_refine_58 rfl ?_
    refine WP.aaloadL (y := d) (z := (s + 14 + d)) dX5_refine_59 ((shS hs).2.2.2.2.2.1) (by omega) (by omega) ((srSd hs).2.1) ?_
    refine WP.callV (as := [vR (s + 5 + d), vR (s + 14 + d)]) dX5_refine_60 mv_X5_80 rfl ((shS hs).1) (by decide) rfl rfl (c_Z_spread (rk := rk) (lk := kGL n sz ce cl ll rk) hs ht hT2 hW hn h4 hm2 (shSk hs (d := d) (by omega)).1 (shSk hs (d := d) (by omega)).2.1 (fun r hr => by rw [f2 _ (by omega) (by omega)]; exact hr1 r hr) l2) rfl (Nat.le_of_ble_eq_true rfl) (by omega) (fun r9 M3 h9 => ?_)
    obtain ⟨rfl, f3, r3⟩ := h9
    have hT3 : TX M3 t n k sz ce := hT2.fr (f3 t (by omega)) (f3 (t + 1) (by omega)) (f3 (t + 2) (by omega))
    have hL3 : LB M3 s k sz cl ll := hL2.fr (f3 _ (by omega)) (f3 _ (by omega))
    have hm3 : M3 s 0 = (t : Int) := by rw [f3 s (by omega)]; exact hm2
    show WP sc0 3 m_X5_refine 63 [vR s, vI ((d : Nat) : Int)] [] M3 (fun z M' => z = none ∧ (∀ x, x ≠ s + 5 + d → x ≠ s + 14 + d → x ≠ s + 23 + d → M' x = M x) ∧ KY M' s d n k sz (kRF n k sz ce cl ll rk) (kGL n sz ce cl ll (kRF n k sz ce cl ll rk)) (kGC n sz ce cl ll (kRF n k sz ce cl ll rk)))
    refine WP.aload_n dX5_refine_63 rfl ?_
    refine WP.aload_n dX5_refine_64 rfl ?_
    refine WP.getR (y := (s + 4)) dX5_refine_65 fl_X5_30 ((shS hs).1) (by decide) ((srS hs).2.2.2.1) ?_
    refine WP.iload_n dX5_refine_68 rfl ?_
    refine WP.aaloadL (y := d) (z := (s + 5 + d)) dX5_refine_69 ((shS hs).2.2.2.2.1) (by omega) (by omega) ((srSd hs).1) ?_
    refine WP.aload_n dX5_refine_70 rfl ?_
    refine WP.getR (y := (s + 13)) dX5_refine_71 fl_X5_33 ((shS hs).1) (by decide) ((srS hs).2.2.2.2.1) ?_
    refine WP.iload_n dX5_refine_74 rfl ?_
    refine WP.aaloadL (y := d) (z := (s + 14 + d)) dX5_refine_75 ((shS hs).2.2.2.2.2.1) (by omega) (by omega) ((srSd hs).2.1) ?_
    refine WP.aload_n dX5_refine_76 rfl ?_
    refine WP.getR (y := (s + 22)) dX5_refine_77 fl_X5_36 ((shS hs).1) (by decide) ((srS hs).2.2.2.2.2.1) ?_
    refine WP.iload_n dX5_refine_80 rfl ?_
    refine WP.aaloadL (y := d) (z := (s + 23 + d)) dX5_refine_81 ((shS hs).2.2.2.2.2.2.1) (by omega) (by omega) ((srSd hs).2.2) ?_
    refine WP.callV (as := [vR (s + 5 + d), vR (s + 14 + d), vR (s + 23 + d)]) dX5_refine_82 mv_X5_76 rfl ((shS hs).1) (by decide) rfl rfl (c_Z_gather (rk := kRF n k sz ce cl ll rk) hs ht hT3 hW hn h4 hm3 hL3 (shSk hs (d := d) (by omega)).1 (shSk hs (d := d) (by omega)).2.1 (shSk hs (d := d) (by omega)).2.2 r3) rfl (Nat.le_of_ble_eq_true rfl) (by omega) (fun r9 M4 h9 => ?_)
    obtain ⟨rfl, f4, l4, c4⟩ := h9
    show WP sc0 3 m_X5_refine 85 [vR s, vI ((d : Nat) : Int)] [] M4 (fun z M' => z = none ∧ (∀ x, x ≠ s + 5 + d → x ≠ s + 14 + d → x ≠ s + 23 + d → M' x = M x) ∧ KY M' s d n k sz (kRF n k sz ce cl ll rk) (kGL n sz ce cl ll (kRF n k sz ce cl ll rk)) (kGC n sz ce cl ll (kRF n k sz ce cl ll rk)))
    refine WP.vret dX5_refine_85 rfl ?_
    exact ⟨rfl, fun x i1 i2 i3 => by rw [f4 x i2 i3, f3 x i1, f2 x i2 i3, hO1 x i1], fun r hr => by rw [f4 _ (by omega) (by omega)]; exact r3 r hr, l4, c4⟩
  · skip
    refine WP.aload_n dX5_refine_4 rfl ?_
    refine WP.getR (y := (s + 4)) dX5_refine_5 fl_X5_30 ((shS hs).1) (by decide) ((srS hs).2.2.2.1) ?_
    refine WP.iload_n dX5_refine_8 rfl ?_
    refine WP.iconst dX5_refine_9 ?_
    refine WP.isub dX5_refine_10 ?_
    refine WP.aaloadL (y := (d - 1)) (z := (s + 5 + (d - 1))) dX5_refine_11 ((shS hs).2.2.2.2.1) (by omega) (by omega) ((srSd hs).1) ?_
    refine WP.iconst dX5_refine_12 ?_
    refine WP.aload_n dX5_refine_13 rfl ?_
    refine WP.getR (y := (s + 4)) dX5_refine_14 fl_X5_30 ((shS hs).1) (by decide) ((srS hs).2.2.2.1) ?_
    refine WP.iload_n dX5_refine_17 rfl ?_
    refine WP.aaloadL (y := d) (z := (s + 5 + d)) dX5_refine_18 ((shS hs).2.2.2.2.1) (by omega) (by omega) ((srSd hs).1) ?_
    refine WP.iconst dX5_refine_19 ?_
    refine WP.bipush dX5_refine_20 (by decide) ?_
    refine WP.copyL (sp := 0) (dp := 0) (n := 18) dX5_refine_22 w_ml_X5_70 ((shSk hs (d := d - 1) (by omega)).1) ((shSk hs (d := d) (by omega)).1) (by omega) (by omega) (by omega) (by omega) (by omega) (Nat.le_of_ble_eq_true rfl) (by omega) rfl ?_
    obtain ⟨M1, hM1⟩ : ∃ z, z = (mcpy M ((s + 5 + (d - 1))) 0 ((s + 5 + d)) 0 18) := ⟨_, rfl⟩
    have hO1 : ∀ x, x ≠ s + 5 + d → M1 x = M x := fun x hx => by rw [hM1]; exact mcpy_o x hx
    have hr1 : ∀ r, r < n → Int64.ofInt (M1 (s + 5 + d) r) = rk r := fun r hr => by
      rw [hM1, mcpy, if_pos ⟨rfl, Nat.zero_le _, by omega⟩, show 0 + (r - 0) = r by omega]
      exact hsrc r hr
    refine WP.eqM hM1.symm ?_
    have hT1 : TX M1 t n k sz ce := hT.fr (hO1 t (by omega)) (hO1 (t + 1) (by omega)) (hO1 (t + 2) (by omega))
    have hL1 : LB M1 s k sz cl ll := hL.fr (hO1 _ (by omega)) (hO1 _ (by omega))
    have hm1 : M1 s 0 = (t : Int) := by rw [hO1 s (by omega)]; exact hm0
    refine WP.aload_n dX5_refine_25 rfl ?_
    refine WP.aload_n dX5_refine_26 rfl ?_
    refine WP.getR (y := (s + 4)) dX5_refine_27 fl_X5_30 ((shS hs).1) (by decide) ((srS hs).2.2.2.1) ?_
    refine WP.iload_n dX5_refine_30 rfl ?_
    refine WP.aaloadL (y := d) (z := (s + 5 + d)) dX5_refine_31 ((shS hs).2.2.2.2.1) (by omega) (by omega) ((srSd hs).1) ?_
    refine WP.aload_n dX5_refine_32 rfl ?_
    refine WP.getR (y := (s + 13)) dX5_refine_33 fl_X5_33 ((shS hs).1) (by decide) ((srS hs).2.2.2.2.1) ?_
    refine WP.iload_n dX5_refine_36 rfl ?_
    refine WP.aaloadL (y := d) (z := (s + 14 + d)) dX5_refine_37 ((shS hs).2.2.2.2.2.1) (by omega) (by omega) ((srSd hs).2.1) ?_
    refine WP.aload_n dX5_refine_38 rfl ?_
    refine WP.getR (y := (s + 22)) dX5_refine_39 fl_X5_36 ((shS hs).1) (by decide) ((srS hs).2.2.2.2.2.1) ?_
    refine WP.iload_n dX5_refine_42 rfl ?_
    refine WP.aaloadL (y := d) (z := (s + 23 + d)) dX5_refine_43 ((shS hs).2.2.2.2.2.2.1) (by omega) (by omega) ((srSd hs).2.2) ?_
    refine WP.callV (as := [vR (s + 5 + d), vR (s + 14 + d), vR (s + 23 + d)]) dX5_refine_44 mv_X5_76 rfl ((shS hs).1) (by decide) rfl rfl (c_Z_gather (rk := rk) hs ht hT1 hW hn h4 hm1 hL1 (shSk hs (d := d) (by omega)).1 (shSk hs (d := d) (by omega)).2.1 (shSk hs (d := d) (by omega)).2.2 hr1) rfl (Nat.le_of_ble_eq_true rfl) (by omega) (fun r9 M2 h9 => ?_)
    obtain ⟨rfl, f2, l2, c2⟩ := h9
    have hT2 : TX M2 t n k sz ce := hT1.fr (f2 t (by omega) (by omega)) (f2 (t + 1) (by omega) (by omega)) (f2 (t + 2) (by omega) (by omega))
    have hL2 : LB M2 s k sz cl ll := hL1.fr (f2 _ (by omega) (by omega)) (f2 _ (by omega) (by omega))
    have hm2 : M2 s 0 = (t : Int) := by rw [f2 s (by omega) (by omega)]; exact hm1
    show WP sc0 3 m_X5_refine 47 [vR s, vI ((d : Nat) : Int)] [] M2 (fun z M' => z = none ∧ (∀ x, x ≠ s + 5 + d → x ≠ s + 14 + d → x ≠ s + 23 + d → M' x = M x) ∧ KY M' s d n k sz (kRF n k sz ce cl ll rk) (kGL n sz ce cl ll (kRF n k sz ce cl ll rk)) (kGC n sz ce cl ll (kRF n k sz ce cl ll rk)))
    refine WP.aload_n dX5_refine_47 rfl ?_
    refine WP.aload_n dX5_refine_48 rfl ?_
    refine WP.getR (y := (s + 4)) dX5_refine_49 fl_X5_30 ((shS hs).1) (by decide) ((srS hs).2.2.2.1) ?_
    refine WP.iload_n dX5_refine_52 rfl ?_
    refine WP.aaloadL (y := d) (z := (s + 5 + d)) dX5_refine_53 ((shS hs).2.2.2.2.1) (by omega) (by omega) ((srSd hs).1) ?_
    refine WP.aload_n dX5_refine_54 rfl ?_
    refine WP.getR (y := (s + 13)) dX5_refine_55 fl_X5_33 ((shS hs).1) (by decide) ((srS hs).2.2.2.2.1) ?_
    refine WP.iload_n dX5_refine_58 rfl ?_
    refine WP.aaloadL (y := d) (z := (s + 14 + d)) dX5_refine_59 ((shS hs).2.2.2.2.2.1) (by omega) (by omega) ((srSd hs).2.1) ?_
    refine WP.callV (as := [vR (s + 5 + d), vR (s + 14 + d)]) dX5_refine_60 mv_X5_80 rfl ((shS hs).1) (by decide) rfl rfl (c_Z_spread (rk := rk) (lk := kGL n sz ce cl ll rk) hs ht hT2 hW hn h4 hm2 (shSk hs (d := d) (by omega)).1 (shSk hs (d := d) (by omega)).2.1 (fun r hr => by rw [f2 _ (by omega) (by omega)]; exact hr1 r hr) l2) rfl (Nat.le_of_ble_eq_true rfl) (by omega) (fun r9 M3 h9 => ?_)
    obtain ⟨rfl, f3, r3⟩ := h9
    have hT3 : TX M3 t n k sz ce := hT2.fr (f3 t (by omega)) (f3 (t + 1) (by omega)) (f3 (t + 2) (by omega))
    have hL3 : LB M3 s k sz cl ll := hL2.fr (f3 _ (by omega)) (f3 _ (by omega))
    have hm3 : M3 s 0 = (t : Int) := by rw [f3 s (by omega)]; exact hm2
    show WP sc0 3 m_X5_refine 63 [vR s, vI ((d : Nat) : Int)] [] M3 (fun z M' => z = none ∧ (∀ x, x ≠ s + 5 + d → x ≠ s + 14 + d → x ≠ s + 23 + d → M' x = M x) ∧ KY M' s d n k sz (kRF n k sz ce cl ll rk) (kGL n sz ce cl ll (kRF n k sz ce cl ll rk)) (kGC n sz ce cl ll (kRF n k sz ce cl ll rk)))
    refine WP.aload_n dX5_refine_63 rfl ?_
    refine WP.aload_n dX5_refine_64 rfl ?_
    refine WP.getR (y := (s + 4)) dX5_refine_65 fl_X5_30 ((shS hs).1) (by decide) ((srS hs).2.2.2.1) ?_
    refine WP.iload_n dX5_refine_68 rfl ?_
    refine WP.aaloadL (y := d) (z := (s + 5 + d)) dX5_refine_69 ((shS hs).2.2.2.2.1) (by omega) (by omega) ((srSd hs).1) ?_
    refine WP.aload_n dX5_refine_70 rfl ?_
    refine WP.getR (y := (s + 13)) dX5_refine_71 fl_X5_33 ((shS hs).1) (by decide) ((srS hs).2.2.2.2.1) ?_
    refine WP.iload_n dX5_refine_74 rfl ?_
    refine WP.aaloadL (y := d) (z := (s + 14 + d)) dX5_refine_75 ((shS hs).2.2.2.2.2.1) (by omega) (by omega) ((srSd hs).2.1) ?_
    refine WP.aload_n dX5_refine_76 rfl ?_
    refine WP.getR (y := (s + 22)) dX5_refine_77 fl_X5_36 ((shS hs).1) (by decide) ((srS hs).2.2.2.2.2.1) ?_
    refine WP.iload_n dX5_refine_80 rfl ?_
    refine WP.aaloadL (y := d) (z := (s + 23 + d)) dX5_refine_81 ((shS hs).2.2.2.2.2.2.1) (by omega) (by omega) ((srSd hs).2.2) ?_
    refine WP.callV (as := [vR (s + 5 + d), vR (s + 14 + d), vR (s + 23 + d)]) dX5_refine_82 mv_X5_76 rfl ((shS hs).1) (by decide) rfl rfl (c_Z_gather (rk := kRF n k sz ce cl ll rk) hs ht hT3 hW hn h4 hm3 hL3 (shSk hs (d := d) (by omega)).1 (shSk hs (d := d) (by omega)).2.1 (shSk hs (d := d) (by omega)).2.2 r3) rfl (Nat.le_of_ble_eq_true rfl) (by omega) (fun r9 M4 h9 => ?_)
    obtain ⟨rfl, f4, l4, c4⟩ := h9
    show WP sc0 3 m_X5_refine 85 [vR s, vI ((d : Nat) : Int)] [] M4 (fun z M' => z = none ∧ (∀ x, x ≠ s + 5 + d → x ≠ s + 14 + d → x ≠ s + 23 + d → M' x = M x) ∧ KY M' s d n k sz (kRF n k sz ce cl ll rk) (kGL n sz ce cl ll (kRF n k sz ce cl ll rk)) (kGC n sz ce cl ll (kRF n k sz ce cl ll rk)))
    refine WP.vret dX5_refine_85 rfl ?_
    exact ⟨rfl, fun x i1 i2 i3 => by rw [f4 x i2 i3, f3 x i1, f2 x i2 i3, hO1 x i1], fun r hr => by rw [f4 _ (by omega) (by omega)]; exact r3 r hr, l4, c4⟩
set_option maxHeartbeats 4000000 in
set_option maxRecDepth 20000 in
theorem c_Z_clear {M : Mem} {s : Nat} (hs : isS s) : CT 1 m_X5_clearLabels [vR s] M (fun z M' => z = none ∧ (∀ x, x ≠ s + 1 → x ≠ s + 2 → x ≠ s + 3 → M' x = M x) ∧ (∀ j, j < 7 → M' (s + 1) j = 0) ∧ ∀ j, j < 28 → M' (s + 2) j = 0 ∧ M' (s + 3) j = 0) := by
  refine CT.ofWP (by decide +kernel) (Nat.le_of_ble_eq_true rfl) ?_
  show WP sc0 1 m_X5_clearLabels 0 [vR s, vU] [] M (fun z M' => z = none ∧ (∀ x, x ≠ s + 1 → x ≠ s + 2 → x ≠ s + 3 → M' x = M x) ∧ (∀ j, j < 7 → M' (s + 1) j = 0) ∧ ∀ j, j < 28 → M' (s + 2) j = 0 ∧ M' (s + 3) j = 0)
  refine WP.iconst dX5_clearLabels_0 ?_
  refine WP.istore_n (lt := [vR s, vI (0 : Int)]) dX5_clearLabels_1 (by decide) rfl ?_
  have L2 : ∀ (n9 : Nat) (c : Nat) (M1 : Mem) (hc : c ≤ 7) (hF : ∀ x, x ≠ s + 1 → M1 x = M x) (hZ : ∀ j, j < c → M1 (s + 1) j = 0), 7 - c < n9 → WP sc0 1 m_X5_clearLabels 2 [vR s, vI ((c : Nat) : Int)] [] M1 (fun z M' => z = none ∧ (∀ x, x ≠ s + 1 → x ≠ s + 2 → x ≠ s + 3 → M' x = M x) ∧ (∀ j, j < 7 → M' (s + 1) j = 0) ∧ ∀ j, j < 28 → M' (s + 2) j = 0 ∧ M' (s + 3) j = 0) := by
    intro n9
    induction n9 with
    | zero =>
      intro c M1 hc hF hZ hm9
      exact absurd hm9 (Nat.not_lt_zero _)
    | succ n9 ih2 =>
      intro c M1 hc hF hZ hm9
      refine WP.iload_n dX5_clearLabels_2 rfl ?_
      refine WP.bipush dX5_clearLabels_3 (by decide) ?_
      refine WP.icmp_ge (tgt := 21) dX5_clearLabels_5 (by decide) (by omega) (by omega) (fun h5 => ?_) (fun h5 => ?_)
      · skip
        refine WP.iconst dX5_clearLabels_21 ?_
        refine WP.istore_n (lt := [vR s, vI (0 : Int)]) dX5_clearLabels_22 (by decide) rfl ?_
        have L23 : ∀ (n9 : Nat) (c : Nat) (M3 : Mem) (hc : c ≤ 28) (hF3 : ∀ x, x ≠ s + 2 → x ≠ s + 3 → M3 x = M1 x) (hZ3 : ∀ j, j < c → M3 (s + 2) j = 0 ∧ M3 (s + 3) j = 0), 28 - c < n9 → WP sc0 1 m_X5_clearLabels 23 [vR s, vI ((c : Nat) : Int)] [] M3 (fun z M' => z = none ∧ (∀ x, x ≠ s + 1 → x ≠ s + 2 → x ≠ s + 3 → M' x = M x) ∧ (∀ j, j < 7 → M' (s + 1) j = 0) ∧ ∀ j, j < 28 → M' (s + 2) j = 0 ∧ M' (s + 3) j = 0) := by
          intro n9
          induction n9 with
          | zero =>
            intro c M3 hc hF3 hZ3 hm9
            exact absurd hm9 (Nat.not_lt_zero _)
          | succ n9 ih23 =>
            intro c M3 hc hF3 hZ3 hm9
            refine WP.iload_n dX5_clearLabels_23 rfl ?_
            refine WP.bipush dX5_clearLabels_24 (by decide) ?_
            refine WP.icmp_ge (tgt := 49) dX5_clearLabels_26 (by decide) (by omega) (by omega) (fun h26 => ?_) (fun h26 => ?_)
            · skip
              refine WP.vret dX5_clearLabels_49 rfl ?_
              exact ⟨rfl, fun x i1 i2 i3 => by rw [hF3 x i2 i3]; exact hF x i1, fun j hj => by rw [hF3 _ (by omega) (by omega)]; exact hZ j (by omega), fun j hj => hZ3 j (by omega)⟩
            · skip
              refine WP.aload_n dX5_clearLabels_29 rfl ?_
              refine WP.getR (y := (s + 2)) dX5_clearLabels_30 fl_X5_22 ((shS hs).1) (by decide) ((srS hs).2.1) ?_
              refine WP.iload_n dX5_clearLabels_33 rfl ?_
              refine WP.iconst dX5_clearLabels_34 ?_
              refine WP.iastore (y := c) dX5_clearLabels_35 ((shS hs).2.2.1) (by omega) (by omega) rfl ?_
              obtain ⟨M4, hM4⟩ : ∃ z, z = (mset M3 ((s + 2)) c (0 : Int)) := ⟨_, rfl⟩
              refine WP.eqM hM4.symm ?_
              refine WP.aload_n dX5_clearLabels_36 rfl ?_
              refine WP.getR (y := (s + 3)) dX5_clearLabels_37 fl_X5_25 ((shS hs).1) (by decide) ((srS hs).2.2.1) ?_
              refine WP.iload_n dX5_clearLabels_40 rfl ?_
              refine WP.iconst dX5_clearLabels_41 ?_
              refine WP.iastore (y := c) dX5_clearLabels_42 ((shS hs).2.2.2.1) (by omega) (by omega) rfl ?_
              obtain ⟨M5, hM5⟩ : ∃ z, z = (mset M4 ((s + 3)) c (0 : Int)) := ⟨_, rfl⟩
              refine WP.eqM hM5.symm ?_
              refine WP.iinc (lt := [vR s, vI (((c : Nat) : Int) + 1)]) dX5_clearLabels_43 rfl (by decide) rfl ?_
              refine WP.goto (tgt := 23) dX5_clearLabels_46 (by decide) ?_
              refine WP.fgt (lt := [vR s, vI (((c + 1) : Nat) : Int)]) ⟨Or.inr rfl, Or.inr (congrArg vI (by omega)), trivial⟩ ?_
              exact ih23 (c + 1) (M5) (by omega) (fun x i1 i2 => by rw [hM5, mset_o x i2, hM4, mset_o x i1]; exact hF3 x i1 i2) (fun j hj => by
                rw [hM5, mset_o (s + 2) (by omega), hM4]
                by_cases e9 : j = c
                · rw [e9, mset_s, mset_s]; exact ⟨rfl, rfl⟩
                · rw [mset_n (Or.inr e9), mset_n (Or.inr e9), mset_o (s + 3) (by omega)]; exact hZ3 j (by omega)) (by omega)
        refine WP.fgt (lt := [vR s, vI ((0 : Nat) : Int)]) ⟨Or.inr rfl, Or.inr (congrArg vI (by omega)), trivial⟩ ?_
        exact L23 _ (0) (M1) (by omega) (fun _ _ _ => rfl) (fun j hj => absurd hj (Nat.not_lt_zero j)) (Nat.lt_succ_self _)
      · skip
        refine WP.aload_n dX5_clearLabels_8 rfl ?_
        refine WP.getR (y := (s + 1)) dX5_clearLabels_9 fl_X5_18 ((shS hs).1) (by decide) ((srS hs).1) ?_
        refine WP.iload_n dX5_clearLabels_12 rfl ?_
        refine WP.iconst dX5_clearLabels_13 ?_
        refine WP.iastore (y := c) dX5_clearLabels_14 ((shS hs).2.1) (by omega) (by omega) rfl ?_
        obtain ⟨M2, hM2⟩ : ∃ z, z = (mset M1 ((s + 1)) c (0 : Int)) := ⟨_, rfl⟩
        refine WP.eqM hM2.symm ?_
        refine WP.iinc (lt := [vR s, vI (((c : Nat) : Int) + 1)]) dX5_clearLabels_15 rfl (by decide) rfl ?_
        refine WP.goto (tgt := 2) dX5_clearLabels_18 (by decide) ?_
        refine WP.fgt (lt := [vR s, vI (((c + 1) : Nat) : Int)]) ⟨Or.inr rfl, Or.inr (congrArg vI (by omega)), trivial⟩ ?_
        exact ih2 (c + 1) (M2) (by omega) (fun x hx => by rw [hM2, mset_o x hx]; exact hF x hx) (fun j hj => by
          rw [hM2]
          by_cases e9 : j = c
          · rw [e9, mset_s]
          · rw [mset_n (Or.inr e9)]; exact hZ j (by omega)) (by omega)
  refine WP.fgt (lt := [vR s, vI ((0 : Nat) : Int)]) ⟨Or.inr rfl, Or.inr (congrArg vI (by omega)), trivial⟩ ?_
  exact L2 _ (0) (M) (by omega) (fun _ _ => rfl) (fun j hj => absurd hj (Nat.not_lt_zero j)) (Nat.lt_succ_self _)
set_option maxHeartbeats 4000000 in
set_option maxRecDepth 20000 in
theorem c_Z_start {M : Mem} {s t n k : Nat} {sz : Nat → Nat} {ce : Nat → Nat → Nat} (hs : isS s) (ht : isT t) (hT : TX M t n k sz ce) (hW : Wf n k sz ce) (hn : n ≤ 18) (h4 : ∀ c, c < k → sz c ≤ 4) : CT 4 m_X5_start [vR s, vR t] M (fun z M' => z = none ∧ (∀ x, x < s ∨ s + 32 ≤ x → M' x = M x) ∧ M' s 0 = (t : Int) ∧ LB M' s k sz (lF 0) (llF 0) ∧ (∀ c, c < k → ∀ v, v < sz c → M' (s + 3) (c * 4 + v) = ((cn (fun y9 => ce y9 c = v) n : Nat) : Int)) ∧ KY M' s 0 n k sz (kRF n k sz ce (lF 0) (llF 0) (kR0 n k ce)) (kGL n sz ce (lF 0) (llF 0) (kRF n k sz ce (lF 0) (llF 0) (kR0 n k ce))) (kGC n sz ce (lF 0) (llF 0) (kRF n k sz ce (lF 0) (llF 0) (kR0 n k ce)))) := by
  have b1 := hW.1
  have b2 := hW.2.1
  have ht2 := ht.2
  have hs9 := hs
  unfold isS at hs9
  refine CT.ofWP (by decide +kernel) (Nat.le_of_ble_eq_true rfl) ?_
  show WP sc0 4 m_X5_start 0 [vR s, vR t, vU, vU, vU, vU, vU] [] M (fun z M' => z = none ∧ (∀ x, x < s ∨ s + 32 ≤ x → M' x = M x) ∧ M' s 0 = (t : Int) ∧ LB M' s k sz (lF 0) (llF 0) ∧ (∀ c, c < k → ∀ v, v < sz c → M' (s + 3) (c * 4 + v) = ((cn (fun y9 => ce y9 c = v) n : Nat) : Int)) ∧ KY M' s 0 n k sz (kRF n k sz ce (lF 0) (llF 0) (kR0 n k ce)) (kGL n sz ce (lF 0) (llF 0) (kRF n k sz ce (lF 0) (llF 0) (kR0 n k ce))) (kGC n sz ce (lF 0) (llF 0) (kRF n k sz ce (lF 0) (llF 0) (kR0 n k ce))))
  refine WP.aload_n dX5_start_0 rfl ?_
  refine WP.aload_n dX5_start_1 rfl ?_
  refine WP.putM dX5_start_2 fl_X5_12 ((shS hs).1) (by decide) rfl ?_
  obtain ⟨M1, hM1⟩ : ∃ z, z = (mset M s 0 ((t : Nat) : Int)) := ⟨_, rfl⟩
  refine WP.eqM hM1.symm ?_
  have hO1 : ∀ x, x ≠ s → M1 x = M x := fun x hx => by rw [hM1]; exact mset_o x hx
  refine WP.aload_n dX5_start_5 rfl ?_
  refine WP.callV (as := []) dX5_start_6 mv_X5_42 rfl ((shS hs).1) (by decide) rfl rfl (c_Z_clear hs) rfl (Nat.le_of_ble_eq_true rfl) (by omega) (fun r9 M2 h9 => ?_)
  obtain ⟨rfl, f2, z2, y2⟩ := h9
  have hm2 : M2 s 0 = (t : Int) := by rw [f2 s (by omega) (by omega) (by omega), hM1, mset_s]
  have hT2 : TX M2 t n k sz ce := hT.fr (by rw [f2 _ (by omega) (by omega) (by omega), hO1 _ (by omega)]) (by rw [f2 _ (by omega) (by omega) (by omega), hO1 _ (by omega)]) (by rw [f2 _ (by omega) (by omega) (by omega), hO1 _ (by omega)])
  show WP sc0 4 m_X5_start 9 [vR s, vR t, vU, vU, vU, vU, vU] [] M2 (fun z M' => z = none ∧ (∀ x, x < s ∨ s + 32 ≤ x → M' x = M x) ∧ M' s 0 = (t : Int) ∧ LB M' s k sz (lF 0) (llF 0) ∧ (∀ c, c < k → ∀ v, v < sz c → M' (s + 3) (c * 4 + v) = ((cn (fun y9 => ce y9 c = v) n : Nat) : Int)) ∧ KY M' s 0 n k sz (kRF n k sz ce (lF 0) (llF 0) (kR0 n k ce)) (kGL n sz ce (lF 0) (llF 0) (kRF n k sz ce (lF 0) (llF 0) (kR0 n k ce))) (kGC n sz ce (lF 0) (llF 0) (kRF n k sz ce (lF 0) (llF 0) (kR0 n k ce))))
  refine WP.aload_n dX5_start_9 rfl ?_
  refine WP.getR (y := (s + 4)) dX5_start_10 fl_X5_30 ((shS hs).1) (by decide) ((srS hs).2.2.2.1) ?_
  refine WP.iconst dX5_start_13 ?_
  refine WP.aaloadL (y := 0) (z := (s + 5 + 0)) dX5_start_14 ((shS hs).2.2.2.2.1) (by omega) (by omega) ((srSd hs).1) ?_
  refine WP.astore_n (lt := [vR s, vR t, vR (s + 5 + 0), vU, vU, vU, vU]) dX5_start_15 (by decide) rfl ?_
  refine WP.iconst dX5_start_16 ?_
  refine WP.istore_n (lt := [vR s, vR t, vR (s + 5 + 0), vI (0 : Int), vU, vU, vU]) dX5_start_17 (by decide) rfl ?_
  have L18 : ∀ (n9 : Nat) (r : Nat) (M3 : Mem) (hr : r ≤ n) (hF3 : ∀ x, x ≠ s + 5 + 0 → x ≠ s + 3 → M3 x = M2 x) (hK3 : ∀ j, j < r → Int64.ofInt (M3 (s + 5 + 0) j) = kr1 k ce j r) (hL3 : ∀ c, c < k → ∀ v, v < sz c → M3 (s + 3) (c * 4 + v) = ((cn (fun y9 => ce y9 c = v) r : Nat) : Int)), n - r < n9 → WP sc0 4 m_X5_start 18 [vR s, vR t, vR (s + 5 + 0), vI ((r : Nat) : Int), vU, vU, vU] [] M3 (fun z M' => z = none ∧ (∀ x, x < s ∨ s + 32 ≤ x → M' x = M x) ∧ M' s 0 = (t : Int) ∧ LB M' s k sz (lF 0) (llF 0) ∧ (∀ c, c < k → ∀ v, v < sz c → M' (s + 3) (c * 4 + v) = ((cn (fun y9 => ce y9 c = v) n : Nat) : Int)) ∧ KY M' s 0 n k sz (kRF n k sz ce (lF 0) (llF 0) (kR0 n k ce)) (kGL n sz ce (lF 0) (llF 0) (kRF n k sz ce (lF 0) (llF 0) (kR0 n k ce))) (kGC n sz ce (lF 0) (llF 0) (kRF n k sz ce (lF 0) (llF 0) (kR0 n k ce)))) := by
    intro n9
    induction n9 with
    | zero =>
      intro r M3 hr hF3 hK3 hL3 hm9
      exact absurd hm9 (Nat.not_lt_zero _)
    | succ n9 ih18 =>
      intro r M3 hr hF3 hK3 hL3 hm9
      have hm3 : M3 s 0 = (t : Int) := by rw [hF3 s (by omega) (by omega)]; exact hm2
      have hT3 : TX M3 t n k sz ce := hT2.fr (hF3 t (by omega) (by omega)) (hF3 (t + 1) (by omega) (by omega)) (hF3 (t + 2) (by omega) (by omega))
      refine WP.iload_n dX5_start_18 rfl ?_
      refine WP.aload_n dX5_start_19 rfl ?_
      refine WP.getM (y := t) dX5_start_20 fl_X5_12 ((shS hs).1) (by decide) (hm3) ?_
      refine WP.getI (x := ((n : Nat) : Int)) dX5_start_23 fl_X5_45 (shT0 ht) (by decide) (hT3.1) ?_
      refine WP.icmp_ge (tgt := 132) dX5_start_26 (by decide) (by omega) (by omega) (fun h26 => ?_) (fun h26 => ?_)
      · skip
        have hrn : r = n := by omega
        refine WP.iconst dX5_start_132 ?_
        refine WP.istore_n (lt := [vR s, vR t, vR (s + 5 + 0), vI (0 : Int), vU, vU, vU]) dX5_start_133 (by decide) rfl ?_
        have L134 : ∀ (n9 : Nat) (p : Nat) (M6 : Mem) (hp : p ≤ n) (hF6 : ∀ x, x ≠ s + 5 + 0 → x ≠ s + 3 → M6 x = M2 x) (hA6 : ∀ j, j < p → Int64.ofInt (M6 (s + 5 + 0) j) = kR0 n k ce j) (hB6 : ∀ j, p ≤ j → j < n → Int64.ofInt (M6 (s + 5 + 0) j) = kr1 k ce j n) (hL6 : ∀ c, c < k → ∀ v, v < sz c → M6 (s + 3) (c * 4 + v) = ((cn (fun y9 => ce y9 c = v) n : Nat) : Int)), n - p < n9 → WP sc0 4 m_X5_start 134 [vR s, vR t, vR (s + 5 + 0), vI ((p : Nat) : Int), vU, vU, vU] [] M6 (fun z M' => z = none ∧ (∀ x, x < s ∨ s + 32 ≤ x → M' x = M x) ∧ M' s 0 = (t : Int) ∧ LB M' s k sz (lF 0) (llF 0) ∧ (∀ c, c < k → ∀ v, v < sz c → M' (s + 3) (c * 4 + v) = ((cn (fun y9 => ce y9 c = v) n : Nat) : Int)) ∧ KY M' s 0 n k sz (kRF n k sz ce (lF 0) (llF 0) (kR0 n k ce)) (kGL n sz ce (lF 0) (llF 0) (kRF n k sz ce (lF 0) (llF 0) (kR0 n k ce))) (kGC n sz ce (lF 0) (llF 0) (kRF n k sz ce (lF 0) (llF 0) (kR0 n k ce)))) := by
          intro n9
          induction n9 with
          | zero =>
            intro p M6 hp hF6 hA6 hB6 hL6 hm9
            exact absurd hm9 (Nat.not_lt_zero _)
          | succ n9 ih134 =>
            intro p M6 hp hF6 hA6 hB6 hL6 hm9
            have hm6 : M6 s 0 = (t : Int) := by rw [hF6 s (by omega) (by omega)]; exact hm2
            have hT6 : TX M6 t n k sz ce := hT2.fr (hF6 t (by omega) (by omega)) (hF6 (t + 1) (by omega) (by omega)) (hF6 (t + 2) (by omega) (by omega))
            refine WP.iload_n dX5_start_134 rfl ?_
            refine WP.aload_n dX5_start_135 rfl ?_
            refine WP.getM (y := t) dX5_start_136 fl_X5_12 ((shS hs).1) (by decide) (hm6) ?_
            refine WP.getI (x := ((n : Nat) : Int)) dX5_start_139 fl_X5_45 (shT0 ht) (by decide) (hT6.1) ?_
            refine WP.icmp_ge (tgt := 160) dX5_start_142 (by decide) (by omega) (by omega) (fun h142 => ?_) (fun h142 => ?_)
            · skip
              have hL0 : LB M6 s k sz (lF 0) (llF 0) := fun c hc => ⟨⟨by rw [hF6 _ (by omega) (by omega), z2 c (by omega)]; rfl, Nat.zero_le _⟩, fun v hv => ⟨by have := h4 c hc; rw [hF6 _ (by omega) (by omega), (y2 (c * 4 + v) (by omega)).1]; rfl, Nat.zero_le _⟩⟩
              refine WP.aload_n dX5_start_160 rfl ?_
              refine WP.iconst dX5_start_161 ?_
              refine WP.callV (as := [vI (0 : Int)]) dX5_start_162 mv_X5_63 rfl ((shS hs).1) (by decide) rfl rfl (c_Z_refine (d := 0) (rk := kR0 n k ce) hs ht hT6 hW hn h4 hm6 hL0 (by decide) (fun r hr => hA6 r (by omega))) rfl (Nat.le_of_ble_eq_true rfl) (by omega) (fun r9 M7 h9 => ?_)
              obtain ⟨rfl, f7, k7⟩ := h9
              show WP sc0 4 m_X5_start 165 [vR s, vR t, vR (s + 5 + 0), vI ((p : Nat) : Int), vU, vU, vU] [] M7 (fun z M' => z = none ∧ (∀ x, x < s ∨ s + 32 ≤ x → M' x = M x) ∧ M' s 0 = (t : Int) ∧ LB M' s k sz (lF 0) (llF 0) ∧ (∀ c, c < k → ∀ v, v < sz c → M' (s + 3) (c * 4 + v) = ((cn (fun y9 => ce y9 c = v) n : Nat) : Int)) ∧ KY M' s 0 n k sz (kRF n k sz ce (lF 0) (llF 0) (kR0 n k ce)) (kGL n sz ce (lF 0) (llF 0) (kRF n k sz ce (lF 0) (llF 0) (kR0 n k ce))) (kGC n sz ce (lF 0) (llF 0) (kRF n k sz ce (lF 0) (llF 0) (kR0 n k ce))))
              refine WP.vret dX5_start_165 rfl ?_
              exact ⟨rfl, fun x hx => by rw [f7 x (by omega) (by omega) (by omega), hF6 x (by omega) (by omega), f2 x (by omega) (by omega) (by omega), hO1 x (by omega)], by rw [f7 s (by omega) (by omega) (by omega)]; exact hm6, hL0.fr (f7 _ (by omega) (by omega) (by omega)) (f7 _ (by omega) (by omega) (by omega)), fun c hc v hv => by rw [f7 _ (by omega) (by omega) (by omega)]; exact hL6 c hc v hv, k7⟩
            · skip
              refine WP.aload_n dX5_start_145 rfl ?_
              refine WP.iload_n dX5_start_146 rfl ?_
              refine WP.aload_n dX5_start_147 rfl ?_
              refine WP.iload_n dX5_start_148 rfl ?_
              refine WP.laload (y := p) (x := (kr1 k ce p n)) dX5_start_149 ((shSk hs (d := 0) (by omega)).1) (by omega) (by omega) (hB6 p (Nat.le_refl _) (by omega)) ?_
              refine WP.callSp (as := [vL (kr1 k ce p n)]) dX5_start_150 ms_X5_53 rfl (c_Z_mix) rfl (Nat.le_of_ble_eq_true rfl) (by omega) ?_
              refine WP.lastore (y := p) dX5_start_153 ((shSk hs (d := 0) (by omega)).1) (by omega) (by omega) rfl ?_
              obtain ⟨M60, hM60⟩ : ∃ z, z = (mset M6 ((s + 5 + 0)) p ((mixv (kr1 k ce p n))).toInt) := ⟨_, rfl⟩
              refine WP.eqM hM60.symm ?_
              have hO60 : ∀ x, x ≠ s + 5 + 0 → M60 x = M6 x := fun x hx => by rw [hM60]; exact mset_o x hx
              refine WP.iinc (lt := [vR s, vR t, vR (s + 5 + 0), vI (((p : Nat) : Int) + 1), vU, vU, vU]) dX5_start_154 rfl (by decide) rfl ?_
              refine WP.goto (tgt := 134) dX5_start_157 (by decide) ?_
              refine WP.fgt (lt := [vR s, vR t, vR (s + 5 + 0), vI (((p + 1) : Nat) : Int), vU, vU, vU]) ⟨Or.inr rfl, Or.inr rfl, Or.inr rfl, Or.inr (congrArg vI (by omega)), Or.inl rfl, Or.inl rfl, Or.inl rfl, trivial⟩ ?_
              exact ih134 (p + 1) (M60) (by omega) (fun x i1 i2 => (hO60 x i1).trans (hF6 x i1 i2)) (fun j hj => by
                rw [hM60]
                by_cases e9 : j = p
                · rw [e9, mset_s, lo_ti]; rfl
                · rw [mset_n (Or.inr e9)]; exact hA6 j (by omega)) (fun j i1 hj => by rw [hM60, mset_n (Or.inr (by omega))]; exact hB6 j (by omega) hj) (fun c hc v hv => by rw [hO60 _ (by omega)]; exact hL6 c hc v hv) (by omega)
        refine WP.fgt (lt := [vR s, vR t, vR (s + 5 + 0), vI ((0 : Nat) : Int), vU, vU, vU]) ⟨Or.inr rfl, Or.inr rfl, Or.inr rfl, Or.inr (congrArg vI (by omega)), Or.inl rfl, Or.inl rfl, Or.inl rfl, trivial⟩ ?_
        exact L134 _ (0) (M3) (Nat.zero_le _) (hF3) (fun j hj => absurd hj (Nat.not_lt_zero j)) (fun j _ hj => by rw [← hrn]; exact hK3 j (by omega)) (fun c hc v hv => by rw [← hrn]; exact hL3 c hc v hv) (Nat.lt_succ_self _)
      · skip
        refine WP.aload_n dX5_start_29 rfl ?_
        refine WP.iload_n dX5_start_30 rfl ?_
        refine WP.lconst (v := 0) dX5_start_31 (by decide) ?_
        refine WP.lastore (y := r) dX5_start_32 ((shSk hs (d := 0) (by omega)).1) (by omega) (by omega) rfl ?_
        obtain ⟨M30, hM30⟩ : ∃ z, z = (mset M3 ((s + 5 + 0)) r ((0 : Int64)).toInt) := ⟨_, rfl⟩
        refine WP.eqM hM30.symm ?_
        have hO30 : ∀ x, x ≠ s + 5 + 0 → M30 x = M3 x := fun x hx => by rw [hM30]; exact mset_o x hx
        refine WP.iconst dX5_start_33 ?_
        refine WP.istore (lt := [vR s, vR t, vR (s + 5 + 0), vI ((r : Nat) : Int), vI (0 : Int), vU, vU]) dX5_start_34 (by decide) rfl ?_
        have L36 : ∀ (n9 : Nat) (q : Nat) (M4 : Mem) (hq : q ≤ r) (hF4 : ∀ x, x ≠ s + 5 + 0 → x ≠ s + 3 → M4 x = M2 x) (hA4 : ∀ j, j < q → Int64.ofInt (M4 (s + 5 + 0) j) = kr1 k ce j (r + 1)) (hB4 : ∀ j, q ≤ j → j < r → Int64.ofInt (M4 (s + 5 + 0) j) = kr1 k ce j r) (hC4 : Int64.ofInt (M4 (s + 5 + 0) r) = kr1 k ce r q) (hL4 : ∀ c, c < k → ∀ v, v < sz c → M4 (s + 3) (c * 4 + v) = ((cn (fun y9 => ce y9 c = v) r : Nat) : Int)), r - q < n9 → WP sc0 4 m_X5_start 36 [vR s, vR t, vR (s + 5 + 0), vI ((r : Nat) : Int), vI ((q : Nat) : Int), vU, vU] [] M4 (fun z M' => z = none ∧ (∀ x, x < s ∨ s + 32 ≤ x → M' x = M x) ∧ M' s 0 = (t : Int) ∧ LB M' s k sz (lF 0) (llF 0) ∧ (∀ c, c < k → ∀ v, v < sz c → M' (s + 3) (c * 4 + v) = ((cn (fun y9 => ce y9 c = v) n : Nat) : Int)) ∧ KY M' s 0 n k sz (kRF n k sz ce (lF 0) (llF 0) (kR0 n k ce)) (kGL n sz ce (lF 0) (llF 0) (kRF n k sz ce (lF 0) (llF 0) (kR0 n k ce))) (kGC n sz ce (lF 0) (llF 0) (kRF n k sz ce (lF 0) (llF 0) (kR0 n k ce)))) := by
          intro n9
          induction n9 with
          | zero =>
            intro q M4 hq hF4 hA4 hB4 hC4 hL4 hm9
            exact absurd hm9 (Nat.not_lt_zero _)
          | succ n9 ih36 =>
            intro q M4 hq hF4 hA4 hB4 hC4 hL4 hm9
            have hm4 : M4 s 0 = (t : Int) := by rw [hF4 s (by omega) (by omega)]; exact hm2
            have hT4 : TX M4 t n k sz ce := hT2.fr (hF4 t (by omega) (by omega)) (hF4 (t + 1) (by omega) (by omega)) (hF4 (t + 2) (by omega) (by omega))
            refine WP.iload dX5_start_36 rfl ?_
            refine WP.iload_n dX5_start_38 rfl ?_
            refine WP.icmp_ge (tgt := 81) dX5_start_39 (by decide) (by omega) (by omega) (fun h39 => ?_) (fun h39 => ?_)
            · skip
              have hqr : q = r := by omega
              have hK4 : ∀ j, j < r + 1 → Int64.ofInt (M4 (s + 5 + 0) j) = kr1 k ce j (r + 1) := fun j hj => by
                by_cases e9 : j = r
                · rw [e9, kr1_e, hC4, hqr]
                · exact hA4 j (by omega)
              refine WP.iconst dX5_start_81 ?_
              refine WP.istore (lt := [vR s, vR t, vR (s + 5 + 0), vI ((r : Nat) : Int), vI (0 : Int), vU, vU]) dX5_start_82 (by decide) rfl ?_
              have L84 : ∀ (n9 : Nat) (c : Nat) (M5 : Mem) (hc : c ≤ k) (hF5 : ∀ x, x ≠ s + 5 + 0 → x ≠ s + 3 → M5 x = M2 x) (hK5 : ∀ j, j < r + 1 → Int64.ofInt (M5 (s + 5 + 0) j) = kr1 k ce j (r + 1)) (hL5 : ∀ b, b < c → ∀ v, v < sz b → M5 (s + 3) (b * 4 + v) = ((cn (fun y9 => ce y9 b = v) (r + 1) : Nat) : Int)) (hN5 : ∀ b, c ≤ b → b < k → ∀ v, v < sz b → M5 (s + 3) (b * 4 + v) = ((cn (fun y9 => ce y9 b = v) r : Nat) : Int)), k - c < n9 → WP sc0 4 m_X5_start 84 [vR s, vR t, vR (s + 5 + 0), vI ((r : Nat) : Int), vI ((c : Nat) : Int), vU, vU] [] M5 (fun z M' => z = none ∧ (∀ x, x < s ∨ s + 32 ≤ x → M' x = M x) ∧ M' s 0 = (t : Int) ∧ LB M' s k sz (lF 0) (llF 0) ∧ (∀ c, c < k → ∀ v, v < sz c → M' (s + 3) (c * 4 + v) = ((cn (fun y9 => ce y9 c = v) n : Nat) : Int)) ∧ KY M' s 0 n k sz (kRF n k sz ce (lF 0) (llF 0) (kR0 n k ce)) (kGL n sz ce (lF 0) (llF 0) (kRF n k sz ce (lF 0) (llF 0) (kR0 n k ce))) (kGC n sz ce (lF 0) (llF 0) (kRF n k sz ce (lF 0) (llF 0) (kR0 n k ce)))) := by
                intro n9
                induction n9 with
                | zero =>
                  intro c M5 hc hF5 hK5 hL5 hN5 hm9
                  exact absurd hm9 (Nat.not_lt_zero _)
                | succ n9 ih84 =>
                  intro c M5 hc hF5 hK5 hL5 hN5 hm9
                  have hm5 : M5 s 0 = (t : Int) := by rw [hF5 s (by omega) (by omega)]; exact hm2
                  have hT5 : TX M5 t n k sz ce := hT2.fr (hF5 t (by omega) (by omega)) (hF5 (t + 1) (by omega) (by omega)) (hF5 (t + 2) (by omega) (by omega))
                  refine WP.iload dX5_start_84 rfl ?_
                  refine WP.aload_n dX5_start_86 rfl ?_
                  refine WP.getM (y := t) dX5_start_87 fl_X5_12 ((shS hs).1) (by decide) (hm5) ?_
                  refine WP.getI (x := ((k : Nat) : Int)) dX5_start_90 fl_X5_57 (shT0 ht) (by decide) (hT5.2.1) ?_
                  refine WP.icmp_ge (tgt := 126) dX5_start_93 (by decide) (by omega) (by omega) (fun h93 => ?_) (fun h93 => ?_)
                  · skip
                    refine WP.iinc (lt := [vR s, vR t, vR (s + 5 + 0), vI (((r : Nat) : Int) + 1), vI ((c : Nat) : Int), vU, vU]) dX5_start_126 rfl (by decide) rfl ?_
                    refine WP.goto (tgt := 18) dX5_start_129 (by decide) ?_
                    refine WP.fgt (lt := [vR s, vR t, vR (s + 5 + 0), vI (((r + 1) : Nat) : Int), vU, vU, vU]) ⟨Or.inr rfl, Or.inr rfl, Or.inr rfl, Or.inr (congrArg vI (by omega)), Or.inl rfl, Or.inl rfl, Or.inl rfl, trivial⟩ ?_
                    exact ih18 (r + 1) (M5) (by omega) (hF5) (fun j hj => hK5 j (by omega)) (fun b hb v hv => hL5 b (by omega) v hv) (by omega)
                  · skip
                    have w6 := hW.2.2.2 r (by omega) c (by omega)
                    have w4 := h4 c (by omega)
                    have w7 := cn_le (fun y9 => ce y9 c = ce r c) r
                    refine WP.aload_n dX5_start_96 rfl ?_
                    refine WP.getR (y := (s + 3)) dX5_start_97 fl_X5_25 ((shS hs).1) (by decide) ((srS hs).2.2.1) ?_
                    refine WP.iload dX5_start_100 rfl ?_
                    refine WP.iconst dX5_start_102 ?_
                    refine WP.imul dX5_start_103 ?_
                    refine WP.aload_n dX5_start_104 rfl ?_
                    refine WP.getM (y := t) dX5_start_105 fl_X5_12 ((shS hs).1) (by decide) (hm5) ?_
                    refine WP.iload_n dX5_start_108 rfl ?_
                    refine WP.iload dX5_start_109 rfl ?_
                    refine WP.callVp (as := [vI ((r : Nat) : Int), vI ((c : Nat) : Int)]) dX5_start_111 mv_X5_60 rfl (shT0 ht) (by decide) rfl rfl (c_T_at (r := r) (c := c) ht (by omega) (by omega) (hT5.2.2.2 r (by omega) c (by omega))) rfl (Nat.le_of_ble_eq_true rfl) (by omega) ?_
                    refine WP.iadd dX5_start_114 ?_
                    refine WP.dup2 dX5_start_115 rfl rfl ?_
                    refine WP.iaload (y := (c * 4 + ce r c)) (x := ((cn (fun y9 => ce y9 c = ce r c) r : Nat) : Int)) dX5_start_116 ((shS hs).2.2.2.1) (by omega) (by omega) (hN5 c (Nat.le_refl _) (by omega) _ w6) ?_
                    refine WP.iconst dX5_start_117 ?_
                    refine WP.iadd dX5_start_118 ?_
                    refine WP.iastore (y := (c * 4 + ce r c)) dX5_start_119 ((shS hs).2.2.2.1) (by omega) (by omega) rfl ?_
                    obtain ⟨M50, hM50⟩ : ∃ z, z = (mset M5 ((s + 3)) ((c * 4 + ce r c)) (((cn (fun y9 => ce y9 c = ce r c) r : Nat) : Int) + (1 : Int))) := ⟨_, rfl⟩
                    refine WP.eqM hM50.symm ?_
                    have hO50 : ∀ x, x ≠ s + 3 → M50 x = M5 x := fun x hx => by rw [hM50]; exact mset_o x hx
                    refine WP.iinc (lt := [vR s, vR t, vR (s + 5 + 0), vI ((r : Nat) : Int), vI (((c : Nat) : Int) + 1), vU, vU]) dX5_start_120 rfl (by decide) rfl ?_
                    refine WP.goto (tgt := 84) dX5_start_123 (by decide) ?_
                    refine WP.fgt (lt := [vR s, vR t, vR (s + 5 + 0), vI ((r : Nat) : Int), vI (((c + 1) : Nat) : Int), vU, vU]) ⟨Or.inr rfl, Or.inr rfl, Or.inr rfl, Or.inr rfl, Or.inr (congrArg vI (by omega)), Or.inl rfl, Or.inl rfl, trivial⟩ ?_
                    exact ih84 (c + 1) (M50) (by omega) (fun x i1 i2 => (hO50 x i2).trans (hF5 x i1 i2)) (fun j hj => by rw [hO50 _ (by omega)]; exact hK5 j hj) (fun b hb v hv => by
                      have w9 := h4 b (by omega)
                      rw [hM50]
                      by_cases e9 : b = c
                      · subst e9
                        by_cases e8 : ce r b = v
                        · rw [← e8, mset_s, cn_t (p := fun y9 => ce y9 b = ce r b) rfl]; omega
                        · rw [mset_n (Or.inr (by omega)), cn_f (p := fun y9 => ce y9 b = v) e8]; exact hN5 b (Nat.le_refl _) (by omega) v hv
                      · rw [mset_n (Or.inr (by omega))]; exact hL5 b (by omega) v hv) (fun b i1 hb v hv => by
                      have w9 := h4 b (by omega)
                      rw [hM50, mset_n (Or.inr (by omega))]
                      exact hN5 b (by omega) hb v hv) (by omega)
              refine WP.fgt (lt := [vR s, vR t, vR (s + 5 + 0), vI ((r : Nat) : Int), vI ((0 : Nat) : Int), vU, vU]) ⟨Or.inr rfl, Or.inr rfl, Or.inr rfl, Or.inr rfl, Or.inr (congrArg vI (by omega)), Or.inl rfl, Or.inl rfl, trivial⟩ ?_
              exact L84 _ (0) (M4) (Nat.zero_le _) (hF4) (hK4) (fun b hb => absurd hb (Nat.not_lt_zero b)) (fun b _ hb v hv => hL4 b hb v hv) (Nat.lt_succ_self _)
            · skip
              refine WP.aload_n dX5_start_42 rfl ?_
              refine WP.getM (y := t) dX5_start_43 fl_X5_12 ((shS hs).1) (by decide) (hm4) ?_
              refine WP.iload_n dX5_start_46 rfl ?_
              refine WP.iload dX5_start_47 rfl ?_
              refine WP.callVp (as := [vI ((r : Nat) : Int), vI ((q : Nat) : Int)]) dX5_start_49 mv_X5_49 rfl (shT0 ht) (by decide) rfl rfl (c_T_agreements (r := r) (q := q) ht hT4 hW (by omega) (by omega)) rfl (Nat.le_of_ble_eq_true rfl) (by omega) ?_
              have w1 := agr_le ce r q k
              refine WP.i2l (z := (Int64.ofNat (agr ce r q k))) dX5_start_52 (oi_l (by omega)) ?_
              refine WP.callSp (as := [vL (Int64.ofNat (agr ce r q k))]) dX5_start_53 ms_X5_53 rfl (c_Z_mix) rfl (Nat.le_of_ble_eq_true rfl) (by omega) ?_
              refine WP.lstore (lt := [vR s, vR t, vR (s + 5 + 0), vI ((r : Nat) : Int), vI ((q : Nat) : Int), vL (mixv (Int64.ofNat (agr ce r q k))), vU]) dX5_start_56 (by decide) rfl ?_
              refine WP.aload_n dX5_start_58 rfl ?_
              refine WP.iload_n dX5_start_59 rfl ?_
              refine WP.dup2 dX5_start_60 rfl rfl ?_
              refine WP.laload (y := r) (x := (kr1 k ce r q)) dX5_start_61 ((shSk hs (d := 0) (by omega)).1) (by omega) (by omega) (hC4) ?_
              refine WP.lload dX5_start_62 rfl ?_
              refine WP.ladd dX5_start_64 ?_
              refine WP.lastore (y := r) dX5_start_65 ((shSk hs (d := 0) (by omega)).1) (by omega) (by omega) rfl ?_
              obtain ⟨M41, hM41⟩ : ∃ z, z = (mset M4 ((s + 5 + 0)) r (((kr1 k ce r q) + (mixv (Int64.ofNat (agr ce r q k))))).toInt) := ⟨_, rfl⟩
              refine WP.eqM hM41.symm ?_
              have hO41 : ∀ x, x ≠ s + 5 + 0 → M41 x = M4 x := fun x hx => by rw [hM41]; exact mset_o x hx
              refine WP.aload_n dX5_start_66 rfl ?_
              refine WP.iload dX5_start_67 rfl ?_
              refine WP.dup2 dX5_start_69 rfl rfl ?_
              refine WP.laload (y := q) (x := (kr1 k ce q r)) dX5_start_70 ((shSk hs (d := 0) (by omega)).1) (by omega) (by omega) (by rw [hM41, mset_n (Or.inr (by omega))]; exact hB4 q (Nat.le_refl _) (by omega)) ?_
              refine WP.lload dX5_start_71 rfl ?_
              refine WP.ladd dX5_start_73 ?_
              refine WP.lastore (y := q) dX5_start_74 ((shSk hs (d := 0) (by omega)).1) (by omega) (by omega) rfl ?_
              obtain ⟨M42, hM42⟩ : ∃ z, z = (mset M41 ((s + 5 + 0)) q (((kr1 k ce q r) + (mixv (Int64.ofNat (agr ce r q k))))).toInt) := ⟨_, rfl⟩
              refine WP.eqM hM42.symm ?_
              have hO42 : ∀ x, x ≠ s + 5 + 0 → M42 x = M41 x := fun x hx => by rw [hM42]; exact mset_o x hx
              refine WP.iinc (lt := [vR s, vR t, vR (s + 5 + 0), vI ((r : Nat) : Int), vI (((q : Nat) : Int) + 1), vL (mixv (Int64.ofNat (agr ce r q k))), vU]) dX5_start_75 rfl (by decide) rfl ?_
              refine WP.goto (tgt := 36) dX5_start_78 (by decide) ?_
              refine WP.fgt (lt := [vR s, vR t, vR (s + 5 + 0), vI ((r : Nat) : Int), vI (((q + 1) : Nat) : Int), vU, vU]) ⟨Or.inr rfl, Or.inr rfl, Or.inr rfl, Or.inr rfl, Or.inr (congrArg vI (by omega)), Or.inl rfl, Or.inl rfl, trivial⟩ ?_
              exact ih36 (q + 1) (M42) (by omega) (fun x i1 i2 => ((hO42 x i1).trans (hO41 x i1)).trans (hF4 x i1 i2)) (fun j hj => by
                rw [hM42]
                by_cases e9 : j = q
                · rw [e9, mset_s, lo_ti, kr1_s (by omega), agr_cm]
                · rw [mset_n (Or.inr e9), hM41, mset_n (Or.inr (by omega))]; exact hA4 j (by omega)) (fun j i1 hj => by rw [hM42, mset_n (Or.inr (by omega)), hM41, mset_n (Or.inr (by omega))]; exact hB4 j (by omega) hj) (by rw [hM42, mset_n (Or.inr (by omega)), hM41, mset_s, lo_ti, kr1_s (by omega)]) (fun c hc v hv => by rw [hO42 _ (by omega), hO41 _ (by omega)]; exact hL4 c hc v hv) (by omega)
        refine WP.fgt (lt := [vR s, vR t, vR (s + 5 + 0), vI ((r : Nat) : Int), vI ((0 : Nat) : Int), vU, vU]) ⟨Or.inr rfl, Or.inr rfl, Or.inr rfl, Or.inr rfl, Or.inr (congrArg vI (by omega)), Or.inl rfl, Or.inl rfl, trivial⟩ ?_
        exact L36 _ (0) (M30) (Nat.zero_le _) (fun x i1 i2 => (hO30 x i1).trans (hF3 x i1 i2)) (fun j hj => absurd hj (Nat.not_lt_zero j)) (fun j _ hj => by rw [hM30, mset_n (Or.inr (by omega))]; exact hK3 j hj) (by rw [hM30, mset_s]; rfl) (fun c hc v hv => by rw [hO30 _ (by omega)]; exact hL3 c hc v hv) (Nat.lt_succ_self _)
  refine WP.fgt (lt := [vR s, vR t, vR (s + 5 + 0), vI ((0 : Nat) : Int), vU, vU, vU]) ⟨Or.inr rfl, Or.inr rfl, Or.inr rfl, Or.inr (congrArg vI (by omega)), Or.inl rfl, Or.inl rfl, Or.inl rfl, trivial⟩ ?_
  exact L18 _ (0) (M2) (Nat.zero_le _) (fun _ _ _ => rfl) (fun j hj => absurd hj (Nat.not_lt_zero j)) (fun c hc v hv => by have := h4 c hc; rw [(y2 (c * 4 + v) (by omega)).2]; rfl) (Nat.lt_succ_self _)
