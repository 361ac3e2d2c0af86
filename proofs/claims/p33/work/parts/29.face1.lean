theorem Wf_rm {n k c : Nat} {sz : Nat → Nat} {ce : Nat → Nat → Nat} (h : Wf n k sz ce) (hc : c < k) : Wf n (k - 1) (rmS sz c) (rmC ce c) := by
  refine ⟨h.1, by have := h.2.1; omega, fun b hb => ?_, fun r hr b hb => ?_⟩
  · unfold rmS
    split
    · exact h.2.2.1 b (by omega)
    · exact h.2.2.1 (b + 1) (by omega)
  · unfold rmS rmC
    split
    · exact h.2.2.2 r hr b (by omega)
    · exact h.2.2.2 r hr (b + 1) (by omega)
theorem Wf_ap {n k s : Nat} {f : Nat → Nat} {sz : Nat → Nat} {ce : Nat → Nat → Nat} (h : Wf n k sz ce) (hk : k < 7) (hs : 2 ≤ s ∧ s ≤ 6) (hf : ∀ r, r < n → f r < s) : Wf n (k + 1) (apS sz k s) (apC ce k f) := by
  refine ⟨h.1, by omega, fun b hb => ?_, fun r hr b hb => ?_⟩
  · unfold apS
    split
    · exact hs
    · exact h.2.2.1 b (by omega)
  · unfold apS apC
    split
    · exact hf r hr
    · exact h.2.2.2 r hr b (by omega)
theorem Wf_put {n k r c v : Nat} {sz : Nat → Nat} {ce : Nat → Nat → Nat} (h : Wf n k sz ce) (hv : v < sz c) : Wf n k sz (fun q b => if q = r ∧ b = c then v else ce q b) := by
  refine ⟨h.1, h.2.1, h.2.2.1, fun q hq b hb => ?_⟩
  dsimp only
  split
  · next e => rw [e.2]; exact hv
  · exact h.2.2.2 q hq b hb
theorem Wf_dr {n k r : Nat} {sz : Nat → Nat} {ce : Nat → Nat → Nat} (h : Wf n k sz ce) (hr : r < n) : Wf (n - 1) k sz (fun p c => if p < r then ce p c else ce (p + 1) c) := by
  refine ⟨by have := h.1; omega, h.2.1, h.2.2.1, fun q hq b hb => ?_⟩
  dsimp only
  split
  · exact h.2.2.2 q (by omega) b hb
  · exact h.2.2.2 (q + 1) (by omega) b hb
theorem Wf_cps {n k : Nat} {sz : Nat → Nat} {ce : Nat → Nat → Nat} (h : Wf n k sz ce) : Wf (nk ce k n) k sz (fun p c => ce (kr ce k n p) c) :=
  ⟨Nat.le_trans (nk_le ce k n) h.1, h.2.1, h.2.2.1, fun q hq b hb => h.2.2.2 _ (kr_lt ce k n q hq) b hb⟩
theorem Wf_rp {n k n2 k2 c : Nat} {sz sz2 : Nat → Nat} {ce ce2 : Nat → Nat → Nat} (h : Wf n k sz ce) (h2 : Wf n2 k2 sz2 ce2) (hc : c < k) (hn : n2 = sz c) (hk : k - 1 + k2 ≤ 7) : Wf n (k - 1 + k2) (rpS sz sz2 c k2) (rpC ce ce2 c k2) := by
  refine ⟨h.1, hk, fun b hb => ?_, fun r hr b hb => ?_⟩
  · unfold rpS
    split
    · exact h.2.2.1 b (by omega)
    · split
      · exact h2.2.2.1 _ (by omega)
      · exact h.2.2.1 _ (by omega)
  · unfold rpS rpC
    split
    · exact h.2.2.2 r hr b (by omega)
    · split
      · exact h2.2.2.2 _ (by rw [hn]; exact h.2.2.2 r hr c hc) _ (by omega)
      · exact h.2.2.2 r hr _ (by omega)
theorem Wf_dv {n k m : Nat} {sz : Nat → Nat} {ce : Nat → Nat → Nat} (h : Wf n k sz ce) (hk : 0 < k) (hn : n * sz 0 ≤ 36) (hm : m = dvm n) (hk7 : k + m ≤ 7) : Wf (n * sz 0) (k + m) (dvS sz k n) (dvC ce k (sz 0)) := by
  have hz := h.2.2.1 0 hk
  refine ⟨hn, hk7, fun b hb => ?_, fun r hr b hb => ?_⟩
  · unfold dvS
    split
    · exact hz
    · unfold dvm at hm
      split at hm
      · next e => exact e
      · omega
  · unfold dvS dvC
    split
    · exact Nat.mod_lt _ (by omega)
    · exact Nat.div_lt_of_lt_mul (by rw [Nat.mul_comm]; exact hr)
set_option maxHeartbeats 4000000 in
set_option maxRecDepth 20000 in
theorem x_begin {M : Mem} {n k h len : Nat} {sz tx : Nat → Nat} {ce : Nat → Nat → Nat} {hs : Nat → AR} {im : Nat → Option AR} (hV : InvX M (mkS n k sz ce h hs im len tx)) {x : Int} (hx : -2147483648 ≤ x ∧ x < 2147483648) : CT 40 m_X7_begin [vR 42, vI x] M (PX M (o_begin (mkS n k sz ce h hs im len tx) x)) := by
  have hT : TX M 0 n k sz ce := hV.1.1
  have hW : Wf n k sz ce := hV.1.2
  have hH : HX M h hs := hV.2.1
  have hIM : IMx M im := hV.2.2.1
  have hS : SX M len tx := hV.2.2.2.1
  have b1 := hW.1
  have b2 := hW.2.1
  have t0 : isT 0 := ⟨rfl, by decide⟩
  have hh8 := hH.1
  have hl3 := hS.1
  refine CT.ofWP (by decide +kernel) (Nat.le_of_ble_eq_true rfl) ?_
  show WP sc0 40 m_X7_begin 0 [vR 42, vI x, vU] [] M (PX M (o_begin (mkS n k sz ce h hs im len tx) x))
  refine WP.iload_n dX7_begin_0 rfl ?_
  refine WP.if_lt (tgt := 10) dX7_begin_1 (by decide) (by omega) (fun h1 => ?_) (fun h1 => ?_)
  · skip
    refine WP.iconst dX7_begin_10 ?_
    refine WP.iret dX7_begin_11 rfl ?_
    exact PX.same (if_neg (by omega)) hV
  · skip
    refine WP.iload_n dX7_begin_4 rfl ?_
    refine WP.bipush dX7_begin_5 (by decide) ?_
    refine WP.icmp_le (tgt := 12) dX7_begin_7 (by decide) (by omega) (by omega) (fun h7 => ?_) (fun h7 => ?_)
    · skip
      obtain ⟨c, hc0⟩ : ∃ c : Nat, x.toNat = c := ⟨_, rfl⟩
      have hc1 : x = ((c : Nat) : Int) := by omega
      refine WP.fgt (lt := [vR 42, vI ((c : Nat) : Int), vU]) ⟨Or.inr rfl, Or.inr (congrArg vI (hc1.symm)), Or.inl rfl, trivial⟩ ?_
      refine WP.aload_n dX7_begin_12 rfl ?_
      refine WP.getR (y := 0) dX7_begin_13 fl_X7_10 (rfl) (by decide) (rfl) ?_
      refine WP.getI (x := ((n : Nat) : Int)) dX7_begin_16 fl_X7_73 (rfl) (by decide) (hT.1) ?_
      refine WP.istore_n (lt := [vR 42, vI ((c : Nat) : Int), vI ((n : Nat) : Int)]) dX7_begin_19 (by decide) rfl ?_
      refine WP.aload_n dX7_begin_20 rfl ?_
      refine WP.callV (as := []) dX7_begin_21 mv_X7_76 rfl (rfl) (by decide) rfl rfl (c_X_record (A := (n, k, sz, ce)) hH hV.1) rfl (Nat.le_of_ble_eq_true rfl) (by omega) (fun r9 M1 h9 => ?_)
      obtain ⟨y8, rfl, hy, hR1, hA1⟩ := h9
      have hT1 : TX M1 0 n k sz ce := hT.fr (hR1.1 0 (by decide) (by decide) (by decide)) (hR1.1 1 (by decide) (by decide) (by decide)) (hR1.1 2 (by decide) (by decide) (by decide))
      have hA2 : TX M1 y8 n k sz ce := hA1.1
      have hyT : isT y8 := by
        obtain ⟨i, hi, e⟩ := hy
        rw [e]
        exact isT_st i hi
      have hy9 : 9 ≤ y8 ∧ y8 < 33 := by
        obtain ⟨i, hi, e⟩ := hy
        omega
      show WP sc0 40 m_X7_begin 24 [vR 42, vI ((c : Nat) : Int), vI ((n : Nat) : Int)] [vR y8] M1 (PX M (o_begin (mkS n k sz ce h hs im len tx) x))
      refine WP.pop dX7_begin_24 rfl ?_
      refine WP.aload_n dX7_begin_25 rfl ?_
      refine WP.getR (y := 0) dX7_begin_26 fl_X7_10 (rfl) (by decide) (rfl) ?_
      refine WP.iload_n dX7_begin_29 rfl ?_
      refine WP.callV (as := [vI ((c : Nat) : Int)]) dX7_begin_30 mv_X7_80 rfl (rfl) (by decide) rfl rfl (c_T_reset t0) rfl (Nat.le_of_ble_eq_true rfl) (by omega) (fun r9 M2 h9 => ?_)
      obtain ⟨rfl, f1, f2, f3⟩ := h9
      show WP sc0 40 m_X7_begin 33 [vR 42, vI ((c : Nat) : Int), vI ((n : Nat) : Int)] [] M2 (PX M (o_begin (mkS n k sz ce h hs im len tx) x))
      refine WP.iload_n dX7_begin_33 rfl ?_
      refine WP.iret dX7_begin_34 rfl ?_
      exact PX.ch (A' := (c, 0, sz, ce)) (by subst hc0; exact if_pos (by omega)) hV hR1 (fun a ha => f1 a (by omega)) (⟨⟨f2, f3, fun b hb => absurd hb (Nat.not_lt_zero b), fun r _ b hb => absurd hb (Nat.not_lt_zero b)⟩, (show c ≤ 36 by omega), Nat.zero_le _, fun b hb => absurd hb (Nat.not_lt_zero b), fun r _ b hb => absurd hb (Nat.not_lt_zero b)⟩)
    · skip
      refine WP.iconst dX7_begin_10 ?_
      refine WP.iret dX7_begin_11 rfl ?_
      exact PX.same (if_neg (by omega)) hV
set_option maxHeartbeats 4000000 in
set_option maxRecDepth 20000 in
theorem x_addColumn {M : Mem} {n k h len : Nat} {sz tx : Nat → Nat} {ce : Nat → Nat → Nat} {hs : Nat → AR} {im : Nat → Option AR} (hV : InvX M (mkS n k sz ce h hs im len tx)) {x : Int} (hx : -2147483648 ≤ x ∧ x < 2147483648) : CT 40 m_X7_addColumn [vR 42, vI x] M (PX M (o_addColumn (mkS n k sz ce h hs im len tx) x)) := by
  have hT : TX M 0 n k sz ce := hV.1.1
  have hW : Wf n k sz ce := hV.1.2
  have hH : HX M h hs := hV.2.1
  have hIM : IMx M im := hV.2.2.1
  have hS : SX M len tx := hV.2.2.2.1
  have b1 := hW.1
  have b2 := hW.2.1
  have t0 : isT 0 := ⟨rfl, by decide⟩
  have hh8 := hH.1
  have hl3 := hS.1
  refine CT.ofWP (by decide +kernel) (Nat.le_of_ble_eq_true rfl) ?_
  show WP sc0 40 m_X7_addColumn 0 [vR 42, vI x] [] M (PX M (o_addColumn (mkS n k sz ce h hs im len tx) x))
  refine WP.iload_n dX7_addColumn_0 rfl ?_
  refine WP.callSp (as := [vI x]) dX7_addColumn_1 ms_X7_84 rfl (c_X_isLevelCount (by omega)) rfl (Nat.le_of_ble_eq_true rfl) (by omega) ?_
  refine WP.if_ne (tgt := 9) dX7_addColumn_4 (by decide) (bi_rng) (fun h4 => ?_) (fun h4 => ?_)
  · skip
    have q4 := bi_1 h4
    obtain ⟨c, hc0⟩ : ∃ c : Nat, x.toNat = c := ⟨_, rfl⟩
    have hc1 : x = ((c : Nat) : Int) := by omega
    refine WP.fgt (lt := [vR 42, vI ((c : Nat) : Int)]) ⟨Or.inr rfl, Or.inr (congrArg vI (hc1.symm)), trivial⟩ ?_
    refine WP.aload_n dX7_addColumn_9 rfl ?_
    refine WP.getR (y := 0) dX7_addColumn_10 fl_X7_10 (rfl) (by decide) (rfl) ?_
    refine WP.getI (x := ((k : Nat) : Int)) dX7_addColumn_13 fl_X7_88 (rfl) (by decide) (hT.2.1) ?_
    refine WP.bipush dX7_addColumn_16 (by decide) ?_
    refine WP.icmp_lt (tgt := 24) dX7_addColumn_18 (by decide) (by omega) (by omega) (fun h18 => ?_) (fun h18 => ?_)
    · skip
      refine WP.aload_n dX7_addColumn_24 rfl ?_
      refine WP.callV (as := []) dX7_addColumn_25 mv_X7_76 rfl (rfl) (by decide) rfl rfl (c_X_record (A := (n, k, sz, ce)) hH hV.1) rfl (Nat.le_of_ble_eq_true rfl) (by omega) (fun r9 M1 h9 => ?_)
      obtain ⟨y8, rfl, hy, hR1, hA1⟩ := h9
      have hT1 : TX M1 0 n k sz ce := hT.fr (hR1.1 0 (by decide) (by decide) (by decide)) (hR1.1 1 (by decide) (by decide) (by decide)) (hR1.1 2 (by decide) (by decide) (by decide))
      have hA2 : TX M1 y8 n k sz ce := hA1.1
      have hyT : isT y8 := by
        obtain ⟨i, hi, e⟩ := hy
        rw [e]
        exact isT_st i hi
      have hy9 : 9 ≤ y8 ∧ y8 < 33 := by
        obtain ⟨i, hi, e⟩ := hy
        omega
      show WP sc0 40 m_X7_addColumn 28 [vR 42, vI ((c : Nat) : Int)] [vR y8] M1 (PX M (o_addColumn (mkS n k sz ce h hs im len tx) x))
      refine WP.pop dX7_addColumn_28 rfl ?_
      refine WP.aload_n dX7_addColumn_29 rfl ?_
      refine WP.getR (y := 0) dX7_addColumn_30 fl_X7_10 (rfl) (by decide) (rfl) ?_
      refine WP.iload_n dX7_addColumn_33 rfl ?_
      refine WP.callV (as := [vI ((c : Nat) : Int)]) dX7_addColumn_34 mv_X7_91 rfl (rfl) (by decide) rfl rfl (c_T_append (s := c) t0 hT1 b1 (by omega)) rfl (Nat.le_of_ble_eq_true rfl) (by omega) (fun r9 M2 h9 => ?_)
      obtain ⟨rfl, e1, e2⟩ := h9
      show WP sc0 40 m_X7_addColumn 37 [vR 42, vI ((c : Nat) : Int)] [vI ((k : Nat) : Int)] M2 (PX M (o_addColumn (mkS n k sz ce h hs im len tx) x))
      refine WP.iret dX7_addColumn_37 rfl ?_
      exact PX.ch (A' := (n, k + 1, apS sz k c, apC ce k (fun _ => 0))) (by subst hc0; exact (if_pos q4).trans (if_neg (show ¬ k = 7 by omega))) hV hR1 (fun a ha => e1 a (by omega) (by omega) (by omega)) (⟨e2, Wf_ap hW (by omega) (by omega) (fun _ _ => by omega)⟩)
    · skip
      refine WP.bipush dX7_addColumn_21 (by decide) ?_
      refine WP.iret dX7_addColumn_23 rfl ?_
      exact PX.same ((if_pos q4).trans (if_pos (show k = 7 by omega))) hV
  · skip
    have q4 := bi_0 h4
    refine WP.iconst dX7_addColumn_7 ?_
    refine WP.iret dX7_addColumn_8 rfl ?_
    exact PX.same (if_neg q4) hV
set_option maxHeartbeats 4000000 in
set_option maxRecDepth 20000 in
theorem x_dropColumn {M : Mem} {n k h len : Nat} {sz tx : Nat → Nat} {ce : Nat → Nat → Nat} {hs : Nat → AR} {im : Nat → Option AR} (hV : InvX M (mkS n k sz ce h hs im len tx)) {x : Int} (hx : -2147483648 ≤ x ∧ x < 2147483648) : CT 40 m_X7_dropColumn [vR 42, vI x] M (PX M (o_dropColumn (mkS n k sz ce h hs im len tx) x)) := by
  have hT : TX M 0 n k sz ce := hV.1.1
  have hW : Wf n k sz ce := hV.1.2
  have hH : HX M h hs := hV.2.1
  have hIM : IMx M im := hV.2.2.1
  have hS : SX M len tx := hV.2.2.2.1
  have b1 := hW.1
  have b2 := hW.2.1
  have t0 : isT 0 := ⟨rfl, by decide⟩
  have hh8 := hH.1
  have hl3 := hS.1
  refine CT.ofWP (by decide +kernel) (Nat.le_of_ble_eq_true rfl) ?_
  show WP sc0 40 m_X7_dropColumn 0 [vR 42, vI x] [] M (PX M (o_dropColumn (mkS n k sz ce h hs im len tx) x))
  refine WP.aload_n dX7_dropColumn_0 rfl ?_
  refine WP.getR (y := 0) dX7_dropColumn_1 fl_X7_10 (rfl) (by decide) (rfl) ?_
  refine WP.iload_n dX7_dropColumn_4 rfl ?_
  refine WP.callVp (as := [vI x]) dX7_dropColumn_5 mv_X7_95 rfl (rfl) (by decide) rfl rfl (c_T_hasColumn t0 hT.2.1 (by omega) (by omega)) rfl (Nat.le_of_ble_eq_true rfl) (by omega) ?_
  refine WP.if_ne (tgt := 13) dX7_dropColumn_8 (by decide) (bi_rng) (fun h8 => ?_) (fun h8 => ?_)
  · skip
    have q8 := bi_1 h8
    obtain ⟨c, hc0⟩ : ∃ c : Nat, x.toNat = c := ⟨_, rfl⟩
    have hc1 : x = ((c : Nat) : Int) := by omega
    refine WP.fgt (lt := [vR 42, vI ((c : Nat) : Int)]) ⟨Or.inr rfl, Or.inr (congrArg vI (hc1.symm)), trivial⟩ ?_
    refine WP.aload_n dX7_dropColumn_13 rfl ?_
    refine WP.callV (as := []) dX7_dropColumn_14 mv_X7_76 rfl (rfl) (by decide) rfl rfl (c_X_record (A := (n, k, sz, ce)) hH hV.1) rfl (Nat.le_of_ble_eq_true rfl) (by omega) (fun r9 M1 h9 => ?_)
    obtain ⟨y8, rfl, hy, hR1, hA1⟩ := h9
    have hT1 : TX M1 0 n k sz ce := hT.fr (hR1.1 0 (by decide) (by decide) (by decide)) (hR1.1 1 (by decide) (by decide) (by decide)) (hR1.1 2 (by decide) (by decide) (by decide))
    have hA2 : TX M1 y8 n k sz ce := hA1.1
    have hyT : isT y8 := by
      obtain ⟨i, hi, e⟩ := hy
      rw [e]
      exact isT_st i hi
    have hy9 : 9 ≤ y8 ∧ y8 < 33 := by
      obtain ⟨i, hi, e⟩ := hy
      omega
    show WP sc0 40 m_X7_dropColumn 17 [vR 42, vI ((c : Nat) : Int)] [vR y8] M1 (PX M (o_dropColumn (mkS n k sz ce h hs im len tx) x))
    refine WP.pop dX7_dropColumn_17 rfl ?_
    refine WP.aload_n dX7_dropColumn_18 rfl ?_
    refine WP.getR (y := 0) dX7_dropColumn_19 fl_X7_10 (rfl) (by decide) (rfl) ?_
    refine WP.iload_n dX7_dropColumn_22 rfl ?_
    refine WP.callV (as := [vI ((c : Nat) : Int)]) dX7_dropColumn_23 mv_X7_98 rfl (rfl) (by decide) rfl rfl (c_T_removeColumn t0 hT1 hW (c := c) (by omega)) rfl (Nat.le_of_ble_eq_true rfl) (by omega) (fun r9 M2 h9 => ?_)
    obtain ⟨rfl, e1, e2⟩ := h9
    show WP sc0 40 m_X7_dropColumn 26 [vR 42, vI ((c : Nat) : Int)] [] M2 (PX M (o_dropColumn (mkS n k sz ce h hs im len tx) x))
    refine WP.aload_n dX7_dropColumn_26 rfl ?_
    refine WP.getR (y := 0) dX7_dropColumn_27 fl_X7_10 (rfl) (by decide) (rfl) ?_
    refine WP.getI (x := ((k - 1 : Nat) : Int)) dX7_dropColumn_30 fl_X7_88 (rfl) (by decide) (e2.2.1) ?_
    refine WP.iret dX7_dropColumn_33 rfl ?_
    exact PX.ch (A' := (n, k - 1, rmS sz c, rmC ce c)) (by subst hc0; exact cif_t q8) hV hR1 (fun a ha => e1 a (by omega) (by omega) (by omega)) (⟨e2, Wf_rm hW (by omega)⟩)
  · skip
    have q8 := bi_0 h8
    refine WP.iconst dX7_dropColumn_11 ?_
    refine WP.iret dX7_dropColumn_12 rfl ?_
    exact PX.same (cif_f q8) hV
set_option maxHeartbeats 4000000 in
set_option maxRecDepth 20000 in
theorem x_put {M : Mem} {n k h len : Nat} {sz tx : Nat → Nat} {ce : Nat → Nat → Nat} {hs : Nat → AR} {im : Nat → Option AR} (hV : InvX M (mkS n k sz ce h hs im len tx)) {x : Int} (hx : -2147483648 ≤ x ∧ x < 2147483648) {y : Int} (hy : -2147483648 ≤ y ∧ y < 2147483648) {z : Int} (hz : -2147483648 ≤ z ∧ z < 2147483648) : CT 40 m_X7_put [vR 42, vI x, vI y, vI z] M (PX M (o_put (mkS n k sz ce h hs im len tx) x y z)) := by
  have hT : TX M 0 n k sz ce := hV.1.1
  have hW : Wf n k sz ce := hV.1.2
  have hH : HX M h hs := hV.2.1
  have hIM : IMx M im := hV.2.2.1
  have hS : SX M len tx := hV.2.2.2.1
  have b1 := hW.1
  have b2 := hW.2.1
  have t0 : isT 0 := ⟨rfl, by decide⟩
  have hh8 := hH.1
  have hl3 := hS.1
  refine CT.ofWP (by decide +kernel) (Nat.le_of_ble_eq_true rfl) ?_
  show WP sc0 40 m_X7_put 0 [vR 42, vI x, vI y, vI z, vU] [] M (PX M (o_put (mkS n k sz ce h hs im len tx) x y z))
  refine WP.aload_n dX7_put_0 rfl ?_
  refine WP.getR (y := 0) dX7_put_1 fl_X7_10 (rfl) (by decide) (rfl) ?_
  refine WP.iload_n dX7_put_4 rfl ?_
  refine WP.callVp (as := [vI x]) dX7_put_5 mv_X7_101 rfl (rfl) (by decide) rfl rfl (c_T_hasRow t0 hT.1 (by omega) (by omega)) rfl (Nat.le_of_ble_eq_true rfl) (by omega) ?_
  refine WP.if_eq (tgt := 39) dX7_put_8 (by decide) (bi_rng) (fun h8 => ?_) (fun h8 => ?_)
  · skip
    have q8 := bi_0 h8
    refine WP.iconst dX7_put_39 ?_
    refine WP.iret dX7_put_40 rfl ?_
    exact PX.same (cif_f (fun z => q8 z.1)) hV
  · skip
    have q8 := bi_1 h8
    obtain ⟨r, hr0⟩ : ∃ r : Nat, x.toNat = r := ⟨_, rfl⟩
    have hr1 : x = ((r : Nat) : Int) := by omega
    refine WP.fgt (lt := [vR 42, vI ((r : Nat) : Int), vI y, vI z, vU]) ⟨Or.inr rfl, Or.inr (congrArg vI (hr1.symm)), Or.inr rfl, Or.inr rfl, Or.inl rfl, trivial⟩ ?_
    refine WP.aload_n dX7_put_11 rfl ?_
    refine WP.getR (y := 0) dX7_put_12 fl_X7_10 (rfl) (by decide) (rfl) ?_
    refine WP.iload_n dX7_put_15 rfl ?_
    refine WP.callVp (as := [vI y]) dX7_put_16 mv_X7_95 rfl (rfl) (by decide) rfl rfl (c_T_hasColumn t0 hT.2.1 (by omega) (by omega)) rfl (Nat.le_of_ble_eq_true rfl) (by omega) ?_
    refine WP.if_eq (tgt := 39) dX7_put_19 (by decide) (bi_rng) (fun h19 => ?_) (fun h19 => ?_)
    · skip
      have q19 := bi_0 h19
      refine WP.iconst dX7_put_39 ?_
      refine WP.iret dX7_put_40 rfl ?_
      exact PX.same (cif_f (fun z => q19 z.2.1)) hV
    · skip
      have q19 := bi_1 h19
      obtain ⟨c, hc0⟩ : ∃ c : Nat, y.toNat = c := ⟨_, rfl⟩
      have hc1 : y = ((c : Nat) : Int) := by omega
      refine WP.fgt (lt := [vR 42, vI ((r : Nat) : Int), vI ((c : Nat) : Int), vI z, vU]) ⟨Or.inr rfl, Or.inr rfl, Or.inr (congrArg vI (hc1.symm)), Or.inr rfl, Or.inl rfl, trivial⟩ ?_
      refine WP.iload_n dX7_put_22 rfl ?_
      refine WP.if_lt (tgt := 39) dX7_put_23 (by decide) (by omega) (fun h23 => ?_) (fun h23 => ?_)
      · skip
        refine WP.iconst dX7_put_39 ?_
        refine WP.iret dX7_put_40 rfl ?_
        exact PX.same (cif_f (fun z => by have := z.2.2; dsimp only at this; subst hc0; omega)) hV
      · skip
        obtain ⟨v, hv0⟩ : ∃ v : Nat, z.toNat = v := ⟨_, rfl⟩
        have hv1 : z = ((v : Nat) : Int) := by omega
        refine WP.fgt (lt := [vR 42, vI ((r : Nat) : Int), vI ((c : Nat) : Int), vI ((v : Nat) : Int), vU]) ⟨Or.inr rfl, Or.inr rfl, Or.inr rfl, Or.inr (congrArg vI (hv1.symm)), Or.inl rfl, trivial⟩ ?_
        have w1 := hW.2.2.1 c (by omega)
        refine WP.iload_n dX7_put_26 rfl ?_
        refine WP.aload_n dX7_put_27 rfl ?_
        refine WP.getR (y := 0) dX7_put_28 fl_X7_10 (rfl) (by decide) (rfl) ?_
        refine WP.getR (y := 1) dX7_put_31 fl_X7_104 (rfl) (by decide) (rfl) ?_
        refine WP.iload_n dX7_put_34 rfl ?_
        refine WP.iaload (y := c) (x := ((sz c : Nat) : Int)) dX7_put_35 (rfl) (by omega) (by omega) (hT.2.2.1 c (by omega)) ?_
        refine WP.icmp_lt (tgt := 41) dX7_put_36 (by decide) (by omega) (by omega) (fun h36 => ?_) (fun h36 => ?_)
        · skip
          refine WP.aload_n dX7_put_41 rfl ?_
          refine WP.getR (y := 0) dX7_put_42 fl_X7_10 (rfl) (by decide) (rfl) ?_
          refine WP.iload_n dX7_put_45 rfl ?_
          refine WP.iload_n dX7_put_46 rfl ?_
          refine WP.callVp (as := [vI ((r : Nat) : Int), vI ((c : Nat) : Int)]) dX7_put_47 mv_X7_108 rfl (rfl) (by decide) rfl rfl (c_T_at (r := r) (c := c) t0 (by omega) (by omega) (hT.2.2.2 r (by omega) c (by omega))) rfl (Nat.le_of_ble_eq_true rfl) (by omega) ?_
          refine WP.istore (lt := [vR 42, vI ((r : Nat) : Int), vI ((c : Nat) : Int), vI ((v : Nat) : Int), vI ((ce r c : Nat) : Int)]) dX7_put_50 (by decide) rfl ?_
          refine WP.aload_n dX7_put_52 rfl ?_
          refine WP.callV (as := []) dX7_put_53 mv_X7_76 rfl (rfl) (by decide) rfl rfl (c_X_record (A := (n, k, sz, ce)) hH hV.1) rfl (Nat.le_of_ble_eq_true rfl) (by omega) (fun r9 M1 h9 => ?_)
          obtain ⟨y8, rfl, hy, hR1, hA1⟩ := h9
          have hT1 : TX M1 0 n k sz ce := hT.fr (hR1.1 0 (by decide) (by decide) (by decide)) (hR1.1 1 (by decide) (by decide) (by decide)) (hR1.1 2 (by decide) (by decide) (by decide))
          have hA2 : TX M1 y8 n k sz ce := hA1.1
          have hyT : isT y8 := by
            obtain ⟨i, hi, e⟩ := hy
            rw [e]
            exact isT_st i hi
          have hy9 : 9 ≤ y8 ∧ y8 < 33 := by
            obtain ⟨i, hi, e⟩ := hy
            omega
          show WP sc0 40 m_X7_put 56 [vR 42, vI ((r : Nat) : Int), vI ((c : Nat) : Int), vI ((v : Nat) : Int), vI ((ce r c : Nat) : Int)] [vR y8] M1 (PX M (o_put (mkS n k sz ce h hs im len tx) x y z))
          refine WP.pop dX7_put_56 rfl ?_
          refine WP.aload_n dX7_put_57 rfl ?_
          refine WP.getR (y := 0) dX7_put_58 fl_X7_10 (rfl) (by decide) (rfl) ?_
          refine WP.iload_n dX7_put_61 rfl ?_
          refine WP.iload_n dX7_put_62 rfl ?_
          refine WP.iload_n dX7_put_63 rfl ?_
          refine WP.callV (as := [vI ((r : Nat) : Int), vI ((c : Nat) : Int), vI ((v : Nat) : Int)]) dX7_put_64 mv_X7_112 rfl (rfl) (by decide) rfl rfl (c_T_setX (r := r) (c := c) (v := v) t0 hT1 (by omega) (by omega) (by omega)) rfl (Nat.le_of_ble_eq_true rfl) (by omega) (fun r9 M2 h9 => ?_)
          obtain ⟨rfl, j1, j2⟩ := h9
          show WP sc0 40 m_X7_put 67 [vR 42, vI ((r : Nat) : Int), vI ((c : Nat) : Int), vI ((v : Nat) : Int), vI ((ce r c : Nat) : Int)] [] M2 (PX M (o_put (mkS n k sz ce h hs im len tx) x y z))
          refine WP.iload dX7_put_67 rfl ?_
          refine WP.iret dX7_put_69 rfl ?_
          exact PX.ch (A' := (n, k, sz, fun q b => if q = r ∧ b = c then v else ce q b)) (by subst hr0; subst hc0; subst hv0; exact cif_t ⟨q8, q19, (show 0 ≤ z ∧ z < ((sz y.toNat : Nat) : Int) by omega)⟩) hV hR1 (fun a ha => j1 a (by omega)) (⟨j2, Wf_put (c := c) (v := v) hW (show v < sz c by omega)⟩)
        · skip
          refine WP.iconst dX7_put_39 ?_
          refine WP.iret dX7_put_40 rfl ?_
          exact PX.same (cif_f (fun z => by have := z.2.2; dsimp only at this; subst hc0; omega)) hV
set_option maxHeartbeats 4000000 in
set_option maxRecDepth 20000 in
theorem x_dropRow {M : Mem} {n k h len : Nat} {sz tx : Nat → Nat} {ce : Nat → Nat → Nat} {hs : Nat → AR} {im : Nat → Option AR} (hV : InvX M (mkS n k sz ce h hs im len tx)) {x : Int} (hx : -2147483648 ≤ x ∧ x < 2147483648) : CT 40 m_X7_dropRow [vR 42, vI x] M (PX M (o_dropRow (mkS n k sz ce h hs im len tx) x)) := by
  have hT : TX M 0 n k sz ce := hV.1.1
  have hW : Wf n k sz ce := hV.1.2
  have hH : HX M h hs := hV.2.1
  have hIM : IMx M im := hV.2.2.1
  have hS : SX M len tx := hV.2.2.2.1
  have b1 := hW.1
  have b2 := hW.2.1
  have t0 : isT 0 := ⟨rfl, by decide⟩
  have hh8 := hH.1
  have hl3 := hS.1
  refine CT.ofWP (by decide +kernel) (Nat.le_of_ble_eq_true rfl) ?_
  show WP sc0 40 m_X7_dropRow 0 [vR 42, vI x] [] M (PX M (o_dropRow (mkS n k sz ce h hs im len tx) x))
  refine WP.aload_n dX7_dropRow_0 rfl ?_
  refine WP.getR (y := 0) dX7_dropRow_1 fl_X7_10 (rfl) (by decide) (rfl) ?_
  refine WP.iload_n dX7_dropRow_4 rfl ?_
  refine WP.callVp (as := [vI x]) dX7_dropRow_5 mv_X7_101 rfl (rfl) (by decide) rfl rfl (c_T_hasRow t0 hT.1 (by omega) (by omega)) rfl (Nat.le_of_ble_eq_true rfl) (by omega) ?_
  refine WP.if_ne (tgt := 13) dX7_dropRow_8 (by decide) (bi_rng) (fun h8 => ?_) (fun h8 => ?_)
  · skip
    have q8 := bi_1 h8
    obtain ⟨c, hc0⟩ : ∃ c : Nat, x.toNat = c := ⟨_, rfl⟩
    have hc1 : x = ((c : Nat) : Int) := by omega
    refine WP.fgt (lt := [vR 42, vI ((c : Nat) : Int)]) ⟨Or.inr rfl, Or.inr (congrArg vI (hc1.symm)), trivial⟩ ?_
    refine WP.aload_n dX7_dropRow_13 rfl ?_
    refine WP.callV (as := []) dX7_dropRow_14 mv_X7_76 rfl (rfl) (by decide) rfl rfl (c_X_record (A := (n, k, sz, ce)) hH hV.1) rfl (Nat.le_of_ble_eq_true rfl) (by omega) (fun r9 M1 h9 => ?_)
    obtain ⟨y8, rfl, hy, hR1, hA1⟩ := h9
    have hT1 : TX M1 0 n k sz ce := hT.fr (hR1.1 0 (by decide) (by decide) (by decide)) (hR1.1 1 (by decide) (by decide) (by decide)) (hR1.1 2 (by decide) (by decide) (by decide))
    have hA2 : TX M1 y8 n k sz ce := hA1.1
    have hyT : isT y8 := by
      obtain ⟨i, hi, e⟩ := hy
      rw [e]
      exact isT_st i hi
    have hy9 : 9 ≤ y8 ∧ y8 < 33 := by
      obtain ⟨i, hi, e⟩ := hy
      omega
    show WP sc0 40 m_X7_dropRow 17 [vR 42, vI ((c : Nat) : Int)] [vR y8] M1 (PX M (o_dropRow (mkS n k sz ce h hs im len tx) x))
    refine WP.pop dX7_dropRow_17 rfl ?_
    refine WP.aload_n dX7_dropRow_18 rfl ?_
    refine WP.getR (y := 0) dX7_dropRow_19 fl_X7_10 (rfl) (by decide) (rfl) ?_
    refine WP.iload_n dX7_dropRow_22 rfl ?_
    refine WP.callV (as := [vI ((c : Nat) : Int)]) dX7_dropRow_23 mv_X7_116 rfl (rfl) (by decide) rfl rfl (c_T_removeRow t0 hT1 hW (r := c) (by omega)) rfl (Nat.le_of_ble_eq_true rfl) (by omega) (fun r9 M2 h9 => ?_)
    obtain ⟨rfl, e1, e2⟩ := h9
    show WP sc0 40 m_X7_dropRow 26 [vR 42, vI ((c : Nat) : Int)] [] M2 (PX M (o_dropRow (mkS n k sz ce h hs im len tx) x))
    refine WP.aload_n dX7_dropRow_26 rfl ?_
    refine WP.getR (y := 0) dX7_dropRow_27 fl_X7_10 (rfl) (by decide) (rfl) ?_
    refine WP.getI (x := ((n - 1 : Nat) : Int)) dX7_dropRow_30 fl_X7_73 (rfl) (by decide) (e2.1) ?_
    refine WP.iret dX7_dropRow_33 rfl ?_
    exact PX.ch (A' := (n - 1, k, sz, fun p b => if p < c then ce p b else ce (p + 1) b)) (by subst hc0; exact cif_t q8) hV hR1 (fun a ha => e1 a (by omega) (by omega)) (⟨e2, Wf_dr hW (by omega)⟩)
  · skip
    have q8 := bi_0 h8
    refine WP.iconst dX7_dropRow_11 ?_
    refine WP.iret dX7_dropRow_12 rfl ?_
    exact PX.same (cif_f q8) hV
set_option maxHeartbeats 4000000 in
set_option maxRecDepth 20000 in
theorem x_dropCopies {M : Mem} {n k h len : Nat} {sz tx : Nat → Nat} {ce : Nat → Nat → Nat} {hs : Nat → AR} {im : Nat → Option AR} (hV : InvX M (mkS n k sz ce h hs im len tx))  : CT 40 m_X7_dropCopies [vR 42] M (PX M (o_dropCopies (mkS n k sz ce h hs im len tx) )) := by
  have hT : TX M 0 n k sz ce := hV.1.1
  have hW : Wf n k sz ce := hV.1.2
  have hH : HX M h hs := hV.2.1
  have hIM : IMx M im := hV.2.2.1
  have hS : SX M len tx := hV.2.2.2.1
  have b1 := hW.1
  have b2 := hW.2.1
  have t0 : isT 0 := ⟨rfl, by decide⟩
  have hh8 := hH.1
  have hl3 := hS.1
  refine CT.ofWP (by decide +kernel) (Nat.le_of_ble_eq_true rfl) ?_
  show WP sc0 40 m_X7_dropCopies 0 [vR 42, vU] [] M (PX M (o_dropCopies (mkS n k sz ce h hs im len tx) ))
  refine WP.aload_n dX7_dropCopies_0 rfl ?_
  refine WP.callV (as := []) dX7_dropCopies_1 mv_X7_76 rfl (rfl) (by decide) rfl rfl (c_X_record (A := (n, k, sz, ce)) hH hV.1) rfl (Nat.le_of_ble_eq_true rfl) (by omega) (fun r9 M1 h9 => ?_)
  obtain ⟨y8, rfl, hy, hR1, hA1⟩ := h9
  have hT1 : TX M1 0 n k sz ce := hT.fr (hR1.1 0 (by decide) (by decide) (by decide)) (hR1.1 1 (by decide) (by decide) (by decide)) (hR1.1 2 (by decide) (by decide) (by decide))
  have hA2 : TX M1 y8 n k sz ce := hA1.1
  have hyT : isT y8 := by
    obtain ⟨i, hi, e⟩ := hy
    rw [e]
    exact isT_st i hi
  have hy9 : 9 ≤ y8 ∧ y8 < 33 := by
    obtain ⟨i, hi, e⟩ := hy
    omega
  show WP sc0 40 m_X7_dropCopies 4 [vR 42, vU] [vR y8] M1 (PX M (o_dropCopies (mkS n k sz ce h hs im len tx) ))
  refine WP.astore_n (lt := [vR 42, vR y8]) dX7_dropCopies_4 (by decide) rfl ?_
  refine WP.aload_n dX7_dropCopies_5 rfl ?_
  refine WP.getR (y := 0) dX7_dropCopies_6 fl_X7_10 (rfl) (by decide) (rfl) ?_
  refine WP.callV (as := []) dX7_dropCopies_9 mv_X7_119 rfl (rfl) (by decide) rfl rfl (c_T_removeCopies t0 hT1 hW) rfl (Nat.le_of_ble_eq_true rfl) (by omega) (fun r9 M2 h9 => ?_)
  obtain ⟨rfl, e1, e2⟩ := h9
  show WP sc0 40 m_X7_dropCopies 12 [vR 42, vR y8] [] M2 (PX M (o_dropCopies (mkS n k sz ce h hs im len tx) ))
  refine WP.aload_n dX7_dropCopies_12 rfl ?_
  refine WP.getI (x := ((n : Nat) : Int)) dX7_dropCopies_13 fl_X7_73 (shT0 hyT) (by decide) (by rw [e1 y8 (by omega) (by omega)]; exact hA1.1.1) ?_
  refine WP.aload_n dX7_dropCopies_16 rfl ?_
  refine WP.getR (y := 0) dX7_dropCopies_17 fl_X7_10 (rfl) (by decide) (rfl) ?_
  refine WP.getI (x := ((nk ce k n : Nat) : Int)) dX7_dropCopies_20 fl_X7_73 (rfl) (by decide) (e2.1) ?_
  refine WP.isub dX7_dropCopies_23 ?_
  refine WP.iret dX7_dropCopies_24 rfl ?_
  exact PX.ch (A' := (nk ce k n, k, sz, fun p c => ce (kr ce k n p) c)) (rfl) hV hR1 (fun a ha => e1 a (by omega) (by omega)) (⟨e2, Wf_cps hW⟩)
set_option maxHeartbeats 4000000 in
set_option maxRecDepth 20000 in
theorem x_sort {M : Mem} {n k h len : Nat} {sz tx : Nat → Nat} {ce : Nat → Nat → Nat} {hs : Nat → AR} {im : Nat → Option AR} (hV : InvX M (mkS n k sz ce h hs im len tx))  : CT 40 m_X7_sort [vR 42] M (PX M (o_sort (mkS n k sz ce h hs im len tx) )) := by
  have hT : TX M 0 n k sz ce := hV.1.1
  have hW : Wf n k sz ce := hV.1.2
  have hH : HX M h hs := hV.2.1
  have hIM : IMx M im := hV.2.2.1
  have hS : SX M len tx := hV.2.2.2.1
  have b1 := hW.1
  have b2 := hW.2.1
  have t0 : isT 0 := ⟨rfl, by decide⟩
  have hh8 := hH.1
  have hl3 := hS.1
  refine CT.ofWP (by decide +kernel) (Nat.le_of_ble_eq_true rfl) ?_
  show WP sc0 40 m_X7_sort 0 [vR 42] [] M (PX M (o_sort (mkS n k sz ce h hs im len tx) ))
  refine WP.aload_n dX7_sort_0 rfl ?_
  refine WP.callV (as := []) dX7_sort_1 mv_X7_76 rfl (rfl) (by decide) rfl rfl (c_X_record (A := (n, k, sz, ce)) hH hV.1) rfl (Nat.le_of_ble_eq_true rfl) (by omega) (fun r9 M1 h9 => ?_)
  obtain ⟨y8, rfl, hy, hR1, hA1⟩ := h9
  have hT1 : TX M1 0 n k sz ce := hT.fr (hR1.1 0 (by decide) (by decide) (by decide)) (hR1.1 1 (by decide) (by decide) (by decide)) (hR1.1 2 (by decide) (by decide) (by decide))
  have hA2 : TX M1 y8 n k sz ce := hA1.1
  have hyT : isT y8 := by
    obtain ⟨i, hi, e⟩ := hy
    rw [e]
    exact isT_st i hi
  have hy9 : 9 ≤ y8 ∧ y8 < 33 := by
    obtain ⟨i, hi, e⟩ := hy
    omega
  show WP sc0 40 m_X7_sort 4 [vR 42] [vR y8] M1 (PX M (o_sort (mkS n k sz ce h hs im len tx) ))
  refine WP.pop dX7_sort_4 rfl ?_
  refine WP.aload_n dX7_sort_5 rfl ?_
  refine WP.getR (y := 0) dX7_sort_6 fl_X7_10 (rfl) (by decide) (rfl) ?_
  refine WP.callV (as := []) dX7_sort_9 mv_X7_122 rfl (rfl) (by decide) rfl rfl (c_T_sortRows t0 hT1 hW) rfl (Nat.le_of_ble_eq_true rfl) (by omega) (fun r9 M2 h9 => ?_)
  obtain ⟨rfl, e1, e2⟩ := h9
  show WP sc0 40 m_X7_sort 12 [vR 42] [vI (((srt k ce n).2 : Nat) : Int)] M2 (PX M (o_sort (mkS n k sz ce h hs im len tx) ))
  refine WP.iret dX7_sort_12 rfl ?_
  exact PX.ch (A' := (n, k, sz, (srt k ce n).1)) (rfl) hV hR1 (fun a ha => e1 a (by omega)) (⟨e2, Wf_srt hW n (Nat.le_refl _)⟩)
set_option maxHeartbeats 4000000 in
set_option maxRecDepth 20000 in
theorem x_levels {M : Mem} {n k h len : Nat} {sz tx : Nat → Nat} {ce : Nat → Nat → Nat} {hs : Nat → AR} {im : Nat → Option AR} (hV : InvX M (mkS n k sz ce h hs im len tx)) {x : Int} (hx : -2147483648 ≤ x ∧ x < 2147483648) : CT 40 m_X7_levels [vR 42, vI x] M (PX M (o_levels (mkS n k sz ce h hs im len tx) x)) := by
  have hT : TX M 0 n k sz ce := hV.1.1
  have hW : Wf n k sz ce := hV.1.2
  have hH : HX M h hs := hV.2.1
  have hIM : IMx M im := hV.2.2.1
  have hS : SX M len tx := hV.2.2.2.1
  have b1 := hW.1
  have b2 := hW.2.1
  have t0 : isT 0 := ⟨rfl, by decide⟩
  have hh8 := hH.1
  have hl3 := hS.1
  refine CT.ofWP (by decide +kernel) (Nat.le_of_ble_eq_true rfl) ?_
  show WP sc0 40 m_X7_levels 0 [vR 42, vI x] [] M (PX M (o_levels (mkS n k sz ce h hs im len tx) x))
  refine WP.aload_n dX7_levels_0 rfl ?_
  refine WP.getR (y := 0) dX7_levels_1 fl_X7_10 (rfl) (by decide) (rfl) ?_
  refine WP.iload_n dX7_levels_4 rfl ?_
  refine WP.callVp (as := [vI x]) dX7_levels_5 mv_X7_95 rfl (rfl) (by decide) rfl rfl (c_T_hasColumn t0 hT.2.1 (by omega) (by omega)) rfl (Nat.le_of_ble_eq_true rfl) (by omega) ?_
  refine WP.if_eq (tgt := 23) dX7_levels_8 (by decide) (bi_rng) (fun h8 => ?_) (fun h8 => ?_)
  · skip
    have q8 := bi_0 h8
    refine WP.iconst dX7_levels_23 ?_
    refine WP.iret dX7_levels_24 rfl ?_
    exact PX.same (congrArg (fun z => (z, _)) (cif_f q8)) hV
  · skip
    have q8 := bi_1 h8
    obtain ⟨c, hc0⟩ : ∃ c : Nat, x.toNat = c := ⟨_, rfl⟩
    have hc1 : x = ((c : Nat) : Int) := by omega
    refine WP.fgt (lt := [vR 42, vI ((c : Nat) : Int)]) ⟨Or.inr rfl, Or.inr (congrArg vI (hc1.symm)), trivial⟩ ?_
    refine WP.aload_n dX7_levels_11 rfl ?_
    refine WP.getR (y := 0) dX7_levels_12 fl_X7_10 (rfl) (by decide) (rfl) ?_
    refine WP.getR (y := 1) dX7_levels_15 fl_X7_104 (rfl) (by decide) (rfl) ?_
    refine WP.iload_n dX7_levels_18 rfl ?_
    refine WP.iaload (y := c) (x := ((sz c : Nat) : Int)) dX7_levels_19 (rfl) (by omega) (by omega) (hT.2.2.1 c (by omega)) ?_
    refine WP.goto (tgt := 24) dX7_levels_20 (by decide) ?_
    refine WP.iret dX7_levels_24 rfl ?_
    exact PX.same (by subst hc0; exact congrArg (fun z => (z, _)) (cif_t q8)) hV
set_option maxHeartbeats 4000000 in
set_option maxRecDepth 20000 in
theorem x_cell {M : Mem} {n k h len : Nat} {sz tx : Nat → Nat} {ce : Nat → Nat → Nat} {hs : Nat → AR} {im : Nat → Option AR} (hV : InvX M (mkS n k sz ce h hs im len tx)) {x : Int} (hx : -2147483648 ≤ x ∧ x < 2147483648) {y : Int} (hy : -2147483648 ≤ y ∧ y < 2147483648) : CT 40 m_X7_cell [vR 42, vI x, vI y] M (PX M (o_cell (mkS n k sz ce h hs im len tx) x y)) := by
  have hT : TX M 0 n k sz ce := hV.1.1
  have hW : Wf n k sz ce := hV.1.2
  have hH : HX M h hs := hV.2.1
  have hIM : IMx M im := hV.2.2.1
  have hS : SX M len tx := hV.2.2.2.1
  have b1 := hW.1
  have b2 := hW.2.1
  have t0 : isT 0 := ⟨rfl, by decide⟩
  have hh8 := hH.1
  have hl3 := hS.1
  refine CT.ofWP (by decide +kernel) (Nat.le_of_ble_eq_true rfl) ?_
  show WP sc0 40 m_X7_cell 0 [vR 42, vI x, vI y] [] M (PX M (o_cell (mkS n k sz ce h hs im len tx) x y))
  refine WP.aload_n dX7_cell_0 rfl ?_
  refine WP.getR (y := 0) dX7_cell_1 fl_X7_10 (rfl) (by decide) (rfl) ?_
  refine WP.iload_n dX7_cell_4 rfl ?_
  refine WP.callVp (as := [vI x]) dX7_cell_5 mv_X7_101 rfl (rfl) (by decide) rfl rfl (c_T_hasRow t0 hT.1 (by omega) (by omega)) rfl (Nat.le_of_ble_eq_true rfl) (by omega) ?_
  refine WP.if_eq (tgt := 34) dX7_cell_8 (by decide) (bi_rng) (fun h8 => ?_) (fun h8 => ?_)
  · skip
    have q8 := bi_0 h8
    refine WP.iconst dX7_cell_34 ?_
    refine WP.iret dX7_cell_35 rfl ?_
    exact PX.same (congrArg (fun z => (z, _)) (cif_f (fun z => q8 z.1))) hV
  · skip
    have q8 := bi_1 h8
    obtain ⟨r, hr0⟩ : ∃ r : Nat, x.toNat = r := ⟨_, rfl⟩
    have hr1 : x = ((r : Nat) : Int) := by omega
    refine WP.fgt (lt := [vR 42, vI ((r : Nat) : Int), vI y]) ⟨Or.inr rfl, Or.inr (congrArg vI (hr1.symm)), Or.inr rfl, trivial⟩ ?_
    refine WP.aload_n dX7_cell_11 rfl ?_
    refine WP.getR (y := 0) dX7_cell_12 fl_X7_10 (rfl) (by decide) (rfl) ?_
    refine WP.iload_n dX7_cell_15 rfl ?_
    refine WP.callVp (as := [vI y]) dX7_cell_16 mv_X7_95 rfl (rfl) (by decide) rfl rfl (c_T_hasColumn t0 hT.2.1 (by omega) (by omega)) rfl (Nat.le_of_ble_eq_true rfl) (by omega) ?_
    refine WP.if_eq (tgt := 34) dX7_cell_19 (by decide) (bi_rng) (fun h19 => ?_) (fun h19 => ?_)
    · skip
      have q19 := bi_0 h19
      refine WP.iconst dX7_cell_34 ?_
      refine WP.iret dX7_cell_35 rfl ?_
      exact PX.same (congrArg (fun z => (z, _)) (cif_f (fun z => q19 z.2))) hV
    · skip
      have q19 := bi_1 h19
      obtain ⟨c, hc0⟩ : ∃ c : Nat, y.toNat = c := ⟨_, rfl⟩
      have hc1 : y = ((c : Nat) : Int) := by omega
      refine WP.fgt (lt := [vR 42, vI ((r : Nat) : Int), vI ((c : Nat) : Int)]) ⟨Or.inr rfl, Or.inr rfl, Or.inr (congrArg vI (hc1.symm)), trivial⟩ ?_
      refine WP.aload_n dX7_cell_22 rfl ?_
      refine WP.getR (y := 0) dX7_cell_23 fl_X7_10 (rfl) (by decide) (rfl) ?_
      refine WP.iload_n dX7_cell_26 rfl ?_
      refine WP.iload_n dX7_cell_27 rfl ?_
      refine WP.callVp (as := [vI ((r : Nat) : Int), vI ((c : Nat) : Int)]) dX7_cell_28 mv_X7_108 rfl (rfl) (by decide) rfl rfl (c_T_at (r := r) (c := c) t0 (by omega) (by omega) (hT.2.2.2 r (by omega) c (by omega))) rfl (Nat.le_of_ble_eq_true rfl) (by omega) ?_
      refine WP.goto (tgt := 35) dX7_cell_31 (by decide) ?_
      refine WP.iret dX7_cell_35 rfl ?_
      exact PX.same (by subst hc0; subst hr0; exact congrArg (fun z => (z, _)) (cif_t ⟨q8, q19⟩)) hV
theorem InvX.tx {M M' : Mem} {A : AR} {H : Nat × (Nat → AR)} {im : Nat → Option AR} {T : Nat × (Nat → Nat)} {len : Nat} {tx : Nat → Nat} (hI : InvX M (A, H, im, T)) (h : ∀ a, a ≠ 47 → a ≠ 48 → M' a = M a) (hS : SX M' len tx) : InvX M' (A, H, im, (len, tx)) := by
  obtain ⟨a1, a2, a3, a4, a5, a6⟩ := hI
  have h42 := h 42 (by decide) (by decide)
  refine ⟨a1.fr (h _ (by decide) (by decide)) (h _ (by decide) (by decide)) (h _ (by decide) (by decide)), a2.fr (h _ (by decide) (by decide)) (fun a i1 i2 => h a (by omega) (by omega)), a3.fr (h _ (by decide) (by decide)) (fun a i1 i2 => h a (by omega) (by omega)), hS, ?_, ?_⟩
  · unfold CEx
    rw [h42, h 53 (by decide) (by decide)]
    exact a5
  · unfold CIx
    rw [h42, h 100 (by decide) (by decide), h 101 (by decide) (by decide)]
    exact a6
