noncomputable def cntv (n k : Nat) (sz : Nat → Nat) (ce : Nat → Nat → Nat) (s y : Nat) : Int := if y < tps sz s k then (ctA n k sz ce s y : Int) else -1
theorem cntv_in {n k s y : Nat} {sz : Nat → Nat} {ce : Nat → Nat → Nat} (h : y < tps sz s k) : cntv n k sz ce s y = (ctA n k sz ce s y : Int) := if_pos h
theorem cntv_lt {n k s y : Nat} {sz : Nat → Nat} {ce : Nat → Nat → Nat} (h : cntv n k sz ce s y < 0) : tps sz s k ≤ y := by
  apply Classical.byContradiction
  intro q
  rw [cntv_in (by omega)] at h
  omega
theorem cntv_nn {n k s y : Nat} {sz : Nat → Nat} {ce : Nat → Nat → Nat} (h : 0 ≤ cntv n k sz ce s y) : y < tps sz s k := by
  apply Classical.byContradiction
  intro q
  unfold cntv at h
  rw [if_neg q] at h
  omega
theorem cntv_rng {n k s y : Nat} {sz : Nat → Nat} {ce : Nat → Nat → Nat} (h : n ≤ 36) : -1 ≤ cntv n k sz ce s y ∧ cntv n k sz ce s y ≤ 36 := by
  by_cases e : y < tps sz s k
  · rw [cntv_in e]
    have := f_le (n := n) (k := k) (sz := sz) (ce := ce) (set := s) (v := y)
    omega
  · unfold cntv
    rw [if_neg e]
    omega
theorem o_count_v {S : ST} {s y : Nat} (hs : s < 2 ^ S.1.2.1) : (o_count S (s : Int) (y : Int)).1 = cntv S.1.1 S.1.2.1 S.1.2.2.1 S.1.2.2.2 s y := by
  show cif ((0 ≤ (s : Int) ∧ (s : Int) < ((2 ^ S.1.2.1 : Nat) : Int)) ∧ 0 ≤ (y : Int) ∧ (y : Int) < (tps S.1.2.2.1 s S.1.2.1 : Int)) (cn (fun r => tpo S.1.2.2.1 (S.1.2.2.2 r) s S.1.2.1 = y) S.1.1 : Int) (-1) = _
  by_cases e : y < tps S.1.2.2.1 s S.1.2.1
  · rw [cif_t ⟨⟨by omega, by omega⟩, by omega, by omega⟩, cntv_in e]
    exact congrArg Int.ofNat (cn_cg (fun r _ => ⟨fun z => ⟨trivial, z⟩, fun z => z.2⟩))
  · rw [cif_f (fun z => e (by have := z.2.2; omega))]
    unfold cntv
    rw [if_neg e]
theorem z_count_v {M M1 : Mem} {S : ST} (hA : AT M S M1) {s y : Nat} (hs : s < 2 ^ S.1.2.1) (hy : y < 2147483648) : CT 40 m_X7_count [vR 42, vI ((s : Nat) : Int), vI ((y : Nat) : Int)] M1 (fun z9 M2 => z9 = some (vI (cntv S.1.1 S.1.2.1 S.1.2.2.1 S.1.2.2.2 s y)) ∧ AT M S M2) := by
  have := pw7 hA.wf.2.1
  exact CT.mono (fun z9 M2 hh => ⟨hh.1.trans (congrArg (fun v => some (vI v)) (o_count_v hs)), hh.2⟩) (z_count (x := (s : Int)) (y := (y : Int)) hA (by omega) (by omega))
theorem z_count_in {M M1 : Mem} {S : ST} (hA : AT M S M1) {s y : Nat} (hs : s < 2 ^ S.1.2.1) (hy : y < tps S.1.2.2.1 s S.1.2.1) : CT 40 m_X7_count [vR 42, vI ((s : Nat) : Int), vI ((y : Nat) : Int)] M1 (fun z9 M2 => z9 = some (vI ((ctA S.1.1 S.1.2.1 S.1.2.2.1 S.1.2.2.2 s y : Nat) : Int)) ∧ AT M S M2) := by
  have hb := tps_b (sz := S.1.2.2.1) (set := s) hA.wf.2.1 (fun c hc => (hA.wf.2.2.1 c hc).2)
  exact CT.mono (fun z9 M2 hh => ⟨hh.1.trans (congrArg (fun v => some (vI v)) (cntv_in hy)), hh.2⟩) (z_count_v hA hs (by omega))
theorem au0 {S : ST} {t : Nat} (ht : t ≤ S.1.2.1) : (o_audit S (t : Int) 0).1 = ((cn (ubs S.1.1 S.1.2.1 S.1.2.2.1 S.1.2.2.2 t) (2 ^ S.1.2.1) : Nat) : Int) := (cif_t ⟨⟨by omega, by omega⟩, by decide, by decide⟩).trans (if_pos rfl)
theorem au1 {S : ST} {t : Nat} (ht : t ≤ S.1.2.1) : (o_audit S (t : Int) 1).1 = fi (ubs S.1.1 S.1.2.1 S.1.2.2.1 S.1.2.2.2 t) (2 ^ S.1.2.1) 0 := (cif_t ⟨⟨by omega, by omega⟩, by decide, by decide⟩).trans ((if_neg (by decide)).trans (if_pos rfl))
theorem au2 {S : ST} {t : Nat} (ht : t ≤ S.1.2.1) : (o_audit S (t : Int) 2).1 = ((gts S.1.1 S.1.2.1 S.1.2.2.1 S.1.2.2.2 t (2 ^ S.1.2.1) : Nat) : Int) := (cif_t ⟨⟨by omega, by omega⟩, by decide, by decide⟩).trans ((if_neg (by decide)).trans ((if_neg (by decide)).trans (if_pos rfl)))
theorem au3 {S : ST} {t : Nat} (ht : t ≤ S.1.2.1) : (o_audit S (t : Int) 3).1 = ((lss S.1.1 S.1.2.1 S.1.2.2.1 S.1.2.2.2 t (2 ^ S.1.2.1) : Nat) : Int) := (cif_t ⟨⟨by omega, by omega⟩, by decide, by decide⟩).trans ((if_neg (by decide)).trans ((if_neg (by decide)).trans (if_neg (by decide))))
theorem z_audit0 {M M1 : Mem} {S : ST} (hA : AT M S M1) {t : Nat} (ht : t ≤ S.1.2.1) : CT 40 m_X7_audit [vR 42, vI ((t : Nat) : Int), vI 0] M1 (fun z9 M2 => z9 = some (vI ((cn (ubs S.1.1 S.1.2.1 S.1.2.2.1 S.1.2.2.2 t) (2 ^ S.1.2.1) : Nat) : Int)) ∧ AT M S M2) := by
  have := hA.wf.2.1
  exact CT.mono (fun z9 M2 hh => ⟨hh.1.trans (congrArg (fun v => some (vI v)) (au0 ht)), hh.2⟩) (z_audit (x := (t : Int)) (y := 0) hA (by omega) ⟨by decide, by decide⟩)
theorem z_audit1 {M M1 : Mem} {S : ST} (hA : AT M S M1) {t : Nat} (ht : t ≤ S.1.2.1) : CT 40 m_X7_audit [vR 42, vI ((t : Nat) : Int), vI 1] M1 (fun z9 M2 => z9 = some (vI (fi (ubs S.1.1 S.1.2.1 S.1.2.2.1 S.1.2.2.2 t) (2 ^ S.1.2.1) 0)) ∧ AT M S M2) := by
  have := hA.wf.2.1
  exact CT.mono (fun z9 M2 hh => ⟨hh.1.trans (congrArg (fun v => some (vI v)) (au1 ht)), hh.2⟩) (z_audit (x := (t : Int)) (y := 1) hA (by omega) ⟨by decide, by decide⟩)
theorem z_audit2 {M M1 : Mem} {S : ST} (hA : AT M S M1) {t : Nat} (ht : t ≤ S.1.2.1) : CT 40 m_X7_audit [vR 42, vI ((t : Nat) : Int), vI 2] M1 (fun z9 M2 => z9 = some (vI ((gts S.1.1 S.1.2.1 S.1.2.2.1 S.1.2.2.2 t (2 ^ S.1.2.1) : Nat) : Int)) ∧ AT M S M2) := by
  have := hA.wf.2.1
  exact CT.mono (fun z9 M2 hh => ⟨hh.1.trans (congrArg (fun v => some (vI v)) (au2 ht)), hh.2⟩) (z_audit (x := (t : Int)) (y := 2) hA (by omega) ⟨by decide, by decide⟩)
theorem z_audit3 {M M1 : Mem} {S : ST} (hA : AT M S M1) {t : Nat} (ht : t ≤ S.1.2.1) : CT 40 m_X7_audit [vR 42, vI ((t : Nat) : Int), vI 3] M1 (fun z9 M2 => z9 = some (vI ((lss S.1.1 S.1.2.1 S.1.2.2.1 S.1.2.2.2 t (2 ^ S.1.2.1) : Nat) : Int)) ∧ AT M S M2) := by
  have := hA.wf.2.1
  exact CT.mono (fun z9 M2 hh => ⟨hh.1.trans (congrArg (fun v => some (vI v)) (au3 ht)), hh.2⟩) (z_audit (x := (t : Int)) (y := 3) hA (by omega) ⟨by decide, by decide⟩)
theorem mx_s (f : Nat → Nat) (T : Nat) : mxv f (T + 1) = max (mxv f T) (f T) := rfl
theorem mn_s (f : Nat → Nat) (a T : Nat) : mnv f a (T + 1) = min (mnv f a T) (f T) := rfl
section AU
variable {n k t s : Nat} {sz : Nat → Nat} {ce : Nat → Nat → Nat}
theorem fi_no (h : ¬ ubs n k sz ce t s) : fi (ubs n k sz ce t) (s + 1) 0 = fi (ubs n k sz ce t) s 0 := by
  rw [fi_ub]
  by_cases e : fi (ubs n k sz ce t) s 0 = -9
  · rw [if_pos e, cif_f h, e]
  · rw [if_neg e]
theorem fi_1 (h : ubs n k sz ce t s) (e : fi (ubs n k sz ce t) s 0 = -9) : fi (ubs n k sz ce t) (s + 1) 0 = (s : Int) := by rw [fi_ub, if_pos e, cif_t h]
theorem fi_2 (e : fi (ubs n k sz ce t) s 0 ≠ -9) : fi (ubs n k sz ce t) (s + 1) 0 = fi (ubs n k sz ce t) s 0 := by rw [fi_ub, if_neg e]
theorem fi_r {p : Nat → Prop} {s : Nat} (h : s ≤ 128) : -9 ≤ fi p s 0 ∧ fi p s 0 < 128 := by
  rcases fi_rng p s 0 with e | ⟨j, e, h1, h2, h3⟩
  · rw [e]; omega
  · rw [e]; omega
theorem gts_t (h : popn 12 s = t) : gts n k sz ce t (s + 1) = max (gts n k sz ce t s) (mxv (ctA n k sz ce s) (tps sz s k)) := by
  rw [gts, cif_t h]
  rfl
theorem gts_f (h : popn 12 s ≠ t) : gts n k sz ce t (s + 1) = gts n k sz ce t s := by rw [gts, cif_f h]
theorem lsL_t (h : popn 12 s = t) : lsL n k sz ce t (s + 1) = min (lsL n k sz ce t s) (mnv (ctA n k sz ce s) 36 (tps sz s k)) := by
  rw [lsL, cif_t h]
theorem lsL_f (h : popn 12 s ≠ t) : lsL n k sz ce t (s + 1) = lsL n k sz ce t s := by rw [lsL, cif_f h]
theorem ub_f (h : popn 12 s ≠ t) : ¬ ubs n k sz ce t s := fun z => h z.1
theorem sm_le2 (f : Nat → Nat) {a b : Nat} (h : a ≤ b) : sm f a ≤ sm f b := by
  induction b with
  | zero => rw [show a = 0 by omega]; exact Nat.le_refl _
  | succ b ih =>
    by_cases e : a = b + 1
    · rw [e]; exact Nat.le_refl _
    · have := ih (by omega)
      rw [sm]; omega
end AU
set_option maxHeartbeats 4000000 in
set_option maxRecDepth 20000 in
theorem c_L_isAudited {M : Mem} {n k h len : Nat} {sz tx : Nat → Nat} {ce : Nat → Nat → Nat} {hs : Nat → AR} {im : Nat → Option AR} (hX : InvX M (mkS n k sz ce h hs im len tx)) {t : Nat} (ht : t ≤ k) : CT 41 m_L_isAudited [vR 42, vI ((t : Nat) : Int)] M (PX M ((1 : Int), (mkS n k sz ce h hs im len tx))) := by
  have hA0 := AT.start hX
  have hW : Wf n k sz ce := hX.1.2
  have b1 := hW.1
  have b2 := hW.2.1
  have hp128 := pw7 b2
  refine CT.ofWP (by decide +kernel) (Nat.le_of_ble_eq_true rfl) ?_
  show WP sc0 41 m_L_isAudited 0 [vR 42, vI ((t : Nat) : Int), vU, vU, vU, vU, vU, vU, vU, vU, vU, vU, vU] [] M (PX M ((1 : Int), (mkS n k sz ce h hs im len tx)))
  refine WP.aload_n dL_isAudited_0 rfl ?_
  refine WP.iconst dL_isAudited_1 ?_
  refine WP.callV (as := [vI (1 : Int)]) dL_isAudited_2 mv_L_9 rfl (rfl) (by decide) rfl rfl (z_told1 hA0) rfl (Nat.le_of_ble_eq_true rfl) (by omega) (fun r9 M9 h9 => ?_)
  obtain ⟨rfl, hA9⟩ := h9
  show WP sc0 41 m_L_isAudited 5 [vR 42, vI ((t : Nat) : Int), vU, vU, vU, vU, vU, vU, vU, vU, vU, vU, vU] [vI ((k : Nat) : Int)] M9 (PX M ((1 : Int), (mkS n k sz ce h hs im len tx)))
  refine WP.istore_n (lt := [vR 42, vI ((t : Nat) : Int), vI ((k : Nat) : Int), vU, vU, vU, vU, vU, vU, vU, vU, vU, vU]) dL_isAudited_5 (by decide) rfl ?_
  refine WP.iconst dL_isAudited_6 ?_
  refine WP.istore_n (lt := [vR 42, vI ((t : Nat) : Int), vI ((k : Nat) : Int), vI (0 : Int), vU, vU, vU, vU, vU, vU, vU, vU, vU]) dL_isAudited_7 (by decide) rfl ?_
  refine WP.bipush dL_isAudited_8 (by decide) ?_
  refine WP.istore (lt := [vR 42, vI ((t : Nat) : Int), vI ((k : Nat) : Int), vI (0 : Int), vI ((-9) : Int), vU, vU, vU, vU, vU, vU, vU, vU]) dL_isAudited_10 (by decide) rfl ?_
  refine WP.iconst dL_isAudited_12 ?_
  refine WP.istore (lt := [vR 42, vI ((t : Nat) : Int), vI ((k : Nat) : Int), vI (0 : Int), vI ((-9) : Int), vI (0 : Int), vU, vU, vU, vU, vU, vU, vU]) dL_isAudited_13 (by decide) rfl ?_
  refine WP.bipush dL_isAudited_15 (by decide) ?_
  refine WP.istore (lt := [vR 42, vI ((t : Nat) : Int), vI ((k : Nat) : Int), vI (0 : Int), vI ((-9) : Int), vI (0 : Int), vI (36 : Int), vU, vU, vU, vU, vU, vU]) dL_isAudited_17 (by decide) rfl ?_
  refine WP.iconst dL_isAudited_19 ?_
  refine WP.istore (lt := [vR 42, vI ((t : Nat) : Int), vI ((k : Nat) : Int), vI (0 : Int), vI ((-9) : Int), vI (0 : Int), vI (36 : Int), vI (0 : Int), vU, vU, vU, vU, vU]) dL_isAudited_20 (by decide) rfl ?_
  have L22 : ∀ (n9 : Nat) (s : Nat) (M1 : Mem) (hS : s ≤ 2 ^ k) (hA1 : AT M (mkS n k sz ce h hs im len tx) M1), 2 ^ k - s < n9 → WP sc0 41 m_L_isAudited 22 [vR 42, vI ((t : Nat) : Int), vI ((k : Nat) : Int), vI ((cn (ubs n k sz ce t) s : Nat) : Int), vI (fi (ubs n k sz ce t) s 0), vI ((gts n k sz ce t s : Nat) : Int), vI ((lsL n k sz ce t s : Nat) : Int), vI ((s : Nat) : Int), vU, vU, vU, vU, vU] [] M1 (PX M ((1 : Int), (mkS n k sz ce h hs im len tx))) := by
    intro n9
    induction n9 with
    | zero =>
      intro s M1 hS hA1 hm9
      exact absurd hm9 (Nat.not_lt_zero _)
    | succ n9 ih22 =>
      intro s M1 hS hA1 hm9
      have u1 := cn_le (ubs n k sz ce t) s
      have u2 := fi_r (p := (ubs n k sz ce t)) (s := s) (by omega)
      have u3 := gts_36 (t := t) (s := s) hW
      have u4 := lsL_36 (n := n) (k := k) (t := t) (sz := sz) (ce := ce) s
      refine WP.iload dL_isAudited_22 rfl ?_
      refine WP.iconst dL_isAudited_24 ?_
      refine WP.iload_n dL_isAudited_25 rfl ?_
      refine WP.ishl (z := ((2 ^ k : Nat) : Int)) dL_isAudited_26 (shl_ok k (by omega)) ?_
      refine WP.icmp_ge (tgt := 209) dL_isAudited_27 (by decide) (by omega) (by omega) (fun h27 => ?_) (fun h27 => ?_)
      · skip
        have hse : s = 2 ^ k := by omega
        have w4 := lsL_end (t := t) hW ht
        refine WP.fgt (lt := [vR 42, vI ((t : Nat) : Int), vI ((k : Nat) : Int), vI ((cn (ubs n k sz ce t) (2 ^ k) : Nat) : Int), vI (fi (ubs n k sz ce t) s 0), vI ((gts n k sz ce t s : Nat) : Int), vI ((lsL n k sz ce t s : Nat) : Int), vI ((s : Nat) : Int), vU, vU, vU, vU, vU]) ⟨Or.inr rfl, Or.inr rfl, Or.inr rfl, Or.inr (congrArg vI (by rw [hse])), Or.inr rfl, Or.inr rfl, Or.inr rfl, Or.inr rfl, Or.inl rfl, Or.inl rfl, Or.inl rfl, Or.inl rfl, Or.inl rfl, trivial⟩ ?_
        refine WP.fgt (lt := [vR 42, vI ((t : Nat) : Int), vI ((k : Nat) : Int), vI ((cn (ubs n k sz ce t) (2 ^ k) : Nat) : Int), vI (fi (ubs n k sz ce t) (2 ^ k) 0), vI ((gts n k sz ce t s : Nat) : Int), vI ((lsL n k sz ce t s : Nat) : Int), vI ((s : Nat) : Int), vU, vU, vU, vU, vU]) ⟨Or.inr rfl, Or.inr rfl, Or.inr rfl, Or.inr rfl, Or.inr (congrArg vI (by rw [hse])), Or.inr rfl, Or.inr rfl, Or.inr rfl, Or.inl rfl, Or.inl rfl, Or.inl rfl, Or.inl rfl, Or.inl rfl, trivial⟩ ?_
        refine WP.fgt (lt := [vR 42, vI ((t : Nat) : Int), vI ((k : Nat) : Int), vI ((cn (ubs n k sz ce t) (2 ^ k) : Nat) : Int), vI (fi (ubs n k sz ce t) (2 ^ k) 0), vI ((gts n k sz ce t (2 ^ k) : Nat) : Int), vI ((lsL n k sz ce t s : Nat) : Int), vI ((s : Nat) : Int), vU, vU, vU, vU, vU]) ⟨Or.inr rfl, Or.inr rfl, Or.inr rfl, Or.inr rfl, Or.inr rfl, Or.inr (congrArg vI (by rw [hse])), Or.inr rfl, Or.inr rfl, Or.inl rfl, Or.inl rfl, Or.inl rfl, Or.inl rfl, Or.inl rfl, trivial⟩ ?_
        refine WP.fgt (lt := [vR 42, vI ((t : Nat) : Int), vI ((k : Nat) : Int), vI ((cn (ubs n k sz ce t) (2 ^ k) : Nat) : Int), vI (fi (ubs n k sz ce t) (2 ^ k) 0), vI ((gts n k sz ce t (2 ^ k) : Nat) : Int), vI ((lss n k sz ce t (2 ^ k) : Nat) : Int), vI ((s : Nat) : Int), vU, vU, vU, vU, vU]) ⟨Or.inr rfl, Or.inr rfl, Or.inr rfl, Or.inr rfl, Or.inr rfl, Or.inr rfl, Or.inr (congrArg vI (by rw [hse, w4])), Or.inr rfl, Or.inl rfl, Or.inl rfl, Or.inl rfl, Or.inl rfl, Or.inl rfl, trivial⟩ ?_
        rw [hse] at u1 u2 u3 u4
        rw [w4] at u4
        refine WP.aload_n dL_isAudited_209 rfl ?_
        refine WP.iload_n dL_isAudited_210 rfl ?_
        refine WP.iconst dL_isAudited_211 ?_
        refine WP.callV (as := [vI ((t : Nat) : Int), vI (0 : Int)]) dL_isAudited_212 mv_L_75 rfl (rfl) (by decide) rfl rfl (z_audit0 (t := t) hA1 ht) rfl (Nat.le_of_ble_eq_true rfl) (by omega) (fun r9 N0 h9 => ?_)
        obtain ⟨rfl, hB0⟩ := h9
        show WP sc0 41 m_L_isAudited 215 [vR 42, vI ((t : Nat) : Int), vI ((k : Nat) : Int), vI ((cn (ubs n k sz ce t) (2 ^ k) : Nat) : Int), vI (fi (ubs n k sz ce t) (2 ^ k) 0), vI ((gts n k sz ce t (2 ^ k) : Nat) : Int), vI ((lss n k sz ce t (2 ^ k) : Nat) : Int), vI ((s : Nat) : Int), vU, vU, vU, vU, vU] [vI ((cn (ubs n k sz ce t) (2 ^ k) : Nat) : Int)] N0 (PX M ((1 : Int), (mkS n k sz ce h hs im len tx)))
        refine WP.iload_n dL_isAudited_215 rfl ?_
        refine WP.icmp_ne (tgt := 256) dL_isAudited_216 (by decide) (by omega) (by omega) (fun h216 => ?_) (fun h216 => ?_)
        · skip
          exfalso
          omega
        · skip
          refine WP.aload_n dL_isAudited_219 rfl ?_
          refine WP.iload_n dL_isAudited_220 rfl ?_
          refine WP.iconst dL_isAudited_221 ?_
          refine WP.callV (as := [vI ((t : Nat) : Int), vI (1 : Int)]) dL_isAudited_222 mv_L_75 rfl (rfl) (by decide) rfl rfl (z_audit1 (t := t) hB0 ht) rfl (Nat.le_of_ble_eq_true rfl) (by omega) (fun r9 N1 h9 => ?_)
          obtain ⟨rfl, hB1⟩ := h9
          show WP sc0 41 m_L_isAudited 225 [vR 42, vI ((t : Nat) : Int), vI ((k : Nat) : Int), vI ((cn (ubs n k sz ce t) (2 ^ k) : Nat) : Int), vI (fi (ubs n k sz ce t) (2 ^ k) 0), vI ((gts n k sz ce t (2 ^ k) : Nat) : Int), vI ((lss n k sz ce t (2 ^ k) : Nat) : Int), vI ((s : Nat) : Int), vU, vU, vU, vU, vU] [vI (fi (ubs n k sz ce t) (2 ^ k) 0)] N1 (PX M ((1 : Int), (mkS n k sz ce h hs im len tx)))
          refine WP.iload dL_isAudited_225 rfl ?_
          refine WP.icmp_ne (tgt := 256) dL_isAudited_227 (by decide) (by omega) (by omega) (fun h227 => ?_) (fun h227 => ?_)
          · skip
            exfalso
            omega
          · skip
            refine WP.aload_n dL_isAudited_230 rfl ?_
            refine WP.iload_n dL_isAudited_231 rfl ?_
            refine WP.iconst dL_isAudited_232 ?_
            refine WP.callV (as := [vI ((t : Nat) : Int), vI (2 : Int)]) dL_isAudited_233 mv_L_75 rfl (rfl) (by decide) rfl rfl (z_audit2 (t := t) hB1 ht) rfl (Nat.le_of_ble_eq_true rfl) (by omega) (fun r9 N2 h9 => ?_)
            obtain ⟨rfl, hB2⟩ := h9
            show WP sc0 41 m_L_isAudited 236 [vR 42, vI ((t : Nat) : Int), vI ((k : Nat) : Int), vI ((cn (ubs n k sz ce t) (2 ^ k) : Nat) : Int), vI (fi (ubs n k sz ce t) (2 ^ k) 0), vI ((gts n k sz ce t (2 ^ k) : Nat) : Int), vI ((lss n k sz ce t (2 ^ k) : Nat) : Int), vI ((s : Nat) : Int), vU, vU, vU, vU, vU] [vI ((gts n k sz ce t (2 ^ k) : Nat) : Int)] N2 (PX M ((1 : Int), (mkS n k sz ce h hs im len tx)))
            refine WP.iload dL_isAudited_236 rfl ?_
            refine WP.icmp_ne (tgt := 256) dL_isAudited_238 (by decide) (by omega) (by omega) (fun h238 => ?_) (fun h238 => ?_)
            · skip
              exfalso
              omega
            · skip
              refine WP.aload_n dL_isAudited_241 rfl ?_
              refine WP.iload_n dL_isAudited_242 rfl ?_
              refine WP.iconst dL_isAudited_243 ?_
              refine WP.callV (as := [vI ((t : Nat) : Int), vI (3 : Int)]) dL_isAudited_244 mv_L_75 rfl (rfl) (by decide) rfl rfl (z_audit3 (t := t) hB2 ht) rfl (Nat.le_of_ble_eq_true rfl) (by omega) (fun r9 N3 h9 => ?_)
              obtain ⟨rfl, hB3⟩ := h9
              show WP sc0 41 m_L_isAudited 247 [vR 42, vI ((t : Nat) : Int), vI ((k : Nat) : Int), vI ((cn (ubs n k sz ce t) (2 ^ k) : Nat) : Int), vI (fi (ubs n k sz ce t) (2 ^ k) 0), vI ((gts n k sz ce t (2 ^ k) : Nat) : Int), vI ((lss n k sz ce t (2 ^ k) : Nat) : Int), vI ((s : Nat) : Int), vU, vU, vU, vU, vU] [vI ((lss n k sz ce t (2 ^ k) : Nat) : Int)] N3 (PX M ((1 : Int), (mkS n k sz ce h hs im len tx)))
              refine WP.iload dL_isAudited_247 rfl ?_
              refine WP.icmp_ne (tgt := 256) dL_isAudited_249 (by decide) (by omega) (by omega) (fun h249 => ?_) (fun h249 => ?_)
              · skip
                exfalso
                omega
              · skip
                refine WP.iconst dL_isAudited_252 ?_
                refine WP.goto (tgt := 257) dL_isAudited_253 (by decide) ?_
                refine WP.zret dL_isAudited_257 rfl (by decide) ?_
                exact ⟨rfl, hB3⟩
      · skip
        have hs2 : s < 2 ^ k := by omega
        refine WP.iload dL_isAudited_30 rfl ?_
        refine WP.callSp (as := [vI ((s : Nat) : Int)]) dL_isAudited_32 ms_L_69 rfl (c_L_size (set := s) (by omega)) rfl (Nat.le_of_ble_eq_true rfl) (by omega) ?_
        refine WP.iload_n dL_isAudited_35 rfl ?_
        refine WP.icmp_ne (tgt := 203) dL_isAudited_36 (by decide) (by have := cn_le (mk s) 12; rw [← popn_cn] at this; omega) (by omega) (fun h36 => ?_) (fun h36 => ?_)
        · skip
          have hpt : popn 12 s ≠ t := by omega
          refine WP.iinc (lt := [vR 42, vI ((t : Nat) : Int), vI ((k : Nat) : Int), vI ((cn (ubs n k sz ce t) s : Nat) : Int), vI (fi (ubs n k sz ce t) s 0), vI ((gts n k sz ce t s : Nat) : Int), vI ((lsL n k sz ce t s : Nat) : Int), vI (((s : Nat) : Int) + 1), vU, vU, vU, vU, vU]) dL_isAudited_203 rfl (by decide) rfl ?_
          refine WP.goto (tgt := 22) dL_isAudited_206 (by decide) ?_
          refine WP.fgt (lt := [vR 42, vI ((t : Nat) : Int), vI ((k : Nat) : Int), vI ((cn (ubs n k sz ce t) (s + 1) : Nat) : Int), vI (fi (ubs n k sz ce t) (s + 1) 0), vI ((gts n k sz ce t (s + 1) : Nat) : Int), vI ((lsL n k sz ce t (s + 1) : Nat) : Int), vI (((s + 1) : Nat) : Int), vU, vU, vU, vU, vU]) ⟨Or.inr rfl, Or.inr rfl, Or.inr rfl, Or.inr (congrArg vI (by rw [cn_f (ub_f hpt)])), Or.inr (congrArg vI (fi_no (ub_f hpt))), Or.inr (congrArg vI (by rw [gts_f hpt])), Or.inr (congrArg vI (by rw [lsL_f hpt])), Or.inr (congrArg vI (by omega)), Or.inl rfl, Or.inl rfl, Or.inl rfl, Or.inl rfl, Or.inl rfl, trivial⟩ ?_
          exact ih22 (s + 1) (M1) (by omega) (hA1) (by omega)
        · skip
          have hpt : popn 12 s = t := by omega
          have hb := tps_b (sz := sz) (set := s) b2 (fun c hc => (hW.2.2.1 c hc).2)
          have hT0 := tps_pos (sz := sz) (set := s) (k := k) (fun c hc => (hW.2.2.1 c hc).1)
          refine WP.iconst dL_isAudited_39 ?_
          refine WP.istore (lt := [vR 42, vI ((t : Nat) : Int), vI ((k : Nat) : Int), vI ((cn (ubs n k sz ce t) s : Nat) : Int), vI (fi (ubs n k sz ce t) s 0), vI ((gts n k sz ce t s : Nat) : Int), vI ((lsL n k sz ce t s : Nat) : Int), vI ((s : Nat) : Int), vI (0 : Int), vU, vU, vU, vU]) dL_isAudited_40 (by decide) rfl ?_
          refine WP.iconst dL_isAudited_42 ?_
          refine WP.istore (lt := [vR 42, vI ((t : Nat) : Int), vI ((k : Nat) : Int), vI ((cn (ubs n k sz ce t) s : Nat) : Int), vI (fi (ubs n k sz ce t) s 0), vI ((gts n k sz ce t s : Nat) : Int), vI ((lsL n k sz ce t s : Nat) : Int), vI ((s : Nat) : Int), vI (0 : Int), vI (0 : Int), vU, vU, vU]) dL_isAudited_43 (by decide) rfl ?_
          refine WP.bipush dL_isAudited_45 (by decide) ?_
          refine WP.istore (lt := [vR 42, vI ((t : Nat) : Int), vI ((k : Nat) : Int), vI ((cn (ubs n k sz ce t) s : Nat) : Int), vI (fi (ubs n k sz ce t) s 0), vI ((gts n k sz ce t s : Nat) : Int), vI ((lsL n k sz ce t s : Nat) : Int), vI ((s : Nat) : Int), vI (0 : Int), vI (0 : Int), vI (36 : Int), vU, vU]) dL_isAudited_47 (by decide) rfl ?_
          refine WP.iconst dL_isAudited_49 ?_
          refine WP.istore (lt := [vR 42, vI ((t : Nat) : Int), vI ((k : Nat) : Int), vI ((cn (ubs n k sz ce t) s : Nat) : Int), vI (fi (ubs n k sz ce t) s 0), vI ((gts n k sz ce t s : Nat) : Int), vI ((lsL n k sz ce t s : Nat) : Int), vI ((s : Nat) : Int), vI (0 : Int), vI (0 : Int), vI (36 : Int), vI (0 : Int), vU]) dL_isAudited_50 (by decide) rfl ?_
          have L52 : ∀ (n9 : Nat) (y : Nat) (M2 : Mem) (hy : y ≤ (tps sz s k)) (hA2 : AT M (mkS n k sz ce h hs im len tx) M2), (tps sz s k) - y < n9 → WP sc0 41 m_L_isAudited 52 [vR 42, vI ((t : Nat) : Int), vI ((k : Nat) : Int), vI ((cn (ubs n k sz ce t) s : Nat) : Int), vI (fi (ubs n k sz ce t) s 0), vI ((gts n k sz ce t s : Nat) : Int), vI ((lsL n k sz ce t s : Nat) : Int), vI ((s : Nat) : Int), vI ((sm (ctA n k sz ce s) y : Nat) : Int), vI ((mxv (ctA n k sz ce s) y : Nat) : Int), vI ((mnv (ctA n k sz ce s) 36 y : Nat) : Int), vI ((y : Nat) : Int), vU] [] M2 (PX M ((1 : Int), (mkS n k sz ce h hs im len tx))) := by
            intro n9
            induction n9 with
            | zero =>
              intro y M2 hy hA2 hm9
              exact absurd hm9 (Nat.not_lt_zero _)
            | succ n9 ih52 =>
              intro y M2 hy hA2 hm9
              have v1 := cntv_rng (n := n) (k := k) (s := s) (y := y) (sz := sz) (ce := ce) b1
              have v2 := f_le (n := n) (k := k) (sz := sz) (ce := ce) (set := s) (v := y)
              have v3 : mxv (ctA n k sz ce s) y ≤ n := mxv_le (fun v _ => f_le)
              have v4 : mnv (ctA n k sz ce s) 36 y ≤ 36 := mnv_lea
              have v5 := sm_le2 (ctA n k sz ce s) hy
              have v6 := f_sum hW s
              refine WP.aload_n dL_isAudited_52 rfl ?_
              refine WP.iload dL_isAudited_53 rfl ?_
              refine WP.iload dL_isAudited_55 rfl ?_
              refine WP.callV (as := [vI ((s : Nat) : Int), vI ((y : Nat) : Int)]) dL_isAudited_57 mv_L_72 rfl (rfl) (by decide) rfl rfl (z_count_v (s := s) (y := y) hA2 hs2 (by omega)) rfl (Nat.le_of_ble_eq_true rfl) (by omega) (fun r9 M4 h9 => ?_)
              obtain ⟨rfl, hA4⟩ := h9
              show WP sc0 41 m_L_isAudited 60 [vR 42, vI ((t : Nat) : Int), vI ((k : Nat) : Int), vI ((cn (ubs n k sz ce t) s : Nat) : Int), vI (fi (ubs n k sz ce t) s 0), vI ((gts n k sz ce t s : Nat) : Int), vI ((lsL n k sz ce t s : Nat) : Int), vI ((s : Nat) : Int), vI ((sm (ctA n k sz ce s) y : Nat) : Int), vI ((mxv (ctA n k sz ce s) y : Nat) : Int), vI ((mnv (ctA n k sz ce s) 36 y : Nat) : Int), vI ((y : Nat) : Int), vU] [vI (cntv n k sz ce s y)] M4 (PX M ((1 : Int), (mkS n k sz ce h hs im len tx)))
              refine WP.if_lt (tgt := 121) dL_isAudited_60 (by decide) (by omega) (fun h60 => ?_) (fun h60 => ?_)
              · skip
                have hy2 := cntv_lt h60
                have hyT : y = (tps sz s k) := by omega
                refine WP.fgt (lt := [vR 42, vI ((t : Nat) : Int), vI ((k : Nat) : Int), vI ((cn (ubs n k sz ce t) s : Nat) : Int), vI (fi (ubs n k sz ce t) s 0), vI ((gts n k sz ce t s : Nat) : Int), vI ((lsL n k sz ce t s : Nat) : Int), vI ((s : Nat) : Int), vI ((n : Nat) : Int), vI ((mxv (ctA n k sz ce s) y : Nat) : Int), vI ((mnv (ctA n k sz ce s) 36 y : Nat) : Int), vI ((y : Nat) : Int), vU]) ⟨Or.inr rfl, Or.inr rfl, Or.inr rfl, Or.inr rfl, Or.inr rfl, Or.inr rfl, Or.inr rfl, Or.inr rfl, Or.inr (congrArg vI (by rw [hyT, v6])), Or.inr rfl, Or.inr rfl, Or.inr rfl, Or.inl rfl, trivial⟩ ?_
                refine WP.fgt (lt := [vR 42, vI ((t : Nat) : Int), vI ((k : Nat) : Int), vI ((cn (ubs n k sz ce t) s : Nat) : Int), vI (fi (ubs n k sz ce t) s 0), vI ((gts n k sz ce t s : Nat) : Int), vI ((lsL n k sz ce t s : Nat) : Int), vI ((s : Nat) : Int), vI ((n : Nat) : Int), vI ((mxv (ctA n k sz ce s) (tps sz s k) : Nat) : Int), vI ((mnv (ctA n k sz ce s) 36 y : Nat) : Int), vI ((y : Nat) : Int), vU]) ⟨Or.inr rfl, Or.inr rfl, Or.inr rfl, Or.inr rfl, Or.inr rfl, Or.inr rfl, Or.inr rfl, Or.inr rfl, Or.inr rfl, Or.inr (congrArg vI (by rw [hyT])), Or.inr rfl, Or.inr rfl, Or.inl rfl, trivial⟩ ?_
                refine WP.fgt (lt := [vR 42, vI ((t : Nat) : Int), vI ((k : Nat) : Int), vI ((cn (ubs n k sz ce t) s : Nat) : Int), vI (fi (ubs n k sz ce t) s 0), vI ((gts n k sz ce t s : Nat) : Int), vI ((lsL n k sz ce t s : Nat) : Int), vI ((s : Nat) : Int), vI ((n : Nat) : Int), vI ((mxv (ctA n k sz ce s) (tps sz s k) : Nat) : Int), vI ((mnv (ctA n k sz ce s) 36 (tps sz s k) : Nat) : Int), vI ((y : Nat) : Int), vU]) ⟨Or.inr rfl, Or.inr rfl, Or.inr rfl, Or.inr rfl, Or.inr rfl, Or.inr rfl, Or.inr rfl, Or.inr rfl, Or.inr rfl, Or.inr rfl, Or.inr (congrArg vI (by rw [hyT])), Or.inr rfl, Or.inl rfl, trivial⟩ ?_
                rw [hyT] at v3 v4
                refine WP.iload dL_isAudited_121 rfl ?_
                refine WP.aload_n dL_isAudited_123 rfl ?_
                refine WP.iconst dL_isAudited_124 ?_
                refine WP.callV (as := [vI (0 : Int)]) dL_isAudited_125 mv_L_9 rfl (rfl) (by decide) rfl rfl (z_told0 hA4) rfl (Nat.le_of_ble_eq_true rfl) (by omega) (fun r9 M6 h9 => ?_)
                obtain ⟨rfl, hA6⟩ := h9
                show WP sc0 41 m_L_isAudited 128 [vR 42, vI ((t : Nat) : Int), vI ((k : Nat) : Int), vI ((cn (ubs n k sz ce t) s : Nat) : Int), vI (fi (ubs n k sz ce t) s 0), vI ((gts n k sz ce t s : Nat) : Int), vI ((lsL n k sz ce t s : Nat) : Int), vI ((s : Nat) : Int), vI ((n : Nat) : Int), vI ((mxv (ctA n k sz ce s) (tps sz s k) : Nat) : Int), vI ((mnv (ctA n k sz ce s) 36 (tps sz s k) : Nat) : Int), vI ((y : Nat) : Int), vU] [vI ((n : Nat) : Int), vI ((n : Nat) : Int)] M6 (PX M ((1 : Int), (mkS n k sz ce h hs im len tx)))
                refine WP.icmp_eq (tgt := 133) dL_isAudited_128 (by decide) (by omega) (by omega) (fun h128 => ?_) (fun h128 => ?_)
                · skip
                  refine WP.iload dL_isAudited_133 rfl ?_
                  refine WP.iload dL_isAudited_135 rfl ?_
                  refine WP.icmp_ne (tgt := 144) dL_isAudited_137 (by decide) (by omega) (by omega) (fun h137 => ?_) (fun h137 => ?_)
                  · skip
                    have hub : ubs n k sz ce t s := ⟨hpt, fun z => h137 (congrArg Int.ofNat ((ext_bal hW).mpr z))⟩
                    refine WP.iload_n dL_isAudited_144 rfl ?_
                    refine WP.iconst dL_isAudited_145 ?_
                    refine WP.iadd dL_isAudited_146 ?_
                    refine WP.istore_n (lt := [vR 42, vI ((t : Nat) : Int), vI ((k : Nat) : Int), vI (((cn (ubs n k sz ce t) s : Nat) : Int) + (1 : Int)), vI (fi (ubs n k sz ce t) s 0), vI ((gts n k sz ce t s : Nat) : Int), vI ((lsL n k sz ce t s : Nat) : Int), vI ((s : Nat) : Int), vI ((n : Nat) : Int), vI ((mxv (ctA n k sz ce s) (tps sz s k) : Nat) : Int), vI ((mnv (ctA n k sz ce s) 36 (tps sz s k) : Nat) : Int), vI ((y : Nat) : Int), vU]) dL_isAudited_147 (by decide) rfl ?_
                    refine WP.iload dL_isAudited_148 rfl ?_
                    refine WP.iload dL_isAudited_150 rfl ?_
                    refine WP.icmp_eq (tgt := 167) dL_isAudited_152 (by decide) (by omega) (by omega) (fun h152 => ?_) (fun h152 => ?_)
                    · skip
                      exfalso
                      omega
                    · skip
                      refine WP.iload dL_isAudited_155 rfl ?_
                      refine WP.bipush dL_isAudited_157 (by decide) ?_
                      refine WP.icmp_ne (tgt := 167) dL_isAudited_159 (by decide) (by omega) (by omega) (fun h159 => ?_) (fun h159 => ?_)
                      · skip
                        refine WP.iload dL_isAudited_167 rfl ?_
                        refine WP.istore (lt := [vR 42, vI ((t : Nat) : Int), vI ((k : Nat) : Int), vI (((cn (ubs n k sz ce t) s : Nat) : Int) + (1 : Int)), vI (fi (ubs n k sz ce t) s 0), vI ((gts n k sz ce t s : Nat) : Int), vI ((lsL n k sz ce t s : Nat) : Int), vI ((s : Nat) : Int), vI ((n : Nat) : Int), vI ((mxv (ctA n k sz ce s) (tps sz s k) : Nat) : Int), vI ((mnv (ctA n k sz ce s) 36 (tps sz s k) : Nat) : Int), vI ((y : Nat) : Int), vU]) dL_isAudited_169 (by decide) rfl ?_
                        refine WP.iload dL_isAudited_171 rfl ?_
                        refine WP.iload dL_isAudited_173 rfl ?_
                        refine WP.icmp_le (tgt := 183) dL_isAudited_175 (by decide) (by omega) (by omega) (fun h175 => ?_) (fun h175 => ?_)
                        · skip
                          refine WP.iload dL_isAudited_183 rfl ?_
                          refine WP.istore (lt := [vR 42, vI ((t : Nat) : Int), vI ((k : Nat) : Int), vI (((cn (ubs n k sz ce t) s : Nat) : Int) + (1 : Int)), vI (fi (ubs n k sz ce t) s 0), vI ((gts n k sz ce t s : Nat) : Int), vI ((lsL n k sz ce t s : Nat) : Int), vI ((s : Nat) : Int), vI ((n : Nat) : Int), vI ((mxv (ctA n k sz ce s) (tps sz s k) : Nat) : Int), vI ((mnv (ctA n k sz ce s) 36 (tps sz s k) : Nat) : Int), vI ((y : Nat) : Int), vU]) dL_isAudited_185 (by decide) rfl ?_
                          refine WP.iload dL_isAudited_187 rfl ?_
                          refine WP.iload dL_isAudited_189 rfl ?_
                          refine WP.icmp_ge (tgt := 199) dL_isAudited_191 (by decide) (by omega) (by omega) (fun h191 => ?_) (fun h191 => ?_)
                          · skip
                            refine WP.iload dL_isAudited_199 rfl ?_
                            refine WP.istore (lt := [vR 42, vI ((t : Nat) : Int), vI ((k : Nat) : Int), vI (((cn (ubs n k sz ce t) s : Nat) : Int) + (1 : Int)), vI (fi (ubs n k sz ce t) s 0), vI ((gts n k sz ce t s : Nat) : Int), vI ((lsL n k sz ce t s : Nat) : Int), vI ((s : Nat) : Int), vI ((n : Nat) : Int), vI ((mxv (ctA n k sz ce s) (tps sz s k) : Nat) : Int), vI ((mnv (ctA n k sz ce s) 36 (tps sz s k) : Nat) : Int), vI ((y : Nat) : Int), vU]) dL_isAudited_201 (by decide) rfl ?_
                            refine WP.iinc (lt := [vR 42, vI ((t : Nat) : Int), vI ((k : Nat) : Int), vI (((cn (ubs n k sz ce t) s : Nat) : Int) + (1 : Int)), vI (fi (ubs n k sz ce t) s 0), vI ((gts n k sz ce t s : Nat) : Int), vI ((lsL n k sz ce t s : Nat) : Int), vI (((s : Nat) : Int) + 1), vI ((n : Nat) : Int), vI ((mxv (ctA n k sz ce s) (tps sz s k) : Nat) : Int), vI ((mnv (ctA n k sz ce s) 36 (tps sz s k) : Nat) : Int), vI ((y : Nat) : Int), vU]) dL_isAudited_203 rfl (by decide) rfl ?_
                            refine WP.goto (tgt := 22) dL_isAudited_206 (by decide) ?_
                            refine WP.fgt (lt := [vR 42, vI ((t : Nat) : Int), vI ((k : Nat) : Int), vI ((cn (ubs n k sz ce t) (s + 1) : Nat) : Int), vI (fi (ubs n k sz ce t) (s + 1) 0), vI ((gts n k sz ce t (s + 1) : Nat) : Int), vI ((lsL n k sz ce t (s + 1) : Nat) : Int), vI (((s + 1) : Nat) : Int), vU, vU, vU, vU, vU]) ⟨Or.inr rfl, Or.inr rfl, Or.inr rfl, Or.inr (congrArg vI (by rw [cn_t hub]; omega)), Or.inr (congrArg vI (fi_2 h159)), Or.inr (congrArg vI (by rw [gts_t hpt]; omega)), Or.inr (congrArg vI (by rw [lsL_t hpt]; omega)), Or.inr (congrArg vI (by omega)), Or.inl rfl, Or.inl rfl, Or.inl rfl, Or.inl rfl, Or.inl rfl, trivial⟩ ?_
                            exact ih22 (s + 1) (M6) (by omega) (hA6) (by omega)
                          · skip
                            refine WP.iload dL_isAudited_194 rfl ?_
                            refine WP.goto (tgt := 201) dL_isAudited_196 (by decide) ?_
                            refine WP.istore (lt := [vR 42, vI ((t : Nat) : Int), vI ((k : Nat) : Int), vI (((cn (ubs n k sz ce t) s : Nat) : Int) + (1 : Int)), vI (fi (ubs n k sz ce t) s 0), vI ((gts n k sz ce t s : Nat) : Int), vI ((mnv (ctA n k sz ce s) 36 (tps sz s k) : Nat) : Int), vI ((s : Nat) : Int), vI ((n : Nat) : Int), vI ((mxv (ctA n k sz ce s) (tps sz s k) : Nat) : Int), vI ((mnv (ctA n k sz ce s) 36 (tps sz s k) : Nat) : Int), vI ((y : Nat) : Int), vU]) dL_isAudited_201 (by decide) rfl ?_
                            refine WP.iinc (lt := [vR 42, vI ((t : Nat) : Int), vI ((k : Nat) : Int), vI (((cn (ubs n k sz ce t) s : Nat) : Int) + (1 : Int)), vI (fi (ubs n k sz ce t) s 0), vI ((gts n k sz ce t s : Nat) : Int), vI ((mnv (ctA n k sz ce s) 36 (tps sz s k) : Nat) : Int), vI (((s : Nat) : Int) + 1), vI ((n : Nat) : Int), vI ((mxv (ctA n k sz ce s) (tps sz s k) : Nat) : Int), vI ((mnv (ctA n k sz ce s) 36 (tps sz s k) : Nat) : Int), vI ((y : Nat) : Int), vU]) dL_isAudited_203 rfl (by decide) rfl ?_
                            refine WP.goto (tgt := 22) dL_isAudited_206 (by decide) ?_
                            refine WP.fgt (lt := [vR 42, vI ((t : Nat) : Int), vI ((k : Nat) : Int), vI ((cn (ubs n k sz ce t) (s + 1) : Nat) : Int), vI (fi (ubs n k sz ce t) (s + 1) 0), vI ((gts n k sz ce t (s + 1) : Nat) : Int), vI ((lsL n k sz ce t (s + 1) : Nat) : Int), vI (((s + 1) : Nat) : Int), vU, vU, vU, vU, vU]) ⟨Or.inr rfl, Or.inr rfl, Or.inr rfl, Or.inr (congrArg vI (by rw [cn_t hub]; omega)), Or.inr (congrArg vI (fi_2 h159)), Or.inr (congrArg vI (by rw [gts_t hpt]; omega)), Or.inr (congrArg vI (by rw [lsL_t hpt]; omega)), Or.inr (congrArg vI (by omega)), Or.inl rfl, Or.inl rfl, Or.inl rfl, Or.inl rfl, Or.inl rfl, trivial⟩ ?_
                            exact ih22 (s + 1) (M6) (by omega) (hA6) (by omega)
                        · skip
                          refine WP.iload dL_isAudited_178 rfl ?_
                          refine WP.goto (tgt := 185) dL_isAudited_180 (by decide) ?_
                          refine WP.istore (lt := [vR 42, vI ((t : Nat) : Int), vI ((k : Nat) : Int), vI (((cn (ubs n k sz ce t) s : Nat) : Int) + (1 : Int)), vI (fi (ubs n k sz ce t) s 0), vI ((mxv (ctA n k sz ce s) (tps sz s k) : Nat) : Int), vI ((lsL n k sz ce t s : Nat) : Int), vI ((s : Nat) : Int), vI ((n : Nat) : Int), vI ((mxv (ctA n k sz ce s) (tps sz s k) : Nat) : Int), vI ((mnv (ctA n k sz ce s) 36 (tps sz s k) : Nat) : Int), vI ((y : Nat) : Int), vU]) dL_isAudited_185 (by decide) rfl ?_
                          refine WP.iload dL_isAudited_187 rfl ?_
                          refine WP.iload dL_isAudited_189 rfl ?_
                          refine WP.icmp_ge (tgt := 199) dL_isAudited_191 (by decide) (by omega) (by omega) (fun h191 => ?_) (fun h191 => ?_)
                          · skip
                            refine WP.iload dL_isAudited_199 rfl ?_
                            refine WP.istore (lt := [vR 42, vI ((t : Nat) : Int), vI ((k : Nat) : Int), vI (((cn (ubs n k sz ce t) s : Nat) : Int) + (1 : Int)), vI (fi (ubs n k sz ce t) s 0), vI ((mxv (ctA n k sz ce s) (tps sz s k) : Nat) : Int), vI ((lsL n k sz ce t s : Nat) : Int), vI ((s : Nat) : Int), vI ((n : Nat) : Int), vI ((mxv (ctA n k sz ce s) (tps sz s k) : Nat) : Int), vI ((mnv (ctA n k sz ce s) 36 (tps sz s k) : Nat) : Int), vI ((y : Nat) : Int), vU]) dL_isAudited_201 (by decide) rfl ?_
                            refine WP.iinc (lt := [vR 42, vI ((t : Nat) : Int), vI ((k : Nat) : Int), vI (((cn (ubs n k sz ce t) s : Nat) : Int) + (1 : Int)), vI (fi (ubs n k sz ce t) s 0), vI ((mxv (ctA n k sz ce s) (tps sz s k) : Nat) : Int), vI ((lsL n k sz ce t s : Nat) : Int), vI (((s : Nat) : Int) + 1), vI ((n : Nat) : Int), vI ((mxv (ctA n k sz ce s) (tps sz s k) : Nat) : Int), vI ((mnv (ctA n k sz ce s) 36 (tps sz s k) : Nat) : Int), vI ((y : Nat) : Int), vU]) dL_isAudited_203 rfl (by decide) rfl ?_
                            refine WP.goto (tgt := 22) dL_isAudited_206 (by decide) ?_
                            refine WP.fgt (lt := [vR 42, vI ((t : Nat) : Int), vI ((k : Nat) : Int), vI ((cn (ubs n k sz ce t) (s + 1) : Nat) : Int), vI (fi (ubs n k sz ce t) (s + 1) 0), vI ((gts n k sz ce t (s + 1) : Nat) : Int), vI ((lsL n k sz ce t (s + 1) : Nat) : Int), vI (((s + 1) : Nat) : Int), vU, vU, vU, vU, vU]) ⟨Or.inr rfl, Or.inr rfl, Or.inr rfl, Or.inr (congrArg vI (by rw [cn_t hub]; omega)), Or.inr (congrArg vI (fi_2 h159)), Or.inr (congrArg vI (by rw [gts_t hpt]; omega)), Or.inr (congrArg vI (by rw [lsL_t hpt]; omega)), Or.inr (congrArg vI (by omega)), Or.inl rfl, Or.inl rfl, Or.inl rfl, Or.inl rfl, Or.inl rfl, trivial⟩ ?_
                            exact ih22 (s + 1) (M6) (by omega) (hA6) (by omega)
                          · skip
                            refine WP.iload dL_isAudited_194 rfl ?_
                            refine WP.goto (tgt := 201) dL_isAudited_196 (by decide) ?_
                            refine WP.istore (lt := [vR 42, vI ((t : Nat) : Int), vI ((k : Nat) : Int), vI (((cn (ubs n k sz ce t) s : Nat) : Int) + (1 : Int)), vI (fi (ubs n k sz ce t) s 0), vI ((mxv (ctA n k sz ce s) (tps sz s k) : Nat) : Int), vI ((mnv (ctA n k sz ce s) 36 (tps sz s k) : Nat) : Int), vI ((s : Nat) : Int), vI ((n : Nat) : Int), vI ((mxv (ctA n k sz ce s) (tps sz s k) : Nat) : Int), vI ((mnv (ctA n k sz ce s) 36 (tps sz s k) : Nat) : Int), vI ((y : Nat) : Int), vU]) dL_isAudited_201 (by decide) rfl ?_
                            refine WP.iinc (lt := [vR 42, vI ((t : Nat) : Int), vI ((k : Nat) : Int), vI (((cn (ubs n k sz ce t) s : Nat) : Int) + (1 : Int)), vI (fi (ubs n k sz ce t) s 0), vI ((mxv (ctA n k sz ce s) (tps sz s k) : Nat) : Int), vI ((mnv (ctA n k sz ce s) 36 (tps sz s k) : Nat) : Int), vI (((s : Nat) : Int) + 1), vI ((n : Nat) : Int), vI ((mxv (ctA n k sz ce s) (tps sz s k) : Nat) : Int), vI ((mnv (ctA n k sz ce s) 36 (tps sz s k) : Nat) : Int), vI ((y : Nat) : Int), vU]) dL_isAudited_203 rfl (by decide) rfl ?_
                            refine WP.goto (tgt := 22) dL_isAudited_206 (by decide) ?_
                            refine WP.fgt (lt := [vR 42, vI ((t : Nat) : Int), vI ((k : Nat) : Int), vI ((cn (ubs n k sz ce t) (s + 1) : Nat) : Int), vI (fi (ubs n k sz ce t) (s + 1) 0), vI ((gts n k sz ce t (s + 1) : Nat) : Int), vI ((lsL n k sz ce t (s + 1) : Nat) : Int), vI (((s + 1) : Nat) : Int), vU, vU, vU, vU, vU]) ⟨Or.inr rfl, Or.inr rfl, Or.inr rfl, Or.inr (congrArg vI (by rw [cn_t hub]; omega)), Or.inr (congrArg vI (fi_2 h159)), Or.inr (congrArg vI (by rw [gts_t hpt]; omega)), Or.inr (congrArg vI (by rw [lsL_t hpt]; omega)), Or.inr (congrArg vI (by omega)), Or.inl rfl, Or.inl rfl, Or.inl rfl, Or.inl rfl, Or.inl rfl, trivial⟩ ?_
                            exact ih22 (s + 1) (M6) (by omega) (hA6) (by omega)
                      · skip
                        refine WP.iload dL_isAudited_162 rfl ?_
                        refine WP.goto (tgt := 169) dL_isAudited_164 (by decide) ?_
                        refine WP.istore (lt := [vR 42, vI ((t : Nat) : Int), vI ((k : Nat) : Int), vI (((cn (ubs n k sz ce t) s : Nat) : Int) + (1 : Int)), vI ((s : Nat) : Int), vI ((gts n k sz ce t s : Nat) : Int), vI ((lsL n k sz ce t s : Nat) : Int), vI ((s : Nat) : Int), vI ((n : Nat) : Int), vI ((mxv (ctA n k sz ce s) (tps sz s k) : Nat) : Int), vI ((mnv (ctA n k sz ce s) 36 (tps sz s k) : Nat) : Int), vI ((y : Nat) : Int), vU]) dL_isAudited_169 (by decide) rfl ?_
                        refine WP.iload dL_isAudited_171 rfl ?_
                        refine WP.iload dL_isAudited_173 rfl ?_
                        refine WP.icmp_le (tgt := 183) dL_isAudited_175 (by decide) (by omega) (by omega) (fun h175 => ?_) (fun h175 => ?_)
                        · skip
                          refine WP.iload dL_isAudited_183 rfl ?_
                          refine WP.istore (lt := [vR 42, vI ((t : Nat) : Int), vI ((k : Nat) : Int), vI (((cn (ubs n k sz ce t) s : Nat) : Int) + (1 : Int)), vI ((s : Nat) : Int), vI ((gts n k sz ce t s : Nat) : Int), vI ((lsL n k sz ce t s : Nat) : Int), vI ((s : Nat) : Int), vI ((n : Nat) : Int), vI ((mxv (ctA n k sz ce s) (tps sz s k) : Nat) : Int), vI ((mnv (ctA n k sz ce s) 36 (tps sz s k) : Nat) : Int), vI ((y : Nat) : Int), vU]) dL_isAudited_185 (by decide) rfl ?_
                          refine WP.iload dL_isAudited_187 rfl ?_
                          refine WP.iload dL_isAudited_189 rfl ?_
                          refine WP.icmp_ge (tgt := 199) dL_isAudited_191 (by decide) (by omega) (by omega) (fun h191 => ?_) (fun h191 => ?_)
                          · skip
                            refine WP.iload dL_isAudited_199 rfl ?_
                            refine WP.istore (lt := [vR 42, vI ((t : Nat) : Int), vI ((k : Nat) : Int), vI (((cn (ubs n k sz ce t) s : Nat) : Int) + (1 : Int)), vI ((s : Nat) : Int), vI ((gts n k sz ce t s : Nat) : Int), vI ((lsL n k sz ce t s : Nat) : Int), vI ((s : Nat) : Int), vI ((n : Nat) : Int), vI ((mxv (ctA n k sz ce s) (tps sz s k) : Nat) : Int), vI ((mnv (ctA n k sz ce s) 36 (tps sz s k) : Nat) : Int), vI ((y : Nat) : Int), vU]) dL_isAudited_201 (by decide) rfl ?_
                            refine WP.iinc (lt := [vR 42, vI ((t : Nat) : Int), vI ((k : Nat) : Int), vI (((cn (ubs n k sz ce t) s : Nat) : Int) + (1 : Int)), vI ((s : Nat) : Int), vI ((gts n k sz ce t s : Nat) : Int), vI ((lsL n k sz ce t s : Nat) : Int), vI (((s : Nat) : Int) + 1), vI ((n : Nat) : Int), vI ((mxv (ctA n k sz ce s) (tps sz s k) : Nat) : Int), vI ((mnv (ctA n k sz ce s) 36 (tps sz s k) : Nat) : Int), vI ((y : Nat) : Int), vU]) dL_isAudited_203 rfl (by decide) rfl ?_
                            refine WP.goto (tgt := 22) dL_isAudited_206 (by decide) ?_
                            refine WP.fgt (lt := [vR 42, vI ((t : Nat) : Int), vI ((k : Nat) : Int), vI ((cn (ubs n k sz ce t) (s + 1) : Nat) : Int), vI (fi (ubs n k sz ce t) (s + 1) 0), vI ((gts n k sz ce t (s + 1) : Nat) : Int), vI ((lsL n k sz ce t (s + 1) : Nat) : Int), vI (((s + 1) : Nat) : Int), vU, vU, vU, vU, vU]) ⟨Or.inr rfl, Or.inr rfl, Or.inr rfl, Or.inr (congrArg vI (by rw [cn_t hub]; omega)), Or.inr (congrArg vI (fi_1 hub h159)), Or.inr (congrArg vI (by rw [gts_t hpt]; omega)), Or.inr (congrArg vI (by rw [lsL_t hpt]; omega)), Or.inr (congrArg vI (by omega)), Or.inl rfl, Or.inl rfl, Or.inl rfl, Or.inl rfl, Or.inl rfl, trivial⟩ ?_
                            exact ih22 (s + 1) (M6) (by omega) (hA6) (by omega)
                          · skip
                            refine WP.iload dL_isAudited_194 rfl ?_
                            refine WP.goto (tgt := 201) dL_isAudited_196 (by decide) ?_
                            refine WP.istore (lt := [vR 42, vI ((t : Nat) : Int), vI ((k : Nat) : Int), vI (((cn (ubs n k sz ce t) s : Nat) : Int) + (1 : Int)), vI ((s : Nat) : Int), vI ((gts n k sz ce t s : Nat) : Int), vI ((mnv (ctA n k sz ce s) 36 (tps sz s k) : Nat) : Int), vI ((s : Nat) : Int), vI ((n : Nat) : Int), vI ((mxv (ctA n k sz ce s) (tps sz s k) : Nat) : Int), vI ((mnv (ctA n k sz ce s) 36 (tps sz s k) : Nat) : Int), vI ((y : Nat) : Int), vU]) dL_isAudited_201 (by decide) rfl ?_
                            refine WP.iinc (lt := [vR 42, vI ((t : Nat) : Int), vI ((k : Nat) : Int), vI (((cn (ubs n k sz ce t) s : Nat) : Int) + (1 : Int)), vI ((s : Nat) : Int), vI ((gts n k sz ce t s : Nat) : Int), vI ((mnv (ctA n k sz ce s) 36 (tps sz s k) : Nat) : Int), vI (((s : Nat) : Int) + 1), vI ((n : Nat) : Int), vI ((mxv (ctA n k sz ce s) (tps sz s k) : Nat) : Int), vI ((mnv (ctA n k sz ce s) 36 (tps sz s k) : Nat) : Int), vI ((y : Nat) : Int), vU]) dL_isAudited_203 rfl (by decide) rfl ?_
                            refine WP.goto (tgt := 22) dL_isAudited_206 (by decide) ?_
                            refine WP.fgt (lt := [vR 42, vI ((t : Nat) : Int), vI ((k : Nat) : Int), vI ((cn (ubs n k sz ce t) (s + 1) : Nat) : Int), vI (fi (ubs n k sz ce t) (s + 1) 0), vI ((gts n k sz ce t (s + 1) : Nat) : Int), vI ((lsL n k sz ce t (s + 1) : Nat) : Int), vI (((s + 1) : Nat) : Int), vU, vU, vU, vU, vU]) ⟨Or.inr rfl, Or.inr rfl, Or.inr rfl, Or.inr (congrArg vI (by rw [cn_t hub]; omega)), Or.inr (congrArg vI (fi_1 hub h159)), Or.inr (congrArg vI (by rw [gts_t hpt]; omega)), Or.inr (congrArg vI (by rw [lsL_t hpt]; omega)), Or.inr (congrArg vI (by omega)), Or.inl rfl, Or.inl rfl, Or.inl rfl, Or.inl rfl, Or.inl rfl, trivial⟩ ?_
                            exact ih22 (s + 1) (M6) (by omega) (hA6) (by omega)
                        · skip
                          refine WP.iload dL_isAudited_178 rfl ?_
                          refine WP.goto (tgt := 185) dL_isAudited_180 (by decide) ?_
                          refine WP.istore (lt := [vR 42, vI ((t : Nat) : Int), vI ((k : Nat) : Int), vI (((cn (ubs n k sz ce t) s : Nat) : Int) + (1 : Int)), vI ((s : Nat) : Int), vI ((mxv (ctA n k sz ce s) (tps sz s k) : Nat) : Int), vI ((lsL n k sz ce t s : Nat) : Int), vI ((s : Nat) : Int), vI ((n : Nat) : Int), vI ((mxv (ctA n k sz ce s) (tps sz s k) : Nat) : Int), vI ((mnv (ctA n k sz ce s) 36 (tps sz s k) : Nat) : Int), vI ((y : Nat) : Int), vU]) dL_isAudited_185 (by decide) rfl ?_
                          refine WP.iload dL_isAudited_187 rfl ?_
                          refine WP.iload dL_isAudited_189 rfl ?_
                          refine WP.icmp_ge (tgt := 199) dL_isAudited_191 (by decide) (by omega) (by omega) (fun h191 => ?_) (fun h191 => ?_)
                          · skip
                            refine WP.iload dL_isAudited_199 rfl ?_
                            refine WP.istore (lt := [vR 42, vI ((t : Nat) : Int), vI ((k : Nat) : Int), vI (((cn (ubs n k sz ce t) s : Nat) : Int) + (1 : Int)), vI ((s : Nat) : Int), vI ((mxv (ctA n k sz ce s) (tps sz s k) : Nat) : Int), vI ((lsL n k sz ce t s : Nat) : Int), vI ((s : Nat) : Int), vI ((n : Nat) : Int), vI ((mxv (ctA n k sz ce s) (tps sz s k) : Nat) : Int), vI ((mnv (ctA n k sz ce s) 36 (tps sz s k) : Nat) : Int), vI ((y : Nat) : Int), vU]) dL_isAudited_201 (by decide) rfl ?_
                            refine WP.iinc (lt := [vR 42, vI ((t : Nat) : Int), vI ((k : Nat) : Int), vI (((cn (ubs n k sz ce t) s : Nat) : Int) + (1 : Int)), vI ((s : Nat) : Int), vI ((mxv (ctA n k sz ce s) (tps sz s k) : Nat) : Int), vI ((lsL n k sz ce t s : Nat) : Int), vI (((s : Nat) : Int) + 1), vI ((n : Nat) : Int), vI ((mxv (ctA n k sz ce s) (tps sz s k) : Nat) : Int), vI ((mnv (ctA n k sz ce s) 36 (tps sz s k) : Nat) : Int), vI ((y : Nat) : Int), vU]) dL_isAudited_203 rfl (by decide) rfl ?_
                            refine WP.goto (tgt := 22) dL_isAudited_206 (by decide) ?_
                            refine WP.fgt (lt := [vR 42, vI ((t : Nat) : Int), vI ((k : Nat) : Int), vI ((cn (ubs n k sz ce t) (s + 1) : Nat) : Int), vI (fi (ubs n k sz ce t) (s + 1) 0), vI ((gts n k sz ce t (s + 1) : Nat) : Int), vI ((lsL n k sz ce t (s + 1) : Nat) : Int), vI (((s + 1) : Nat) : Int), vU, vU, vU, vU, vU]) ⟨Or.inr rfl, Or.inr rfl, Or.inr rfl, Or.inr (congrArg vI (by rw [cn_t hub]; omega)), Or.inr (congrArg vI (fi_1 hub h159)), Or.inr (congrArg vI (by rw [gts_t hpt]; omega)), Or.inr (congrArg vI (by rw [lsL_t hpt]; omega)), Or.inr (congrArg vI (by omega)), Or.inl rfl, Or.inl rfl, Or.inl rfl, Or.inl rfl, Or.inl rfl, trivial⟩ ?_
                            exact ih22 (s + 1) (M6) (by omega) (hA6) (by omega)
                          · skip
                            refine WP.iload dL_isAudited_194 rfl ?_
                            refine WP.goto (tgt := 201) dL_isAudited_196 (by decide) ?_
                            refine WP.istore (lt := [vR 42, vI ((t : Nat) : Int), vI ((k : Nat) : Int), vI (((cn (ubs n k sz ce t) s : Nat) : Int) + (1 : Int)), vI ((s : Nat) : Int), vI ((mxv (ctA n k sz ce s) (tps sz s k) : Nat) : Int), vI ((mnv (ctA n k sz ce s) 36 (tps sz s k) : Nat) : Int), vI ((s : Nat) : Int), vI ((n : Nat) : Int), vI ((mxv (ctA n k sz ce s) (tps sz s k) : Nat) : Int), vI ((mnv (ctA n k sz ce s) 36 (tps sz s k) : Nat) : Int), vI ((y : Nat) : Int), vU]) dL_isAudited_201 (by decide) rfl ?_
                            refine WP.iinc (lt := [vR 42, vI ((t : Nat) : Int), vI ((k : Nat) : Int), vI (((cn (ubs n k sz ce t) s : Nat) : Int) + (1 : Int)), vI ((s : Nat) : Int), vI ((mxv (ctA n k sz ce s) (tps sz s k) : Nat) : Int), vI ((mnv (ctA n k sz ce s) 36 (tps sz s k) : Nat) : Int), vI (((s : Nat) : Int) + 1), vI ((n : Nat) : Int), vI ((mxv (ctA n k sz ce s) (tps sz s k) : Nat) : Int), vI ((mnv (ctA n k sz ce s) 36 (tps sz s k) : Nat) : Int), vI ((y : Nat) : Int), vU]) dL_isAudited_203 rfl (by decide) rfl ?_
                            refine WP.goto (tgt := 22) dL_isAudited_206 (by decide) ?_
                            refine WP.fgt (lt := [vR 42, vI ((t : Nat) : Int), vI ((k : Nat) : Int), vI ((cn (ubs n k sz ce t) (s + 1) : Nat) : Int), vI (fi (ubs n k sz ce t) (s + 1) 0), vI ((gts n k sz ce t (s + 1) : Nat) : Int), vI ((lsL n k sz ce t (s + 1) : Nat) : Int), vI (((s + 1) : Nat) : Int), vU, vU, vU, vU, vU]) ⟨Or.inr rfl, Or.inr rfl, Or.inr rfl, Or.inr (congrArg vI (by rw [cn_t hub]; omega)), Or.inr (congrArg vI (fi_1 hub h159)), Or.inr (congrArg vI (by rw [gts_t hpt]; omega)), Or.inr (congrArg vI (by rw [lsL_t hpt]; omega)), Or.inr (congrArg vI (by omega)), Or.inl rfl, Or.inl rfl, Or.inl rfl, Or.inl rfl, Or.inl rfl, trivial⟩ ?_
                            exact ih22 (s + 1) (M6) (by omega) (hA6) (by omega)
                  · skip
                    have hub : ¬ ubs n k sz ce t s := fun z => z.2 ((ext_bal hW).mp (by omega))
                    refine WP.iload_n dL_isAudited_140 rfl ?_
                    refine WP.goto (tgt := 147) dL_isAudited_141 (by decide) ?_
                    refine WP.istore_n (lt := [vR 42, vI ((t : Nat) : Int), vI ((k : Nat) : Int), vI ((cn (ubs n k sz ce t) s : Nat) : Int), vI (fi (ubs n k sz ce t) s 0), vI ((gts n k sz ce t s : Nat) : Int), vI ((lsL n k sz ce t s : Nat) : Int), vI ((s : Nat) : Int), vI ((n : Nat) : Int), vI ((mxv (ctA n k sz ce s) (tps sz s k) : Nat) : Int), vI ((mnv (ctA n k sz ce s) 36 (tps sz s k) : Nat) : Int), vI ((y : Nat) : Int), vU]) dL_isAudited_147 (by decide) rfl ?_
                    refine WP.iload dL_isAudited_148 rfl ?_
                    refine WP.iload dL_isAudited_150 rfl ?_
                    refine WP.icmp_eq (tgt := 167) dL_isAudited_152 (by decide) (by omega) (by omega) (fun h152 => ?_) (fun h152 => ?_)
                    · skip
                      refine WP.iload dL_isAudited_167 rfl ?_
                      refine WP.istore (lt := [vR 42, vI ((t : Nat) : Int), vI ((k : Nat) : Int), vI ((cn (ubs n k sz ce t) s : Nat) : Int), vI (fi (ubs n k sz ce t) s 0), vI ((gts n k sz ce t s : Nat) : Int), vI ((lsL n k sz ce t s : Nat) : Int), vI ((s : Nat) : Int), vI ((n : Nat) : Int), vI ((mxv (ctA n k sz ce s) (tps sz s k) : Nat) : Int), vI ((mnv (ctA n k sz ce s) 36 (tps sz s k) : Nat) : Int), vI ((y : Nat) : Int), vU]) dL_isAudited_169 (by decide) rfl ?_
                      refine WP.iload dL_isAudited_171 rfl ?_
                      refine WP.iload dL_isAudited_173 rfl ?_
                      refine WP.icmp_le (tgt := 183) dL_isAudited_175 (by decide) (by omega) (by omega) (fun h175 => ?_) (fun h175 => ?_)
                      · skip
                        refine WP.iload dL_isAudited_183 rfl ?_
                        refine WP.istore (lt := [vR 42, vI ((t : Nat) : Int), vI ((k : Nat) : Int), vI ((cn (ubs n k sz ce t) s : Nat) : Int), vI (fi (ubs n k sz ce t) s 0), vI ((gts n k sz ce t s : Nat) : Int), vI ((lsL n k sz ce t s : Nat) : Int), vI ((s : Nat) : Int), vI ((n : Nat) : Int), vI ((mxv (ctA n k sz ce s) (tps sz s k) : Nat) : Int), vI ((mnv (ctA n k sz ce s) 36 (tps sz s k) : Nat) : Int), vI ((y : Nat) : Int), vU]) dL_isAudited_185 (by decide) rfl ?_
                        refine WP.iload dL_isAudited_187 rfl ?_
                        refine WP.iload dL_isAudited_189 rfl ?_
                        refine WP.icmp_ge (tgt := 199) dL_isAudited_191 (by decide) (by omega) (by omega) (fun h191 => ?_) (fun h191 => ?_)
                        · skip
                          refine WP.iload dL_isAudited_199 rfl ?_
                          refine WP.istore (lt := [vR 42, vI ((t : Nat) : Int), vI ((k : Nat) : Int), vI ((cn (ubs n k sz ce t) s : Nat) : Int), vI (fi (ubs n k sz ce t) s 0), vI ((gts n k sz ce t s : Nat) : Int), vI ((lsL n k sz ce t s : Nat) : Int), vI ((s : Nat) : Int), vI ((n : Nat) : Int), vI ((mxv (ctA n k sz ce s) (tps sz s k) : Nat) : Int), vI ((mnv (ctA n k sz ce s) 36 (tps sz s k) : Nat) : Int), vI ((y : Nat) : Int), vU]) dL_isAudited_201 (by decide) rfl ?_
                          refine WP.iinc (lt := [vR 42, vI ((t : Nat) : Int), vI ((k : Nat) : Int), vI ((cn (ubs n k sz ce t) s : Nat) : Int), vI (fi (ubs n k sz ce t) s 0), vI ((gts n k sz ce t s : Nat) : Int), vI ((lsL n k sz ce t s : Nat) : Int), vI (((s : Nat) : Int) + 1), vI ((n : Nat) : Int), vI ((mxv (ctA n k sz ce s) (tps sz s k) : Nat) : Int), vI ((mnv (ctA n k sz ce s) 36 (tps sz s k) : Nat) : Int), vI ((y : Nat) : Int), vU]) dL_isAudited_203 rfl (by decide) rfl ?_
                          refine WP.goto (tgt := 22) dL_isAudited_206 (by decide) ?_
                          refine WP.fgt (lt := [vR 42, vI ((t : Nat) : Int), vI ((k : Nat) : Int), vI ((cn (ubs n k sz ce t) (s + 1) : Nat) : Int), vI (fi (ubs n k sz ce t) (s + 1) 0), vI ((gts n k sz ce t (s + 1) : Nat) : Int), vI ((lsL n k sz ce t (s + 1) : Nat) : Int), vI (((s + 1) : Nat) : Int), vU, vU, vU, vU, vU]) ⟨Or.inr rfl, Or.inr rfl, Or.inr rfl, Or.inr (congrArg vI (by rw [cn_f hub])), Or.inr (congrArg vI (fi_no hub)), Or.inr (congrArg vI (by rw [gts_t hpt]; omega)), Or.inr (congrArg vI (by rw [lsL_t hpt]; omega)), Or.inr (congrArg vI (by omega)), Or.inl rfl, Or.inl rfl, Or.inl rfl, Or.inl rfl, Or.inl rfl, trivial⟩ ?_
                          exact ih22 (s + 1) (M6) (by omega) (hA6) (by omega)
                        · skip
                          refine WP.iload dL_isAudited_194 rfl ?_
                          refine WP.goto (tgt := 201) dL_isAudited_196 (by decide) ?_
                          refine WP.istore (lt := [vR 42, vI ((t : Nat) : Int), vI ((k : Nat) : Int), vI ((cn (ubs n k sz ce t) s : Nat) : Int), vI (fi (ubs n k sz ce t) s 0), vI ((gts n k sz ce t s : Nat) : Int), vI ((mnv (ctA n k sz ce s) 36 (tps sz s k) : Nat) : Int), vI ((s : Nat) : Int), vI ((n : Nat) : Int), vI ((mxv (ctA n k sz ce s) (tps sz s k) : Nat) : Int), vI ((mnv (ctA n k sz ce s) 36 (tps sz s k) : Nat) : Int), vI ((y : Nat) : Int), vU]) dL_isAudited_201 (by decide) rfl ?_
                          refine WP.iinc (lt := [vR 42, vI ((t : Nat) : Int), vI ((k : Nat) : Int), vI ((cn (ubs n k sz ce t) s : Nat) : Int), vI (fi (ubs n k sz ce t) s 0), vI ((gts n k sz ce t s : Nat) : Int), vI ((mnv (ctA n k sz ce s) 36 (tps sz s k) : Nat) : Int), vI (((s : Nat) : Int) + 1), vI ((n : Nat) : Int), vI ((mxv (ctA n k sz ce s) (tps sz s k) : Nat) : Int), vI ((mnv (ctA n k sz ce s) 36 (tps sz s k) : Nat) : Int), vI ((y : Nat) : Int), vU]) dL_isAudited_203 rfl (by decide) rfl ?_
                          refine WP.goto (tgt := 22) dL_isAudited_206 (by decide) ?_
                          refine WP.fgt (lt := [vR 42, vI ((t : Nat) : Int), vI ((k : Nat) : Int), vI ((cn (ubs n k sz ce t) (s + 1) : Nat) : Int), vI (fi (ubs n k sz ce t) (s + 1) 0), vI ((gts n k sz ce t (s + 1) : Nat) : Int), vI ((lsL n k sz ce t (s + 1) : Nat) : Int), vI (((s + 1) : Nat) : Int), vU, vU, vU, vU, vU]) ⟨Or.inr rfl, Or.inr rfl, Or.inr rfl, Or.inr (congrArg vI (by rw [cn_f hub])), Or.inr (congrArg vI (fi_no hub)), Or.inr (congrArg vI (by rw [gts_t hpt]; omega)), Or.inr (congrArg vI (by rw [lsL_t hpt]; omega)), Or.inr (congrArg vI (by omega)), Or.inl rfl, Or.inl rfl, Or.inl rfl, Or.inl rfl, Or.inl rfl, trivial⟩ ?_
                          exact ih22 (s + 1) (M6) (by omega) (hA6) (by omega)
                      · skip
                        refine WP.iload dL_isAudited_178 rfl ?_
                        refine WP.goto (tgt := 185) dL_isAudited_180 (by decide) ?_
                        refine WP.istore (lt := [vR 42, vI ((t : Nat) : Int), vI ((k : Nat) : Int), vI ((cn (ubs n k sz ce t) s : Nat) : Int), vI (fi (ubs n k sz ce t) s 0), vI ((mxv (ctA n k sz ce s) (tps sz s k) : Nat) : Int), vI ((lsL n k sz ce t s : Nat) : Int), vI ((s : Nat) : Int), vI ((n : Nat) : Int), vI ((mxv (ctA n k sz ce s) (tps sz s k) : Nat) : Int), vI ((mnv (ctA n k sz ce s) 36 (tps sz s k) : Nat) : Int), vI ((y : Nat) : Int), vU]) dL_isAudited_185 (by decide) rfl ?_
                        refine WP.iload dL_isAudited_187 rfl ?_
                        refine WP.iload dL_isAudited_189 rfl ?_
                        refine WP.icmp_ge (tgt := 199) dL_isAudited_191 (by decide) (by omega) (by omega) (fun h191 => ?_) (fun h191 => ?_)
                        · skip
                          refine WP.iload dL_isAudited_199 rfl ?_
                          refine WP.istore (lt := [vR 42, vI ((t : Nat) : Int), vI ((k : Nat) : Int), vI ((cn (ubs n k sz ce t) s : Nat) : Int), vI (fi (ubs n k sz ce t) s 0), vI ((mxv (ctA n k sz ce s) (tps sz s k) : Nat) : Int), vI ((lsL n k sz ce t s : Nat) : Int), vI ((s : Nat) : Int), vI ((n : Nat) : Int), vI ((mxv (ctA n k sz ce s) (tps sz s k) : Nat) : Int), vI ((mnv (ctA n k sz ce s) 36 (tps sz s k) : Nat) : Int), vI ((y : Nat) : Int), vU]) dL_isAudited_201 (by decide) rfl ?_
                          refine WP.iinc (lt := [vR 42, vI ((t : Nat) : Int), vI ((k : Nat) : Int), vI ((cn (ubs n k sz ce t) s : Nat) : Int), vI (fi (ubs n k sz ce t) s 0), vI ((mxv (ctA n k sz ce s) (tps sz s k) : Nat) : Int), vI ((lsL n k sz ce t s : Nat) : Int), vI (((s : Nat) : Int) + 1), vI ((n : Nat) : Int), vI ((mxv (ctA n k sz ce s) (tps sz s k) : Nat) : Int), vI ((mnv (ctA n k sz ce s) 36 (tps sz s k) : Nat) : Int), vI ((y : Nat) : Int), vU]) dL_isAudited_203 rfl (by decide) rfl ?_
                          refine WP.goto (tgt := 22) dL_isAudited_206 (by decide) ?_
                          refine WP.fgt (lt := [vR 42, vI ((t : Nat) : Int), vI ((k : Nat) : Int), vI ((cn (ubs n k sz ce t) (s + 1) : Nat) : Int), vI (fi (ubs n k sz ce t) (s + 1) 0), vI ((gts n k sz ce t (s + 1) : Nat) : Int), vI ((lsL n k sz ce t (s + 1) : Nat) : Int), vI (((s + 1) : Nat) : Int), vU, vU, vU, vU, vU]) ⟨Or.inr rfl, Or.inr rfl, Or.inr rfl, Or.inr (congrArg vI (by rw [cn_f hub])), Or.inr (congrArg vI (fi_no hub)), Or.inr (congrArg vI (by rw [gts_t hpt]; omega)), Or.inr (congrArg vI (by rw [lsL_t hpt]; omega)), Or.inr (congrArg vI (by omega)), Or.inl rfl, Or.inl rfl, Or.inl rfl, Or.inl rfl, Or.inl rfl, trivial⟩ ?_
                          exact ih22 (s + 1) (M6) (by omega) (hA6) (by omega)
                        · skip
                          refine WP.iload dL_isAudited_194 rfl ?_
                          refine WP.goto (tgt := 201) dL_isAudited_196 (by decide) ?_
                          refine WP.istore (lt := [vR 42, vI ((t : Nat) : Int), vI ((k : Nat) : Int), vI ((cn (ubs n k sz ce t) s : Nat) : Int), vI (fi (ubs n k sz ce t) s 0), vI ((mxv (ctA n k sz ce s) (tps sz s k) : Nat) : Int), vI ((mnv (ctA n k sz ce s) 36 (tps sz s k) : Nat) : Int), vI ((s : Nat) : Int), vI ((n : Nat) : Int), vI ((mxv (ctA n k sz ce s) (tps sz s k) : Nat) : Int), vI ((mnv (ctA n k sz ce s) 36 (tps sz s k) : Nat) : Int), vI ((y : Nat) : Int), vU]) dL_isAudited_201 (by decide) rfl ?_
                          refine WP.iinc (lt := [vR 42, vI ((t : Nat) : Int), vI ((k : Nat) : Int), vI ((cn (ubs n k sz ce t) s : Nat) : Int), vI (fi (ubs n k sz ce t) s 0), vI ((mxv (ctA n k sz ce s) (tps sz s k) : Nat) : Int), vI ((mnv (ctA n k sz ce s) 36 (tps sz s k) : Nat) : Int), vI (((s : Nat) : Int) + 1), vI ((n : Nat) : Int), vI ((mxv (ctA n k sz ce s) (tps sz s k) : Nat) : Int), vI ((mnv (ctA n k sz ce s) 36 (tps sz s k) : Nat) : Int), vI ((y : Nat) : Int), vU]) dL_isAudited_203 rfl (by decide) rfl ?_
                          refine WP.goto (tgt := 22) dL_isAudited_206 (by decide) ?_
                          refine WP.fgt (lt := [vR 42, vI ((t : Nat) : Int), vI ((k : Nat) : Int), vI ((cn (ubs n k sz ce t) (s + 1) : Nat) : Int), vI (fi (ubs n k sz ce t) (s + 1) 0), vI ((gts n k sz ce t (s + 1) : Nat) : Int), vI ((lsL n k sz ce t (s + 1) : Nat) : Int), vI (((s + 1) : Nat) : Int), vU, vU, vU, vU, vU]) ⟨Or.inr rfl, Or.inr rfl, Or.inr rfl, Or.inr (congrArg vI (by rw [cn_f hub])), Or.inr (congrArg vI (fi_no hub)), Or.inr (congrArg vI (by rw [gts_t hpt]; omega)), Or.inr (congrArg vI (by rw [lsL_t hpt]; omega)), Or.inr (congrArg vI (by omega)), Or.inl rfl, Or.inl rfl, Or.inl rfl, Or.inl rfl, Or.inl rfl, trivial⟩ ?_
                          exact ih22 (s + 1) (M6) (by omega) (hA6) (by omega)
                    · skip
                      exfalso
                      omega
                · skip
                  exfalso
                  omega
              · skip
                have hy2 := cntv_nn h60
                refine WP.aload_n dL_isAudited_63 rfl ?_
                refine WP.iload dL_isAudited_64 rfl ?_
                refine WP.iload dL_isAudited_66 rfl ?_
                refine WP.callV (as := [vI ((s : Nat) : Int), vI ((y : Nat) : Int)]) dL_isAudited_68 mv_L_72 rfl (rfl) (by decide) rfl rfl (z_count_in (s := s) (y := y) hA4 hs2 hy2) rfl (Nat.le_of_ble_eq_true rfl) (by omega) (fun r9 M5 h9 => ?_)
                obtain ⟨rfl, hA5⟩ := h9
                show WP sc0 41 m_L_isAudited 71 [vR 42, vI ((t : Nat) : Int), vI ((k : Nat) : Int), vI ((cn (ubs n k sz ce t) s : Nat) : Int), vI (fi (ubs n k sz ce t) s 0), vI ((gts n k sz ce t s : Nat) : Int), vI ((lsL n k sz ce t s : Nat) : Int), vI ((s : Nat) : Int), vI ((sm (ctA n k sz ce s) y : Nat) : Int), vI ((mxv (ctA n k sz ce s) y : Nat) : Int), vI ((mnv (ctA n k sz ce s) 36 y : Nat) : Int), vI ((y : Nat) : Int), vU] [vI ((ctA n k sz ce s y : Nat) : Int)] M5 (PX M ((1 : Int), (mkS n k sz ce h hs im len tx)))
                refine WP.istore (lt := [vR 42, vI ((t : Nat) : Int), vI ((k : Nat) : Int), vI ((cn (ubs n k sz ce t) s : Nat) : Int), vI (fi (ubs n k sz ce t) s 0), vI ((gts n k sz ce t s : Nat) : Int), vI ((lsL n k sz ce t s : Nat) : Int), vI ((s : Nat) : Int), vI ((sm (ctA n k sz ce s) y : Nat) : Int), vI ((mxv (ctA n k sz ce s) y : Nat) : Int), vI ((mnv (ctA n k sz ce s) 36 y : Nat) : Int), vI ((y : Nat) : Int), vI ((ctA n k sz ce s y : Nat) : Int)]) dL_isAudited_71 (by decide) rfl ?_
                refine WP.iload dL_isAudited_73 rfl ?_
                refine WP.iload dL_isAudited_75 rfl ?_
                refine WP.iadd dL_isAudited_77 ?_
                refine WP.istore (lt := [vR 42, vI ((t : Nat) : Int), vI ((k : Nat) : Int), vI ((cn (ubs n k sz ce t) s : Nat) : Int), vI (fi (ubs n k sz ce t) s 0), vI ((gts n k sz ce t s : Nat) : Int), vI ((lsL n k sz ce t s : Nat) : Int), vI ((s : Nat) : Int), vI (((sm (ctA n k sz ce s) y : Nat) : Int) + ((ctA n k sz ce s y : Nat) : Int)), vI ((mxv (ctA n k sz ce s) y : Nat) : Int), vI ((mnv (ctA n k sz ce s) 36 y : Nat) : Int), vI ((y : Nat) : Int), vI ((ctA n k sz ce s y : Nat) : Int)]) dL_isAudited_78 (by decide) rfl ?_
                refine WP.iload dL_isAudited_80 rfl ?_
                refine WP.iload dL_isAudited_82 rfl ?_
                refine WP.icmp_le (tgt := 92) dL_isAudited_84 (by decide) (by omega) (by omega) (fun h84 => ?_) (fun h84 => ?_)
                · skip
                  refine WP.iload dL_isAudited_92 rfl ?_
                  refine WP.istore (lt := [vR 42, vI ((t : Nat) : Int), vI ((k : Nat) : Int), vI ((cn (ubs n k sz ce t) s : Nat) : Int), vI (fi (ubs n k sz ce t) s 0), vI ((gts n k sz ce t s : Nat) : Int), vI ((lsL n k sz ce t s : Nat) : Int), vI ((s : Nat) : Int), vI (((sm (ctA n k sz ce s) y : Nat) : Int) + ((ctA n k sz ce s y : Nat) : Int)), vI ((mxv (ctA n k sz ce s) y : Nat) : Int), vI ((mnv (ctA n k sz ce s) 36 y : Nat) : Int), vI ((y : Nat) : Int), vI ((ctA n k sz ce s y : Nat) : Int)]) dL_isAudited_94 (by decide) rfl ?_
                  refine WP.iload dL_isAudited_96 rfl ?_
                  refine WP.iload dL_isAudited_98 rfl ?_
                  refine WP.icmp_ge (tgt := 108) dL_isAudited_100 (by decide) (by omega) (by omega) (fun h100 => ?_) (fun h100 => ?_)
                  · skip
                    refine WP.iload dL_isAudited_108 rfl ?_
                    refine WP.istore (lt := [vR 42, vI ((t : Nat) : Int), vI ((k : Nat) : Int), vI ((cn (ubs n k sz ce t) s : Nat) : Int), vI (fi (ubs n k sz ce t) s 0), vI ((gts n k sz ce t s : Nat) : Int), vI ((lsL n k sz ce t s : Nat) : Int), vI ((s : Nat) : Int), vI (((sm (ctA n k sz ce s) y : Nat) : Int) + ((ctA n k sz ce s y : Nat) : Int)), vI ((mxv (ctA n k sz ce s) y : Nat) : Int), vI ((mnv (ctA n k sz ce s) 36 y : Nat) : Int), vI ((y : Nat) : Int), vI ((ctA n k sz ce s y : Nat) : Int)]) dL_isAudited_110 (by decide) rfl ?_
                    refine WP.iload dL_isAudited_112 rfl ?_
                    refine WP.iconst dL_isAudited_114 ?_
                    refine WP.iadd dL_isAudited_115 ?_
                    refine WP.istore (lt := [vR 42, vI ((t : Nat) : Int), vI ((k : Nat) : Int), vI ((cn (ubs n k sz ce t) s : Nat) : Int), vI (fi (ubs n k sz ce t) s 0), vI ((gts n k sz ce t s : Nat) : Int), vI ((lsL n k sz ce t s : Nat) : Int), vI ((s : Nat) : Int), vI (((sm (ctA n k sz ce s) y : Nat) : Int) + ((ctA n k sz ce s y : Nat) : Int)), vI ((mxv (ctA n k sz ce s) y : Nat) : Int), vI ((mnv (ctA n k sz ce s) 36 y : Nat) : Int), vI (((y : Nat) : Int) + (1 : Int)), vI ((ctA n k sz ce s y : Nat) : Int)]) dL_isAudited_116 (by decide) rfl ?_
                    refine WP.goto (tgt := 52) dL_isAudited_118 (by decide) ?_
                    refine WP.fgt (lt := [vR 42, vI ((t : Nat) : Int), vI ((k : Nat) : Int), vI ((cn (ubs n k sz ce t) s : Nat) : Int), vI (fi (ubs n k sz ce t) s 0), vI ((gts n k sz ce t s : Nat) : Int), vI ((lsL n k sz ce t s : Nat) : Int), vI ((s : Nat) : Int), vI ((sm (ctA n k sz ce s) (y + 1) : Nat) : Int), vI ((mxv (ctA n k sz ce s) (y + 1) : Nat) : Int), vI ((mnv (ctA n k sz ce s) 36 (y + 1) : Nat) : Int), vI (((y + 1) : Nat) : Int), vU]) ⟨Or.inr rfl, Or.inr rfl, Or.inr rfl, Or.inr rfl, Or.inr rfl, Or.inr rfl, Or.inr rfl, Or.inr rfl, Or.inr (congrArg vI (by rw [sm_s]; omega)), Or.inr (congrArg vI (by rw [mx_s]; omega)), Or.inr (congrArg vI (by rw [mn_s]; omega)), Or.inr (congrArg vI (by omega)), Or.inl rfl, trivial⟩ ?_
                    exact ih52 (y + 1) (M5) (by omega) (hA5) (by omega)
                  · skip
                    refine WP.iload dL_isAudited_103 rfl ?_
                    refine WP.goto (tgt := 110) dL_isAudited_105 (by decide) ?_
                    refine WP.istore (lt := [vR 42, vI ((t : Nat) : Int), vI ((k : Nat) : Int), vI ((cn (ubs n k sz ce t) s : Nat) : Int), vI (fi (ubs n k sz ce t) s 0), vI ((gts n k sz ce t s : Nat) : Int), vI ((lsL n k sz ce t s : Nat) : Int), vI ((s : Nat) : Int), vI (((sm (ctA n k sz ce s) y : Nat) : Int) + ((ctA n k sz ce s y : Nat) : Int)), vI ((mxv (ctA n k sz ce s) y : Nat) : Int), vI ((ctA n k sz ce s y : Nat) : Int), vI ((y : Nat) : Int), vI ((ctA n k sz ce s y : Nat) : Int)]) dL_isAudited_110 (by decide) rfl ?_
                    refine WP.iload dL_isAudited_112 rfl ?_
                    refine WP.iconst dL_isAudited_114 ?_
                    refine WP.iadd dL_isAudited_115 ?_
                    refine WP.istore (lt := [vR 42, vI ((t : Nat) : Int), vI ((k : Nat) : Int), vI ((cn (ubs n k sz ce t) s : Nat) : Int), vI (fi (ubs n k sz ce t) s 0), vI ((gts n k sz ce t s : Nat) : Int), vI ((lsL n k sz ce t s : Nat) : Int), vI ((s : Nat) : Int), vI (((sm (ctA n k sz ce s) y : Nat) : Int) + ((ctA n k sz ce s y : Nat) : Int)), vI ((mxv (ctA n k sz ce s) y : Nat) : Int), vI ((ctA n k sz ce s y : Nat) : Int), vI (((y : Nat) : Int) + (1 : Int)), vI ((ctA n k sz ce s y : Nat) : Int)]) dL_isAudited_116 (by decide) rfl ?_
                    refine WP.goto (tgt := 52) dL_isAudited_118 (by decide) ?_
                    refine WP.fgt (lt := [vR 42, vI ((t : Nat) : Int), vI ((k : Nat) : Int), vI ((cn (ubs n k sz ce t) s : Nat) : Int), vI (fi (ubs n k sz ce t) s 0), vI ((gts n k sz ce t s : Nat) : Int), vI ((lsL n k sz ce t s : Nat) : Int), vI ((s : Nat) : Int), vI ((sm (ctA n k sz ce s) (y + 1) : Nat) : Int), vI ((mxv (ctA n k sz ce s) (y + 1) : Nat) : Int), vI ((mnv (ctA n k sz ce s) 36 (y + 1) : Nat) : Int), vI (((y + 1) : Nat) : Int), vU]) ⟨Or.inr rfl, Or.inr rfl, Or.inr rfl, Or.inr rfl, Or.inr rfl, Or.inr rfl, Or.inr rfl, Or.inr rfl, Or.inr (congrArg vI (by rw [sm_s]; omega)), Or.inr (congrArg vI (by rw [mx_s]; omega)), Or.inr (congrArg vI (by rw [mn_s]; omega)), Or.inr (congrArg vI (by omega)), Or.inl rfl, trivial⟩ ?_
                    exact ih52 (y + 1) (M5) (by omega) (hA5) (by omega)
                · skip
                  refine WP.iload dL_isAudited_87 rfl ?_
                  refine WP.goto (tgt := 94) dL_isAudited_89 (by decide) ?_
                  refine WP.istore (lt := [vR 42, vI ((t : Nat) : Int), vI ((k : Nat) : Int), vI ((cn (ubs n k sz ce t) s : Nat) : Int), vI (fi (ubs n k sz ce t) s 0), vI ((gts n k sz ce t s : Nat) : Int), vI ((lsL n k sz ce t s : Nat) : Int), vI ((s : Nat) : Int), vI (((sm (ctA n k sz ce s) y : Nat) : Int) + ((ctA n k sz ce s y : Nat) : Int)), vI ((ctA n k sz ce s y : Nat) : Int), vI ((mnv (ctA n k sz ce s) 36 y : Nat) : Int), vI ((y : Nat) : Int), vI ((ctA n k sz ce s y : Nat) : Int)]) dL_isAudited_94 (by decide) rfl ?_
                  refine WP.iload dL_isAudited_96 rfl ?_
                  refine WP.iload dL_isAudited_98 rfl ?_
                  refine WP.icmp_ge (tgt := 108) dL_isAudited_100 (by decide) (by omega) (by omega) (fun h100 => ?_) (fun h100 => ?_)
                  · skip
                    refine WP.iload dL_isAudited_108 rfl ?_
                    refine WP.istore (lt := [vR 42, vI ((t : Nat) : Int), vI ((k : Nat) : Int), vI ((cn (ubs n k sz ce t) s : Nat) : Int), vI (fi (ubs n k sz ce t) s 0), vI ((gts n k sz ce t s : Nat) : Int), vI ((lsL n k sz ce t s : Nat) : Int), vI ((s : Nat) : Int), vI (((sm (ctA n k sz ce s) y : Nat) : Int) + ((ctA n k sz ce s y : Nat) : Int)), vI ((ctA n k sz ce s y : Nat) : Int), vI ((mnv (ctA n k sz ce s) 36 y : Nat) : Int), vI ((y : Nat) : Int), vI ((ctA n k sz ce s y : Nat) : Int)]) dL_isAudited_110 (by decide) rfl ?_
                    refine WP.iload dL_isAudited_112 rfl ?_
                    refine WP.iconst dL_isAudited_114 ?_
                    refine WP.iadd dL_isAudited_115 ?_
                    refine WP.istore (lt := [vR 42, vI ((t : Nat) : Int), vI ((k : Nat) : Int), vI ((cn (ubs n k sz ce t) s : Nat) : Int), vI (fi (ubs n k sz ce t) s 0), vI ((gts n k sz ce t s : Nat) : Int), vI ((lsL n k sz ce t s : Nat) : Int), vI ((s : Nat) : Int), vI (((sm (ctA n k sz ce s) y : Nat) : Int) + ((ctA n k sz ce s y : Nat) : Int)), vI ((ctA n k sz ce s y : Nat) : Int), vI ((mnv (ctA n k sz ce s) 36 y : Nat) : Int), vI (((y : Nat) : Int) + (1 : Int)), vI ((ctA n k sz ce s y : Nat) : Int)]) dL_isAudited_116 (by decide) rfl ?_
                    refine WP.goto (tgt := 52) dL_isAudited_118 (by decide) ?_
                    refine WP.fgt (lt := [vR 42, vI ((t : Nat) : Int), vI ((k : Nat) : Int), vI ((cn (ubs n k sz ce t) s : Nat) : Int), vI (fi (ubs n k sz ce t) s 0), vI ((gts n k sz ce t s : Nat) : Int), vI ((lsL n k sz ce t s : Nat) : Int), vI ((s : Nat) : Int), vI ((sm (ctA n k sz ce s) (y + 1) : Nat) : Int), vI ((mxv (ctA n k sz ce s) (y + 1) : Nat) : Int), vI ((mnv (ctA n k sz ce s) 36 (y + 1) : Nat) : Int), vI (((y + 1) : Nat) : Int), vU]) ⟨Or.inr rfl, Or.inr rfl, Or.inr rfl, Or.inr rfl, Or.inr rfl, Or.inr rfl, Or.inr rfl, Or.inr rfl, Or.inr (congrArg vI (by rw [sm_s]; omega)), Or.inr (congrArg vI (by rw [mx_s]; omega)), Or.inr (congrArg vI (by rw [mn_s]; omega)), Or.inr (congrArg vI (by omega)), Or.inl rfl, trivial⟩ ?_
                    exact ih52 (y + 1) (M5) (by omega) (hA5) (by omega)
                  · skip
                    refine WP.iload dL_isAudited_103 rfl ?_
                    refine WP.goto (tgt := 110) dL_isAudited_105 (by decide) ?_
                    refine WP.istore (lt := [vR 42, vI ((t : Nat) : Int), vI ((k : Nat) : Int), vI ((cn (ubs n k sz ce t) s : Nat) : Int), vI (fi (ubs n k sz ce t) s 0), vI ((gts n k sz ce t s : Nat) : Int), vI ((lsL n k sz ce t s : Nat) : Int), vI ((s : Nat) : Int), vI (((sm (ctA n k sz ce s) y : Nat) : Int) + ((ctA n k sz ce s y : Nat) : Int)), vI ((ctA n k sz ce s y : Nat) : Int), vI ((ctA n k sz ce s y : Nat) : Int), vI ((y : Nat) : Int), vI ((ctA n k sz ce s y : Nat) : Int)]) dL_isAudited_110 (by decide) rfl ?_
                    refine WP.iload dL_isAudited_112 rfl ?_
                    refine WP.iconst dL_isAudited_114 ?_
                    refine WP.iadd dL_isAudited_115 ?_
                    refine WP.istore (lt := [vR 42, vI ((t : Nat) : Int), vI ((k : Nat) : Int), vI ((cn (ubs n k sz ce t) s : Nat) : Int), vI (fi (ubs n k sz ce t) s 0), vI ((gts n k sz ce t s : Nat) : Int), vI ((lsL n k sz ce t s : Nat) : Int), vI ((s : Nat) : Int), vI (((sm (ctA n k sz ce s) y : Nat) : Int) + ((ctA n k sz ce s y : Nat) : Int)), vI ((ctA n k sz ce s y : Nat) : Int), vI ((ctA n k sz ce s y : Nat) : Int), vI (((y : Nat) : Int) + (1 : Int)), vI ((ctA n k sz ce s y : Nat) : Int)]) dL_isAudited_116 (by decide) rfl ?_
                    refine WP.goto (tgt := 52) dL_isAudited_118 (by decide) ?_
                    refine WP.fgt (lt := [vR 42, vI ((t : Nat) : Int), vI ((k : Nat) : Int), vI ((cn (ubs n k sz ce t) s : Nat) : Int), vI (fi (ubs n k sz ce t) s 0), vI ((gts n k sz ce t s : Nat) : Int), vI ((lsL n k sz ce t s : Nat) : Int), vI ((s : Nat) : Int), vI ((sm (ctA n k sz ce s) (y + 1) : Nat) : Int), vI ((mxv (ctA n k sz ce s) (y + 1) : Nat) : Int), vI ((mnv (ctA n k sz ce s) 36 (y + 1) : Nat) : Int), vI (((y + 1) : Nat) : Int), vU]) ⟨Or.inr rfl, Or.inr rfl, Or.inr rfl, Or.inr rfl, Or.inr rfl, Or.inr rfl, Or.inr rfl, Or.inr rfl, Or.inr (congrArg vI (by rw [sm_s]; omega)), Or.inr (congrArg vI (by rw [mx_s]; omega)), Or.inr (congrArg vI (by rw [mn_s]; omega)), Or.inr (congrArg vI (by omega)), Or.inl rfl, trivial⟩ ?_
                    exact ih52 (y + 1) (M5) (by omega) (hA5) (by omega)
          refine WP.fgt (lt := [vR 42, vI ((t : Nat) : Int), vI ((k : Nat) : Int), vI ((cn (ubs n k sz ce t) s : Nat) : Int), vI (fi (ubs n k sz ce t) s 0), vI ((gts n k sz ce t s : Nat) : Int), vI ((lsL n k sz ce t s : Nat) : Int), vI ((s : Nat) : Int), vI ((sm (ctA n k sz ce s) 0 : Nat) : Int), vI ((mxv (ctA n k sz ce s) 0 : Nat) : Int), vI ((mnv (ctA n k sz ce s) 36 0 : Nat) : Int), vI ((0 : Nat) : Int), vU]) ⟨Or.inr rfl, Or.inr rfl, Or.inr rfl, Or.inr rfl, Or.inr rfl, Or.inr rfl, Or.inr rfl, Or.inr rfl, Or.inr (congrArg vI (rfl)), Or.inr (congrArg vI (rfl)), Or.inr (congrArg vI (rfl)), Or.inr (congrArg vI (by omega)), Or.inl rfl, trivial⟩ ?_
          exact L52 _ (0) (M1) (Nat.zero_le _) (hA1) (Nat.lt_succ_self _)
  refine WP.fgt (lt := [vR 42, vI ((t : Nat) : Int), vI ((k : Nat) : Int), vI ((cn (ubs n k sz ce t) 0 : Nat) : Int), vI (fi (ubs n k sz ce t) 0 0), vI ((gts n k sz ce t 0 : Nat) : Int), vI ((lsL n k sz ce t 0 : Nat) : Int), vI ((0 : Nat) : Int), vU, vU, vU, vU, vU]) ⟨Or.inr rfl, Or.inr rfl, Or.inr rfl, Or.inr (congrArg vI (rfl)), Or.inr (congrArg vI (rfl)), Or.inr (congrArg vI (rfl)), Or.inr (congrArg vI (rfl)), Or.inr (congrArg vI (by omega)), Or.inl rfl, Or.inl rfl, Or.inl rfl, Or.inl rfl, Or.inl rfl, trivial⟩ ?_
  exact L22 _ (0) (M9) (Nat.zero_le _) (hA9) (Nat.lt_succ_self _)
