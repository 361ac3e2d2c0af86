noncomputable def extV (n k : Nat) (sz : Nat → Nat) (ce : Nat → Nat → Nat) : Int := cif (∃ x, ext n k sz ce 2 x) (n : Int) (-9)
theorem z_ext_st {M M1 : Mem} {S : ST} (hA : AT M S M1) (h : S.1.1 = 0 ∨ 16 < S.1.1) : CT 40 m_X7_extension [vR 42, vI 2, vI (-1)] M1 (fun z9 M2 => z9 = some (vI (-2)) ∧ AT M S M2) :=
  CT.mono (fun z9 M2 hh => ⟨hh.1.trans (congrArg (fun v => some (vI v)) ((cif_t ⟨⟨by decide, by decide⟩, Or.inl rfl⟩).trans (if_pos h))), hh.2⟩) (z_extension (x := 2) (y := -1) hA ⟨by decide, by decide⟩ ⟨by decide, by decide⟩)
theorem z_ext_m {M M1 : Mem} {S : ST} (hA : AT M S M1) (h : ¬ (S.1.1 = 0 ∨ 16 < S.1.1)) : CT 40 m_X7_extension [vR 42, vI 2, vI (-1)] M1 (fun z9 M2 => z9 = some (vI (extV S.1.1 S.1.2.1 S.1.2.2.1 S.1.2.2.2)) ∧ AT M S M2) :=
  CT.mono (fun z9 M2 hh => ⟨hh.1.trans (congrArg (fun v => some (vI v)) ((cif_t ⟨⟨by decide, by decide⟩, Or.inl rfl⟩).trans (if_neg h))), hh.2⟩) (z_extension (x := 2) (y := -1) hA ⟨by decide, by decide⟩ ⟨by decide, by decide⟩)
theorem z_ext_r {M M1 : Mem} {S : ST} (hA : AT M S M1) (h : ¬ (S.1.1 = 0 ∨ 16 < S.1.1)) (hE : ∃ x, ext S.1.1 S.1.2.1 S.1.2.2.1 S.1.2.2.2 2 x) {r : Nat} (hr : r < S.1.1) : CT 40 m_X7_extension [vR 42, vI 2, vI ((r : Nat) : Int)] M1 (fun z9 M2 => z9 = some (vI ((lxE S.1.1 S.1.2.1 S.1.2.2.1 S.1.2.2.2 2 r : Nat) : Int)) ∧ AT M S M2) := by
  have := hA.wf.1
  exact CT.mono (fun z9 M2 hh => ⟨hh.1.trans (congrArg (fun v => some (vI v)) ((cif_t ⟨⟨by decide, by decide⟩, Or.inr ⟨by omega, by omega⟩⟩).trans ((if_neg h).trans ((cif_t hE).trans (if_neg (by omega)))))), hh.2⟩) (z_extension (x := 2) (y := (r : Int)) hA ⟨by decide, by decide⟩ (by omega))
theorem z_extend_q {M M1 : Mem} {S : ST} {q : Int × ST} (hA : AT M S M1) (h : o_extend S 2 = q) : CT 40 m_X7_extend [vR 42, vI 2] M1 (fun z9 M2 => z9 = some (vI q.1) ∧ AT M q.2 M2) := by
  subst h
  exact z_extend (x := 2) hA ⟨by decide, by decide⟩
theorem ex_full {S : ST} (h : ¬ (S.1.1 = 0 ∨ 16 < S.1.1)) (hk : S.1.2.1 = 7) : o_extend S 2 = (-3, S) := (cif_t ⟨by decide, by decide⟩).trans ((if_neg h).trans (if_pos hk))
theorem ex_none {S : ST} (h : ¬ (S.1.1 = 0 ∨ 16 < S.1.1)) (hk : S.1.2.1 ≠ 7) (hE : ¬ ∃ x, ext S.1.1 S.1.2.1 S.1.2.2.1 S.1.2.2.2 2 x) : o_extend S 2 = (-9, S) := (cif_t ⟨by decide, by decide⟩).trans ((if_neg h).trans ((if_neg hk).trans (cif_f hE)))
theorem ex_some {S : ST} (h : ¬ (S.1.1 = 0 ∨ 16 < S.1.1)) (hk : S.1.2.1 ≠ 7) (hE : ∃ x, ext S.1.1 S.1.2.1 S.1.2.2.1 S.1.2.2.2 2 x) : o_extend S 2 = ((S.1.2.1 : Int), chg S (S.1.1, S.1.2.1 + 1, apS S.1.2.2.1 S.1.2.1 2, apC S.1.2.2.2 S.1.2.1 (lxE S.1.1 S.1.2.1 S.1.2.2.1 S.1.2.2.2 2))) := (cif_t ⟨by decide, by decide⟩).trans ((if_neg h).trans ((if_neg hk).trans (cif_t hE)))
theorem z_cell_v {M M1 : Mem} {S : ST} (hA : AT M S M1) {r c v : Nat} (hr : r < S.1.1) (hc : c < S.1.2.1) (hv : S.1.2.2.2 r c = v) : CT 40 m_X7_cell [vR 42, vI ((r : Nat) : Int), vI ((c : Nat) : Int)] M1 (fun z9 M2 => z9 = some (vI ((v : Nat) : Int)) ∧ AT M S M2) := by
  have := hA.wf.1
  have := hA.wf.2.1
  subst hv
  exact CT.mono (fun z9 M2 hh => ⟨hh.1.trans (congrArg (fun v => some (vI v)) (cif_t ⟨⟨by omega, by omega⟩, by omega, by omega⟩)), hh.2⟩) (z_cell (x := (r : Int)) (y := (c : Int)) hA (by omega) (by omega))
theorem o_undo_pos {X : ST} (h : X.2.1.1 ≠ 0) : o_undo X = (((X.2.1.1 - 1 : Nat) : Int), (X.2.1.2 (X.2.1.1 - 1), (X.2.1.1 - 1, X.2.1.2), X.2.2.1, X.2.2.2)) := if_neg h
theorem un_chg {S : ST} {A : AR} (h : S.2.1.1 ≤ 8) : (o_undo (chg S A)).2.1 = S.1 ∧ 0 ≤ (o_undo (chg S A)).1 ∧ (o_undo (chg S A)).1 < 100 := by
  have key : (chg S A).2.1.1 ≠ 0 ∧ (chg S A).2.1.1 ≤ 8 ∧ (chg S A).2.1.2 ((chg S A).2.1.1 - 1) = S.1 := by
    have h1 : (chg S A).2.1 = hpush S.2.1.1 S.2.1.2 S.1 := rfl
    rw [h1]
    by_cases e : S.2.1.1 = 8
    · rw [show hpush S.2.1.1 S.2.1.2 S.1 = (8, fun j => if j = 7 then S.1 else S.2.1.2 (j + 1)) from if_pos e]
      exact ⟨Nat.succ_ne_zero 7, Nat.le_refl 8, rfl⟩
    · rw [show hpush S.2.1.1 S.2.1.2 S.1 = (S.2.1.1 + 1, fun j => if j = S.2.1.1 then S.1 else S.2.1.2 j) from if_neg e]
      exact ⟨Nat.succ_ne_zero _, (show S.2.1.1 + 1 ≤ 8 by omega), if_pos (Nat.add_sub_cancel _ 1)⟩
  obtain ⟨k1, k2, k3⟩ := key
  rw [o_undo_pos k1]
  refine ⟨k3, Int.natCast_nonneg _, ?_⟩
  show (((chg S A).2.1.1 - 1 : Nat) : Int) < 100
  omega
theorem z_columns {M M1 : Mem} {S : ST} (hA : AT M S M1) {k : Nat} (h : S.1.2.1 = k) : CT 40 m_X7_told [vR 42, vI 1] M1 (fun z9 M2 => z9 = some (vI ((k : Nat) : Int)) ∧ AT M S M2) := by
  subst h
  exact z_told1 hA
theorem shl_2 : ∀ k : Nat, k < 20 → Int32.ofInt (2 : Int) <<< (Int32.ofInt (k : Int) &&& 31) = Int32.ofInt ((2 ^ (k + 1) : Nat) : Int) := by decide +kernel
theorem lxE_r {n k r : Nat} {sz : Nat → Nat} {ce : Nat → Nat → Nat} (hE : ∃ x, ext n k sz ce 2 x) (hr : r < n) : lxE n k sz ce 2 r < 2 := (lxE_ext (by decide) hE).1 r hr
theorem Wf_ex {n k : Nat} {sz : Nat → Nat} {ce : Nat → Nat → Nat} (hW : Wf n k sz ce) (hk : k < 7) (hE : ∃ x, ext n k sz ce 2 x) : Wf n (k + 1) (apS sz k 2) (apC ce k (lxE n k sz ce 2)) := Wf_ap hW hk ⟨by decide, by decide⟩ (fun _ hr => lxE_r hE hr)
theorem popn_r {s : Nat} : popn 12 s ≤ 12 := by
  have := cn_le (mk s) 12
  rwa [← popn_cn] at this
set_option maxHeartbeats 4000000 in
set_option maxRecDepth 20000 in
theorem c_L_isExtended {M : Mem} {n k h len : Nat} {sz tx : Nat → Nat} {ce : Nat → Nat → Nat} {hs : Nat → AR} {im : Nat → Option AR} (hX : InvX M (mkS n k sz ce h hs im len tx)) : CT 41 m_L_isExtended [vR 42, vI (2 : Int)] M (fun z M' => z = some (vI 1) ∧ ∃ S9, S9.1 = (n, k, sz, ce) ∧ AT M S9 M') := by
  have hA0 := AT.start hX
  have hW : Wf n k sz ce := hX.1.2
  have b1 := hW.1
  have b2 := hW.2.1
  have hp128 := pw7 b2
  have hh8 : h ≤ 8 := hX.2.1.1
  have hev : ((∃ x, ext n k sz ce 2 x) ∧ extV n k sz ce = (n : Int)) ∨ ((¬ ∃ x, ext n k sz ce 2 x) ∧ extV n k sz ce = -9) := by
    rcases Classical.em (∃ x, ext n k sz ce 2 x) with q | q
    · exact Or.inl ⟨q, cif_t q⟩
    · exact Or.inr ⟨q, cif_f q⟩
  have hevr : -9 ≤ extV n k sz ce ∧ extV n k sz ce ≤ 36 := by
    rcases hev with q | q <;> rw [q.2] <;> omega
  refine CT.ofWP (by decide +kernel) (Nat.le_of_ble_eq_true rfl) ?_
  show WP sc0 41 m_L_isExtended 0 [vR 42, vI (2 : Int), vU, vU, vU, vU, vU, vU, vU, vU] [] M (fun z M' => z = some (vI 1) ∧ ∃ S9, S9.1 = (n, k, sz, ce) ∧ AT M S9 M')
  refine WP.aload_n dL_isExtended_0 rfl ?_
  refine WP.iconst dL_isExtended_1 ?_
  refine WP.callV (as := [vI (0 : Int)]) dL_isExtended_2 mv_L_9 rfl (rfl) (by decide) rfl rfl (z_told0 hA0) rfl (Nat.le_of_ble_eq_true rfl) (by omega) (fun r9 M9 h9 => ?_)
  obtain ⟨rfl, hA9⟩ := h9
  show WP sc0 41 m_L_isExtended 5 [vR 42, vI (2 : Int), vU, vU, vU, vU, vU, vU, vU, vU] [vI ((n : Nat) : Int)] M9 (fun z M' => z = some (vI 1) ∧ ∃ S9, S9.1 = (n, k, sz, ce) ∧ AT M S9 M')
  refine WP.istore_n (lt := [vR 42, vI (2 : Int), vI ((n : Nat) : Int), vU, vU, vU, vU, vU, vU, vU]) dL_isExtended_5 (by decide) rfl ?_
  refine WP.iload_n dL_isExtended_6 rfl ?_
  refine WP.if_eq (tgt := 16) dL_isExtended_7 (by decide) (by omega) (fun h7 => ?_) (fun h7 => ?_)
  · skip
    have hst : n = 0 ∨ 16 < n := by omega
    refine WP.aload_n dL_isExtended_16 rfl ?_
    refine WP.iload_n dL_isExtended_17 rfl ?_
    refine WP.iconst dL_isExtended_18 ?_
    refine WP.callV (as := [vI (2 : Int), vI ((-1) : Int)]) dL_isExtended_19 mv_L_81 rfl (rfl) (by decide) rfl rfl (z_ext_st hA9 hst) rfl (Nat.le_of_ble_eq_true rfl) (by omega) (fun r9 M1 h9 => ?_)
    obtain ⟨rfl, hA1⟩ := h9
    show WP sc0 41 m_L_isExtended 22 [vR 42, vI (2 : Int), vI ((n : Nat) : Int), vU, vU, vU, vU, vU, vU, vU] [vI (-2 : Int)] M1 (fun z M' => z = some (vI 1) ∧ ∃ S9, S9.1 = (n, k, sz, ce) ∧ AT M S9 M')
    refine WP.bipush dL_isExtended_22 (by decide) ?_
    refine WP.icmp_ne (tgt := 31) dL_isExtended_24 (by decide) (by omega) (by omega) (fun h24 => ?_) (fun h24 => ?_)
    · skip
      exfalso
      omega
    · skip
      refine WP.iconst dL_isExtended_27 ?_
      refine WP.goto (tgt := 32) dL_isExtended_28 (by decide) ?_
      refine WP.zret dL_isExtended_32 rfl (by decide) ?_
      exact ⟨rfl, _, rfl, hA1⟩
  · skip
    refine WP.iload_n dL_isExtended_10 rfl ?_
    refine WP.bipush dL_isExtended_11 (by decide) ?_
    refine WP.icmp_le (tgt := 33) dL_isExtended_13 (by decide) (by omega) (by omega) (fun h13 => ?_) (fun h13 => ?_)
    · skip
      have hns : ¬ (n = 0 ∨ 16 < n) := by omega
      refine WP.aload_n dL_isExtended_33 rfl ?_
      refine WP.iload_n dL_isExtended_34 rfl ?_
      refine WP.iconst dL_isExtended_35 ?_
      refine WP.callV (as := [vI (2 : Int), vI ((-1) : Int)]) dL_isExtended_36 mv_L_81 rfl (rfl) (by decide) rfl rfl (z_ext_m hA9 hns) rfl (Nat.le_of_ble_eq_true rfl) (by omega) (fun r9 M2 h9 => ?_)
      obtain ⟨rfl, hA2⟩ := h9
      have hL : AT M (mkS n k sz ce h hs im len tx) M2 := hA2
      show WP sc0 41 m_L_isExtended 39 [vR 42, vI (2 : Int), vI ((n : Nat) : Int), vU, vU, vU, vU, vU, vU, vU] [vI (extV n k sz ce)] M2 (fun z M' => z = some (vI 1) ∧ ∃ S9, S9.1 = (n, k, sz, ce) ∧ AT M S9 M')
      refine WP.istore_n (lt := [vR 42, vI (2 : Int), vI ((n : Nat) : Int), vI (extV n k sz ce), vU, vU, vU, vU, vU, vU]) dL_isExtended_39 (by decide) rfl ?_
      refine WP.iload_n dL_isExtended_40 rfl ?_
      refine WP.bipush dL_isExtended_41 (by decide) ?_
      refine WP.icmp_eq (tgt := 56) dL_isExtended_43 (by decide) (by omega) (by omega) (fun h43 => ?_) (fun h43 => ?_)
      · skip
        have hE : ¬ ∃ x, ext n k sz ce 2 x := by
          rcases hev with q | q
          · exfalso; omega
          · exact q.1
        refine WP.iload_n dL_isExtended_56 rfl ?_
        refine WP.bipush dL_isExtended_57 (by decide) ?_
        refine WP.icmp_ne (tgt := 90) dL_isExtended_59 (by decide) (by omega) (by omega) (fun h59 => ?_) (fun h59 => ?_)
        · skip
          exfalso
          omega
        · skip
          refine WP.aload_n dL_isExtended_62 rfl ?_
          refine WP.iconst dL_isExtended_63 ?_
          refine WP.callV (as := [vI (1 : Int)]) dL_isExtended_64 mv_L_9 rfl (rfl) (by decide) rfl rfl (z_told1 hL) rfl (Nat.le_of_ble_eq_true rfl) (by omega) (fun r9 M4 h9 => ?_)
          obtain ⟨rfl, hA4⟩ := h9
          have hL := hA4
          show WP sc0 41 m_L_isExtended 67 [vR 42, vI (2 : Int), vI ((n : Nat) : Int), vI (extV n k sz ce), vU, vU, vU, vU, vU, vU] [vI ((k : Nat) : Int)] M4 (fun z M' => z = some (vI 1) ∧ ∃ S9, S9.1 = (n, k, sz, ce) ∧ AT M S9 M')
          refine WP.bipush dL_isExtended_67 (by decide) ?_
          refine WP.icmp_ge (tgt := 90) dL_isExtended_69 (by decide) (by omega) (by omega) (fun h69 => ?_) (fun h69 => ?_)
          · skip
            have hk7 : k = 7 := by omega
            refine WP.aload_n dL_isExtended_90 rfl ?_
            refine WP.iload_n dL_isExtended_91 rfl ?_
            refine WP.callV (as := [vI (2 : Int)]) dL_isExtended_92 mv_L_66 rfl (rfl) (by decide) rfl rfl (z_extend_q hL (ex_full hns hk7)) rfl (Nat.le_of_ble_eq_true rfl) (by omega) (fun r9 M5 h9 => ?_)
            obtain ⟨rfl, hA5⟩ := h9
            have hL := hA5
            show WP sc0 41 m_L_isExtended 95 [vR 42, vI (2 : Int), vI ((n : Nat) : Int), vI (extV n k sz ce), vU, vU, vU, vU, vU, vU] [vI (-3 : Int)] M5 (fun z M' => z = some (vI 1) ∧ ∃ S9, S9.1 = (n, k, sz, ce) ∧ AT M S9 M')
            refine WP.bipush dL_isExtended_95 (by decide) ?_
            refine WP.icmp_ne (tgt := 104) dL_isExtended_97 (by decide) (by omega) (by omega) (fun h97 => ?_) (fun h97 => ?_)
            · skip
              exfalso
              omega
            · skip
              refine WP.iconst dL_isExtended_100 ?_
              refine WP.goto (tgt := 105) dL_isExtended_101 (by decide) ?_
              refine WP.zret dL_isExtended_105 rfl (by decide) ?_
              exact ⟨rfl, _, rfl, hL⟩
          · skip
            have hk7 : k ≠ 7 := by omega
            refine WP.aload_n dL_isExtended_72 rfl ?_
            refine WP.iload_n dL_isExtended_73 rfl ?_
            refine WP.callV (as := [vI (2 : Int)]) dL_isExtended_74 mv_L_66 rfl (rfl) (by decide) rfl rfl (z_extend_q hL (ex_none hns hk7 hE)) rfl (Nat.le_of_ble_eq_true rfl) (by omega) (fun r9 M5 h9 => ?_)
            obtain ⟨rfl, hA5⟩ := h9
            have hL := hA5
            show WP sc0 41 m_L_isExtended 77 [vR 42, vI (2 : Int), vI ((n : Nat) : Int), vI (extV n k sz ce), vU, vU, vU, vU, vU, vU] [vI (-9 : Int)] M5 (fun z M' => z = some (vI 1) ∧ ∃ S9, S9.1 = (n, k, sz, ce) ∧ AT M S9 M')
            refine WP.bipush dL_isExtended_77 (by decide) ?_
            refine WP.icmp_ne (tgt := 86) dL_isExtended_79 (by decide) (by omega) (by omega) (fun h79 => ?_) (fun h79 => ?_)
            · skip
              exfalso
              omega
            · skip
              refine WP.iconst dL_isExtended_82 ?_
              refine WP.goto (tgt := 105) dL_isExtended_83 (by decide) ?_
              refine WP.zret dL_isExtended_105 rfl (by decide) ?_
              exact ⟨rfl, _, rfl, hL⟩
      · skip
        have hE : ∃ x, ext n k sz ce 2 x := by
          rcases hev with q | q
          · exact q.1
          · exact absurd q.2 h43
        refine WP.aload_n dL_isExtended_46 rfl ?_
        refine WP.iconst dL_isExtended_47 ?_
        refine WP.callV (as := [vI (1 : Int)]) dL_isExtended_48 mv_L_9 rfl (rfl) (by decide) rfl rfl (z_told1 hL) rfl (Nat.le_of_ble_eq_true rfl) (by omega) (fun r9 M3 h9 => ?_)
        obtain ⟨rfl, hA3⟩ := h9
        have hL := hA3
        show WP sc0 41 m_L_isExtended 51 [vR 42, vI (2 : Int), vI ((n : Nat) : Int), vI (extV n k sz ce), vU, vU, vU, vU, vU, vU] [vI ((k : Nat) : Int)] M3 (fun z M' => z = some (vI 1) ∧ ∃ S9, S9.1 = (n, k, sz, ce) ∧ AT M S9 M')
        refine WP.bipush dL_isExtended_51 (by decide) ?_
        refine WP.icmp_ne (tgt := 106) dL_isExtended_53 (by decide) (by omega) (by omega) (fun h53 => ?_) (fun h53 => ?_)
        · skip
          have hk7 : k ≠ 7 := by omega
          have hl0 := lxE_0 (lv := 2) (by decide) (show 0 < n by omega) hE
          have hl1 := lxE_r (r := n - 1) hE (by omega)
          have hW2 := Wf_ex hW (by omega) hE
          have hxx := lxE_ext (lv := 2) (by decide) hE
          have hp2 := pw7 hW2.2.1
          refine WP.aload_n dL_isExtended_106 rfl ?_
          refine WP.iload_n dL_isExtended_107 rfl ?_
          refine WP.iconst dL_isExtended_108 ?_
          refine WP.eqs (st' := [vI ((0 : Nat) : Int), vI (2 : Int), vR 42]) rfl (lc (congrArg vI (rfl)) (lc (rfl) (rfl))) ?_
          refine WP.callV (as := [vI (2 : Int), vI ((0 : Nat) : Int)]) dL_isExtended_109 mv_L_81 rfl (rfl) (by decide) rfl rfl (z_ext_r (r := 0) hL hns hE (show 0 < n by omega)) rfl (Nat.le_of_ble_eq_true rfl) (by omega) (fun r9 M4 h9 => ?_)
          obtain ⟨rfl, hA4⟩ := h9
          have hL := hA4
          show WP sc0 41 m_L_isExtended 112 [vR 42, vI (2 : Int), vI ((n : Nat) : Int), vI (extV n k sz ce), vU, vU, vU, vU, vU, vU] [vI ((lxE n k sz ce 2 0 : Nat) : Int)] M4 (fun z M' => z = some (vI 1) ∧ ∃ S9, S9.1 = (n, k, sz, ce) ∧ AT M S9 M')
          refine WP.istore (lt := [vR 42, vI (2 : Int), vI ((n : Nat) : Int), vI (extV n k sz ce), vI ((lxE n k sz ce 2 0 : Nat) : Int), vU, vU, vU, vU, vU]) dL_isExtended_112 (by decide) rfl ?_
          refine WP.aload_n dL_isExtended_114 rfl ?_
          refine WP.iload_n dL_isExtended_115 rfl ?_
          refine WP.iload_n dL_isExtended_116 rfl ?_
          refine WP.iconst dL_isExtended_117 ?_
          refine WP.isub dL_isExtended_118 ?_
          refine WP.eqs (st' := [vI (((n - 1) : Nat) : Int), vI (2 : Int), vR 42]) rfl (lc (congrArg vI (by omega)) (lc (rfl) (rfl))) ?_
          refine WP.callV (as := [vI (2 : Int), vI (((n - 1) : Nat) : Int)]) dL_isExtended_119 mv_L_81 rfl (rfl) (by decide) rfl rfl (z_ext_r (r := n - 1) hL hns hE (show n - 1 < n by omega)) rfl (Nat.le_of_ble_eq_true rfl) (by omega) (fun r9 M5 h9 => ?_)
          obtain ⟨rfl, hA5⟩ := h9
          have hL := hA5
          show WP sc0 41 m_L_isExtended 122 [vR 42, vI (2 : Int), vI ((n : Nat) : Int), vI (extV n k sz ce), vI ((lxE n k sz ce 2 0 : Nat) : Int), vU, vU, vU, vU, vU] [vI ((lxE n k sz ce 2 (n - 1) : Nat) : Int)] M5 (fun z M' => z = some (vI 1) ∧ ∃ S9, S9.1 = (n, k, sz, ce) ∧ AT M S9 M')
          refine WP.istore (lt := [vR 42, vI (2 : Int), vI ((n : Nat) : Int), vI (extV n k sz ce), vI ((lxE n k sz ce 2 0 : Nat) : Int), vI ((lxE n k sz ce 2 (n - 1) : Nat) : Int), vU, vU, vU, vU]) dL_isExtended_122 (by decide) rfl ?_
          refine WP.aload_n dL_isExtended_124 rfl ?_
          refine WP.iconst dL_isExtended_125 ?_
          refine WP.callV (as := [vI (1 : Int)]) dL_isExtended_126 mv_L_9 rfl (rfl) (by decide) rfl rfl (z_told1 hL) rfl (Nat.le_of_ble_eq_true rfl) (by omega) (fun r9 M6 h9 => ?_)
          obtain ⟨rfl, hA6⟩ := h9
          have hL := hA6
          show WP sc0 41 m_L_isExtended 129 [vR 42, vI (2 : Int), vI ((n : Nat) : Int), vI (extV n k sz ce), vI ((lxE n k sz ce 2 0 : Nat) : Int), vI ((lxE n k sz ce 2 (n - 1) : Nat) : Int), vU, vU, vU, vU] [vI ((k : Nat) : Int)] M6 (fun z M' => z = some (vI 1) ∧ ∃ S9, S9.1 = (n, k, sz, ce) ∧ AT M S9 M')
          refine WP.istore (lt := [vR 42, vI (2 : Int), vI ((n : Nat) : Int), vI (extV n k sz ce), vI ((lxE n k sz ce 2 0 : Nat) : Int), vI ((lxE n k sz ce 2 (n - 1) : Nat) : Int), vI ((k : Nat) : Int), vU, vU, vU]) dL_isExtended_129 (by decide) rfl ?_
          refine WP.iload_n dL_isExtended_131 rfl ?_
          refine WP.iload_n dL_isExtended_132 rfl ?_
          refine WP.icmp_ne (tgt := 181) dL_isExtended_133 (by decide) (by omega) (by omega) (fun h133 => ?_) (fun h133 => ?_)
          · skip
            rcases hev with q | q
            · exact absurd q.2 h133
            · exact absurd hE q.1
          · skip
            refine WP.iload dL_isExtended_136 rfl ?_
            refine WP.if_ne (tgt := 181) dL_isExtended_138 (by decide) (by omega) (fun h138 => ?_) (fun h138 => ?_)
            · skip
              exfalso
              omega
            · skip
              refine WP.aload_n dL_isExtended_141 rfl ?_
              refine WP.iload_n dL_isExtended_142 rfl ?_
              refine WP.callV (as := [vI (2 : Int)]) dL_isExtended_143 mv_L_66 rfl (rfl) (by decide) rfl rfl (z_extend_q hL (ex_some hns hk7 hE)) rfl (Nat.le_of_ble_eq_true rfl) (by omega) (fun r9 M7 h9 => ?_)
              obtain ⟨rfl, hA7⟩ := h9
              have hL : AT M (chg (mkS n k sz ce h hs im len tx) (n, k + 1, apS sz k 2, apC ce k (lxE n k sz ce 2))) M7 := hA7
              show WP sc0 41 m_L_isExtended 146 [vR 42, vI (2 : Int), vI ((n : Nat) : Int), vI (extV n k sz ce), vI ((lxE n k sz ce 2 0 : Nat) : Int), vI ((lxE n k sz ce 2 (n - 1) : Nat) : Int), vI ((k : Nat) : Int), vU, vU, vU] [vI ((k : Nat) : Int)] M7 (fun z M' => z = some (vI 1) ∧ ∃ S9, S9.1 = (n, k, sz, ce) ∧ AT M S9 M')
              refine WP.iload dL_isExtended_146 rfl ?_
              refine WP.icmp_ne (tgt := 181) dL_isExtended_148 (by decide) (by omega) (by omega) (fun h148 => ?_) (fun h148 => ?_)
              · skip
                exfalso
                omega
              · skip
                refine WP.aload_n dL_isExtended_151 rfl ?_
                refine WP.iconst dL_isExtended_152 ?_
                refine WP.iload dL_isExtended_153 rfl ?_
                refine WP.eqs (st' := [vI ((k : Nat) : Int), vI ((0 : Nat) : Int), vR 42]) rfl (lc (rfl) (lc (congrArg vI (rfl)) (rfl))) ?_
                refine WP.callV (as := [vI ((0 : Nat) : Int), vI ((k : Nat) : Int)]) dL_isExtended_155 mv_L_84 rfl (rfl) (by decide) rfl rfl (z_cell_v (r := 0) (c := k) (v := lxE n k sz ce 2 0) hL (show 0 < n by omega) (show k < k + 1 by omega) (if_pos rfl)) rfl (Nat.le_of_ble_eq_true rfl) (by omega) (fun r9 M8 h9 => ?_)
                obtain ⟨rfl, hA8⟩ := h9
                have hL := hA8
                show WP sc0 41 m_L_isExtended 158 [vR 42, vI (2 : Int), vI ((n : Nat) : Int), vI (extV n k sz ce), vI ((lxE n k sz ce 2 0 : Nat) : Int), vI ((lxE n k sz ce 2 (n - 1) : Nat) : Int), vI ((k : Nat) : Int), vU, vU, vU] [vI ((lxE n k sz ce 2 0 : Nat) : Int)] M8 (fun z M' => z = some (vI 1) ∧ ∃ S9, S9.1 = (n, k, sz, ce) ∧ AT M S9 M')
                refine WP.iload dL_isExtended_158 rfl ?_
                refine WP.icmp_ne (tgt := 181) dL_isExtended_160 (by decide) (by omega) (by omega) (fun h160 => ?_) (fun h160 => ?_)
                · skip
                  exfalso
                  omega
                · skip
                  refine WP.aload_n dL_isExtended_163 rfl ?_
                  refine WP.iload_n dL_isExtended_164 rfl ?_
                  refine WP.iconst dL_isExtended_165 ?_
                  refine WP.isub dL_isExtended_166 ?_
                  refine WP.iload dL_isExtended_167 rfl ?_
                  refine WP.eqs (st' := [vI ((k : Nat) : Int), vI (((n - 1) : Nat) : Int), vR 42]) rfl (lc (rfl) (lc (congrArg vI (by omega)) (rfl))) ?_
                  refine WP.callV (as := [vI (((n - 1) : Nat) : Int), vI ((k : Nat) : Int)]) dL_isExtended_169 mv_L_84 rfl (rfl) (by decide) rfl rfl (z_cell_v (r := n - 1) (c := k) (v := lxE n k sz ce 2 (n - 1)) hL (show n - 1 < n by omega) (show k < k + 1 by omega) (if_pos rfl)) rfl (Nat.le_of_ble_eq_true rfl) (by omega) (fun r9 N1 h9 => ?_)
                  obtain ⟨rfl, hB1⟩ := h9
                  have hL := hB1
                  show WP sc0 41 m_L_isExtended 172 [vR 42, vI (2 : Int), vI ((n : Nat) : Int), vI (extV n k sz ce), vI ((lxE n k sz ce 2 0 : Nat) : Int), vI ((lxE n k sz ce 2 (n - 1) : Nat) : Int), vI ((k : Nat) : Int), vU, vU, vU] [vI ((lxE n k sz ce 2 (n - 1) : Nat) : Int)] N1 (fun z M' => z = some (vI 1) ∧ ∃ S9, S9.1 = (n, k, sz, ce) ∧ AT M S9 M')
                  refine WP.iload dL_isExtended_172 rfl ?_
                  refine WP.icmp_ne (tgt := 181) dL_isExtended_174 (by decide) (by omega) (by omega) (fun h174 => ?_) (fun h174 => ?_)
                  · skip
                    exfalso
                    omega
                  · skip
                    refine WP.iconst dL_isExtended_177 ?_
                    refine WP.goto (tgt := 182) dL_isExtended_178 (by decide) ?_
                    refine WP.istore (lt := [vR 42, vI (2 : Int), vI ((n : Nat) : Int), vI (extV n k sz ce), vI ((lxE n k sz ce 2 0 : Nat) : Int), vI ((lxE n k sz ce 2 (n - 1) : Nat) : Int), vI ((k : Nat) : Int), vI (1 : Int), vU, vU]) dL_isExtended_182 (by decide) rfl ?_
                    refine WP.iconst dL_isExtended_184 ?_
                    refine WP.iload dL_isExtended_185 rfl ?_
                    refine WP.ishl (z := ((2 ^ k : Nat) : Int)) dL_isExtended_187 (shl_ok k (by omega)) ?_
                    refine WP.istore (lt := [vR 42, vI (2 : Int), vI ((n : Nat) : Int), vI (extV n k sz ce), vI ((lxE n k sz ce 2 0 : Nat) : Int), vI ((lxE n k sz ce 2 (n - 1) : Nat) : Int), vI ((k : Nat) : Int), vI (1 : Int), vI ((2 ^ k : Nat) : Int), vU]) dL_isExtended_188 (by decide) rfl ?_
                    have hpk : 2 ^ k ≤ 2 ^ (k + 1) := Nat.pow_le_pow_right (by decide) (by omega)
                    have L190 : ∀ (n9 : Nat) (s : Nat) (Ma : Mem) (hs1 : 2 ^ k ≤ s) (hs2 : s ≤ 2 ^ (k + 1)) (hAa : AT M (chg (mkS n k sz ce h hs im len tx) (n, k + 1, apS sz k 2, apC ce k (lxE n k sz ce 2))) Ma), 2 ^ (k + 1) - s < n9 → WP sc0 41 m_L_isExtended 190 [vR 42, vI (2 : Int), vI ((n : Nat) : Int), vI (extV n k sz ce), vI ((lxE n k sz ce 2 0 : Nat) : Int), vI ((lxE n k sz ce 2 (n - 1) : Nat) : Int), vI ((k : Nat) : Int), vI (1 : Int), vI ((s : Nat) : Int), vU] [] Ma (fun z M' => z = some (vI 1) ∧ ∃ S9, S9.1 = (n, k, sz, ce) ∧ AT M S9 M') := by
                      intro n9
                      induction n9 with
                      | zero =>
                        intro s Ma hs1 hs2 hAa hm9
                        exact absurd hm9 (Nat.not_lt_zero _)
                      | succ n9 ih190 =>
                        intro s Ma hs1 hs2 hAa hm9
                        refine WP.iload dL_isExtended_190 rfl ?_
                        refine WP.iconst dL_isExtended_192 ?_
                        refine WP.iload dL_isExtended_193 rfl ?_
                        refine WP.ishl (z := ((2 ^ (k + 1) : Nat) : Int)) dL_isExtended_195 (shl_2 k (by omega)) ?_
                        refine WP.icmp_ge (tgt := 267) dL_isExtended_196 (by decide) (by omega) (by omega) (fun h196 => ?_) (fun h196 => ?_)
                        · skip
                          have hL := hAa
                          refine WP.iload dL_isExtended_267 rfl ?_
                          refine WP.if_eq (tgt := 293) dL_isExtended_269 (by decide) (by omega) (fun h269 => ?_) (fun h269 => ?_)
                          · skip
                            exfalso
                            omega
                          · skip
                            refine WP.aload_n dL_isExtended_272 rfl ?_
                            refine WP.callV (as := []) dL_isExtended_273 mv_L_24 rfl (rfl) (by decide) rfl rfl (z_undo hL) rfl (Nat.le_of_ble_eq_true rfl) (by omega) (fun r9 Mf h9 => ?_)
                            obtain ⟨rfl, hAf⟩ := h9
                            obtain ⟨un1, un2, un3⟩ := un_chg (S := (mkS n k sz ce h hs im len tx)) (A := (n, k + 1, apS sz k 2, apC ce k (lxE n k sz ce 2))) hh8
                            show WP sc0 41 m_L_isExtended 276 [vR 42, vI (2 : Int), vI ((n : Nat) : Int), vI (extV n k sz ce), vI ((lxE n k sz ce 2 0 : Nat) : Int), vI ((lxE n k sz ce 2 (n - 1) : Nat) : Int), vI ((k : Nat) : Int), vI (1 : Int), vI ((s : Nat) : Int), vU] [vI ((o_undo (chg (mkS n k sz ce h hs im len tx) (n, k + 1, apS sz k 2, apC ce k (lxE n k sz ce 2)))).1)] Mf (fun z M' => z = some (vI 1) ∧ ∃ S9, S9.1 = (n, k, sz, ce) ∧ AT M S9 M')
                            refine WP.if_lt (tgt := 293) dL_isExtended_276 (by decide) (by omega) (fun h276 => ?_) (fun h276 => ?_)
                            · skip
                              exfalso
                              omega
                            · skip
                              refine WP.aload_n dL_isExtended_279 rfl ?_
                              refine WP.iconst dL_isExtended_280 ?_
                              refine WP.callV (as := [vI (1 : Int)]) dL_isExtended_281 mv_L_9 rfl (rfl) (by decide) rfl rfl (z_columns hAf (k := k) (by rw [un1])) rfl (Nat.le_of_ble_eq_true rfl) (by omega) (fun r9 Mg h9 => ?_)
                              obtain ⟨rfl, hAg⟩ := h9
                              show WP sc0 41 m_L_isExtended 284 [vR 42, vI (2 : Int), vI ((n : Nat) : Int), vI (extV n k sz ce), vI ((lxE n k sz ce 2 0 : Nat) : Int), vI ((lxE n k sz ce 2 (n - 1) : Nat) : Int), vI ((k : Nat) : Int), vI (1 : Int), vI ((s : Nat) : Int), vU] [vI ((k : Nat) : Int)] Mg (fun z M' => z = some (vI 1) ∧ ∃ S9, S9.1 = (n, k, sz, ce) ∧ AT M S9 M')
                              refine WP.iload dL_isExtended_284 rfl ?_
                              refine WP.icmp_ne (tgt := 293) dL_isExtended_286 (by decide) (by omega) (by omega) (fun h286 => ?_) (fun h286 => ?_)
                              · skip
                                exfalso
                                omega
                              · skip
                                refine WP.iconst dL_isExtended_289 ?_
                                refine WP.goto (tgt := 294) dL_isExtended_290 (by decide) ?_
                                refine WP.zret dL_isExtended_294 rfl (by decide) ?_
                                exact ⟨rfl, _, un1, hAg⟩
                        · skip
                          have hs3 : s < 2 ^ (k + 1) := by omega
                          have hb := tps_b (sz := apS sz k 2) (set := s) hW2.2.1 (fun c hc => (hW2.2.2.1 c hc).2)
                          refine WP.iconst dL_isExtended_199 ?_
                          refine WP.istore (lt := [vR 42, vI (2 : Int), vI ((n : Nat) : Int), vI (extV n k sz ce), vI ((lxE n k sz ce 2 0 : Nat) : Int), vI ((lxE n k sz ce 2 (n - 1) : Nat) : Int), vI ((k : Nat) : Int), vI (1 : Int), vI ((s : Nat) : Int), vI (0 : Int)]) dL_isExtended_200 (by decide) rfl ?_
                          have L202 : ∀ (n9 : Nat) (y : Nat) (Mb : Mem) (hy : y ≤ (tps (apS sz k 2) s (k + 1))) (hAb : AT M (chg (mkS n k sz ce h hs im len tx) (n, k + 1, apS sz k 2, apC ce k (lxE n k sz ce 2))) Mb), (tps (apS sz k 2) s (k + 1)) - y < n9 → WP sc0 41 m_L_isExtended 202 [vR 42, vI (2 : Int), vI ((n : Nat) : Int), vI (extV n k sz ce), vI ((lxE n k sz ce 2 0 : Nat) : Int), vI ((lxE n k sz ce 2 (n - 1) : Nat) : Int), vI ((k : Nat) : Int), vI (1 : Int), vI ((s : Nat) : Int), vI ((y : Nat) : Int)] [] Mb (fun z M' => z = some (vI 1) ∧ ∃ S9, S9.1 = (n, k, sz, ce) ∧ AT M S9 M') := by
                            intro n9
                            induction n9 with
                            | zero =>
                              intro y Mb hy hAb hm9
                              exact absurd hm9 (Nat.not_lt_zero _)
                            | succ n9 ih202 =>
                              intro y Mb hy hAb hm9
                              have v1 := cntv_rng (n := n) (k := k + 1) (s := s) (y := y) (sz := apS sz k 2) (ce := apC ce k (lxE n k sz ce 2)) b1
                              have v0 := popn_r (s := s)
                              refine WP.iload dL_isExtended_202 rfl ?_
                              refine WP.callSp (as := [vI ((s : Nat) : Int)]) dL_isExtended_204 ms_L_69 rfl (c_L_size (set := s) (by omega)) rfl (Nat.le_of_ble_eq_true rfl) (by omega) ?_
                              refine WP.iconst dL_isExtended_207 ?_
                              refine WP.icmp_ge (tgt := 261) dL_isExtended_208 (by decide) (by omega) (by omega) (fun h208 => ?_) (fun h208 => ?_)
                              · skip
                                refine WP.iinc (lt := [vR 42, vI (2 : Int), vI ((n : Nat) : Int), vI (extV n k sz ce), vI ((lxE n k sz ce 2 0 : Nat) : Int), vI ((lxE n k sz ce 2 (n - 1) : Nat) : Int), vI ((k : Nat) : Int), vI (1 : Int), vI (((s : Nat) : Int) + 1), vI ((y : Nat) : Int)]) dL_isExtended_261 rfl (by decide) rfl ?_
                                refine WP.goto (tgt := 190) dL_isExtended_264 (by decide) ?_
                                refine WP.fgt (lt := [vR 42, vI (2 : Int), vI ((n : Nat) : Int), vI (extV n k sz ce), vI ((lxE n k sz ce 2 0 : Nat) : Int), vI ((lxE n k sz ce 2 (n - 1) : Nat) : Int), vI ((k : Nat) : Int), vI (1 : Int), vI (((s + 1) : Nat) : Int), vU]) ⟨Or.inr rfl, Or.inr rfl, Or.inr rfl, Or.inr rfl, Or.inr rfl, Or.inr rfl, Or.inr rfl, Or.inr rfl, Or.inr (congrArg vI (by omega)), Or.inl rfl, trivial⟩ ?_
                                exact ih190 (s + 1) (Mb) (by omega) (by omega) (hAb) (by omega)
                              · skip
                                refine WP.aload_n dL_isExtended_211 rfl ?_
                                refine WP.iload dL_isExtended_212 rfl ?_
                                refine WP.iload dL_isExtended_214 rfl ?_
                                refine WP.callV (as := [vI ((s : Nat) : Int), vI ((y : Nat) : Int)]) dL_isExtended_216 mv_L_72 rfl (rfl) (by decide) rfl rfl (z_count_v (s := s) (y := y) hAb hs3 (by omega)) rfl (Nat.le_of_ble_eq_true rfl) (by omega) (fun r9 Mc h9 => ?_)
                                obtain ⟨rfl, hAc⟩ := h9
                                show WP sc0 41 m_L_isExtended 219 [vR 42, vI (2 : Int), vI ((n : Nat) : Int), vI (extV n k sz ce), vI ((lxE n k sz ce 2 0 : Nat) : Int), vI ((lxE n k sz ce 2 (n - 1) : Nat) : Int), vI ((k : Nat) : Int), vI (1 : Int), vI ((s : Nat) : Int), vI ((y : Nat) : Int)] [vI (cntv n (k + 1) (apS sz k 2) (apC ce k (lxE n k sz ce 2)) s y)] Mc (fun z M' => z = some (vI 1) ∧ ∃ S9, S9.1 = (n, k, sz, ce) ∧ AT M S9 M')
                                refine WP.if_lt (tgt := 261) dL_isExtended_219 (by decide) (by omega) (fun h219 => ?_) (fun h219 => ?_)
                                · skip
                                  refine WP.iinc (lt := [vR 42, vI (2 : Int), vI ((n : Nat) : Int), vI (extV n k sz ce), vI ((lxE n k sz ce 2 0 : Nat) : Int), vI ((lxE n k sz ce 2 (n - 1) : Nat) : Int), vI ((k : Nat) : Int), vI (1 : Int), vI (((s : Nat) : Int) + 1), vI ((y : Nat) : Int)]) dL_isExtended_261 rfl (by decide) rfl ?_
                                  refine WP.goto (tgt := 190) dL_isExtended_264 (by decide) ?_
                                  refine WP.fgt (lt := [vR 42, vI (2 : Int), vI ((n : Nat) : Int), vI (extV n k sz ce), vI ((lxE n k sz ce 2 0 : Nat) : Int), vI ((lxE n k sz ce 2 (n - 1) : Nat) : Int), vI ((k : Nat) : Int), vI (1 : Int), vI (((s + 1) : Nat) : Int), vU]) ⟨Or.inr rfl, Or.inr rfl, Or.inr rfl, Or.inr rfl, Or.inr rfl, Or.inr rfl, Or.inr rfl, Or.inr rfl, Or.inr (congrArg vI (by omega)), Or.inl rfl, trivial⟩ ?_
                                  exact ih190 (s + 1) (Mc) (by omega) (by omega) (hAc) (by omega)
                                · skip
                                  have hy2 := cntv_nn h219
                                  have hbal := ap_bal hW2 hxx hs3 hs1 (by omega)
                                  have heq := bal_eq hW2 hbal hy2
                                  refine WP.iload dL_isExtended_222 rfl ?_
                                  refine WP.if_eq (tgt := 249) dL_isExtended_224 (by decide) (by omega) (fun h224 => ?_) (fun h224 => ?_)
                                  · skip
                                    exfalso
                                    omega
                                  · skip
                                    refine WP.aload_n dL_isExtended_227 rfl ?_
                                    refine WP.iload dL_isExtended_228 rfl ?_
                                    refine WP.iload dL_isExtended_230 rfl ?_
                                    refine WP.callV (as := [vI ((s : Nat) : Int), vI ((y : Nat) : Int)]) dL_isExtended_232 mv_L_72 rfl (rfl) (by decide) rfl rfl (z_count_in (s := s) (y := y) hAc hs3 hy2) rfl (Nat.le_of_ble_eq_true rfl) (by omega) (fun r9 Md h9 => ?_)
                                    obtain ⟨rfl, hAd⟩ := h9
                                    show WP sc0 41 m_L_isExtended 235 [vR 42, vI (2 : Int), vI ((n : Nat) : Int), vI (extV n k sz ce), vI ((lxE n k sz ce 2 0 : Nat) : Int), vI ((lxE n k sz ce 2 (n - 1) : Nat) : Int), vI ((k : Nat) : Int), vI (1 : Int), vI ((s : Nat) : Int), vI ((y : Nat) : Int)] [vI ((ctA n (k + 1) (apS sz k 2) (apC ce k (lxE n k sz ce 2)) s y : Nat) : Int)] Md (fun z M' => z = some (vI 1) ∧ ∃ S9, S9.1 = (n, k, sz, ce) ∧ AT M S9 M')
                                    refine WP.aload_n dL_isExtended_235 rfl ?_
                                    refine WP.iload dL_isExtended_236 rfl ?_
                                    refine WP.iconst dL_isExtended_238 ?_
                                    refine WP.eqs (st' := [vI ((0 : Nat) : Int), vI ((s : Nat) : Int), vR 42, vI ((ctA n (k + 1) (apS sz k 2) (apC ce k (lxE n k sz ce 2)) s y : Nat) : Int)]) rfl (lc (congrArg vI (rfl)) (lc (rfl) (rfl))) ?_
                                    refine WP.callV (as := [vI ((s : Nat) : Int), vI ((0 : Nat) : Int)]) dL_isExtended_239 mv_L_72 rfl (rfl) (by decide) rfl rfl (z_count_in (s := s) (y := 0) hAd hs3 (show 0 < (tps (apS sz k 2) s (k + 1)) by omega)) rfl (Nat.le_of_ble_eq_true rfl) (by omega) (fun r9 Me h9 => ?_)
                                    obtain ⟨rfl, hAe⟩ := h9
                                    show WP sc0 41 m_L_isExtended 242 [vR 42, vI (2 : Int), vI ((n : Nat) : Int), vI (extV n k sz ce), vI ((lxE n k sz ce 2 0 : Nat) : Int), vI ((lxE n k sz ce 2 (n - 1) : Nat) : Int), vI ((k : Nat) : Int), vI (1 : Int), vI ((s : Nat) : Int), vI ((y : Nat) : Int)] [vI ((ctA n (k + 1) (apS sz k 2) (apC ce k (lxE n k sz ce 2)) s 0 : Nat) : Int), vI ((ctA n (k + 1) (apS sz k 2) (apC ce k (lxE n k sz ce 2)) s y : Nat) : Int)] Me (fun z M' => z = some (vI 1) ∧ ∃ S9, S9.1 = (n, k, sz, ce) ∧ AT M S9 M')
                                    refine WP.icmp_ne (tgt := 249) dL_isExtended_242 (by decide) (by have := f_le (n := n) (k := k + 1) (sz := apS sz k 2) (ce := apC ce k (lxE n k sz ce 2)) (set := s) (v := y); omega) (by have := f_le (n := n) (k := k + 1) (sz := apS sz k 2) (ce := apC ce k (lxE n k sz ce 2)) (set := s) (v := 0); omega) (fun h242 => ?_) (fun h242 => ?_)
                                    · skip
                                      exfalso
                                      omega
                                    · skip
                                      refine WP.iconst dL_isExtended_245 ?_
                                      refine WP.goto (tgt := 250) dL_isExtended_246 (by decide) ?_
                                      refine WP.istore (lt := [vR 42, vI (2 : Int), vI ((n : Nat) : Int), vI (extV n k sz ce), vI ((lxE n k sz ce 2 0 : Nat) : Int), vI ((lxE n k sz ce 2 (n - 1) : Nat) : Int), vI ((k : Nat) : Int), vI (1 : Int), vI ((s : Nat) : Int), vI ((y : Nat) : Int)]) dL_isExtended_250 (by decide) rfl ?_
                                      refine WP.iload dL_isExtended_252 rfl ?_
                                      refine WP.iconst dL_isExtended_254 ?_
                                      refine WP.iadd dL_isExtended_255 ?_
                                      refine WP.istore (lt := [vR 42, vI (2 : Int), vI ((n : Nat) : Int), vI (extV n k sz ce), vI ((lxE n k sz ce 2 0 : Nat) : Int), vI ((lxE n k sz ce 2 (n - 1) : Nat) : Int), vI ((k : Nat) : Int), vI (1 : Int), vI ((s : Nat) : Int), vI (((y : Nat) : Int) + (1 : Int))]) dL_isExtended_256 (by decide) rfl ?_
                                      refine WP.goto (tgt := 202) dL_isExtended_258 (by decide) ?_
                                      refine WP.fgt (lt := [vR 42, vI (2 : Int), vI ((n : Nat) : Int), vI (extV n k sz ce), vI ((lxE n k sz ce 2 0 : Nat) : Int), vI ((lxE n k sz ce 2 (n - 1) : Nat) : Int), vI ((k : Nat) : Int), vI (1 : Int), vI ((s : Nat) : Int), vI (((y + 1) : Nat) : Int)]) ⟨Or.inr rfl, Or.inr rfl, Or.inr rfl, Or.inr rfl, Or.inr rfl, Or.inr rfl, Or.inr rfl, Or.inr rfl, Or.inr rfl, Or.inr (congrArg vI (by omega)), trivial⟩ ?_
                                      exact ih202 (y + 1) (Me) (by omega) (hAe) (by omega)
                          refine WP.fgt (lt := [vR 42, vI (2 : Int), vI ((n : Nat) : Int), vI (extV n k sz ce), vI ((lxE n k sz ce 2 0 : Nat) : Int), vI ((lxE n k sz ce 2 (n - 1) : Nat) : Int), vI ((k : Nat) : Int), vI (1 : Int), vI ((s : Nat) : Int), vI ((0 : Nat) : Int)]) ⟨Or.inr rfl, Or.inr rfl, Or.inr rfl, Or.inr rfl, Or.inr rfl, Or.inr rfl, Or.inr rfl, Or.inr rfl, Or.inr rfl, Or.inr (congrArg vI (by omega)), trivial⟩ ?_
                          exact L202 _ (0) (Ma) (Nat.zero_le _) (hAa) (Nat.lt_succ_self _)
                    refine WP.fgt (lt := [vR 42, vI (2 : Int), vI ((n : Nat) : Int), vI (extV n k sz ce), vI ((lxE n k sz ce 2 0 : Nat) : Int), vI ((lxE n k sz ce 2 (n - 1) : Nat) : Int), vI ((k : Nat) : Int), vI (1 : Int), vI (((2 ^ k) : Nat) : Int), vU]) ⟨Or.inr rfl, Or.inr rfl, Or.inr rfl, Or.inr rfl, Or.inr rfl, Or.inr rfl, Or.inr rfl, Or.inr rfl, Or.inr (congrArg vI (by omega)), Or.inl rfl, trivial⟩ ?_
                    exact L190 _ (2 ^ k) (N1) (Nat.le_refl _) (hpk) (hL) (Nat.lt_succ_self _)
        · skip
          have hk7 : k = 7 := by omega
          refine WP.iload_n dL_isExtended_56 rfl ?_
          refine WP.bipush dL_isExtended_57 (by decide) ?_
          refine WP.icmp_ne (tgt := 90) dL_isExtended_59 (by decide) (by omega) (by omega) (fun h59 => ?_) (fun h59 => ?_)
          · skip
            refine WP.aload_n dL_isExtended_90 rfl ?_
            refine WP.iload_n dL_isExtended_91 rfl ?_
            refine WP.callV (as := [vI (2 : Int)]) dL_isExtended_92 mv_L_66 rfl (rfl) (by decide) rfl rfl (z_extend_q hL (ex_full hns hk7)) rfl (Nat.le_of_ble_eq_true rfl) (by omega) (fun r9 M5 h9 => ?_)
            obtain ⟨rfl, hA5⟩ := h9
            have hL := hA5
            show WP sc0 41 m_L_isExtended 95 [vR 42, vI (2 : Int), vI ((n : Nat) : Int), vI (extV n k sz ce), vU, vU, vU, vU, vU, vU] [vI (-3 : Int)] M5 (fun z M' => z = some (vI 1) ∧ ∃ S9, S9.1 = (n, k, sz, ce) ∧ AT M S9 M')
            refine WP.bipush dL_isExtended_95 (by decide) ?_
            refine WP.icmp_ne (tgt := 104) dL_isExtended_97 (by decide) (by omega) (by omega) (fun h97 => ?_) (fun h97 => ?_)
            · skip
              exfalso
              omega
            · skip
              refine WP.iconst dL_isExtended_100 ?_
              refine WP.goto (tgt := 105) dL_isExtended_101 (by decide) ?_
              refine WP.zret dL_isExtended_105 rfl (by decide) ?_
              exact ⟨rfl, _, rfl, hL⟩
          · skip
            exfalso
            omega
    · skip
      have hst : n = 0 ∨ 16 < n := by omega
      refine WP.aload_n dL_isExtended_16 rfl ?_
      refine WP.iload_n dL_isExtended_17 rfl ?_
      refine WP.iconst dL_isExtended_18 ?_
      refine WP.callV (as := [vI (2 : Int), vI ((-1) : Int)]) dL_isExtended_19 mv_L_81 rfl (rfl) (by decide) rfl rfl (z_ext_st hA9 hst) rfl (Nat.le_of_ble_eq_true rfl) (by omega) (fun r9 M1 h9 => ?_)
      obtain ⟨rfl, hA1⟩ := h9
      show WP sc0 41 m_L_isExtended 22 [vR 42, vI (2 : Int), vI ((n : Nat) : Int), vU, vU, vU, vU, vU, vU, vU] [vI (-2 : Int)] M1 (fun z M' => z = some (vI 1) ∧ ∃ S9, S9.1 = (n, k, sz, ce) ∧ AT M S9 M')
      refine WP.bipush dL_isExtended_22 (by decide) ?_
      refine WP.icmp_ne (tgt := 31) dL_isExtended_24 (by decide) (by omega) (by omega) (fun h24 => ?_) (fun h24 => ?_)
      · skip
        exfalso
        omega
      · skip
        refine WP.iconst dL_isExtended_27 ?_
        refine WP.goto (tgt := 32) dL_isExtended_28 (by decide) ?_
        refine WP.zret dL_isExtended_32 rfl (by decide) ?_
        exact ⟨rfl, _, rfl, hA1⟩
noncomputable def spV (n k : Nat) (sz : Nat → Nat) (ce : Nat → Nat → Nat) (t : Nat) : Int := cif (okT n k sz ce t aT) (spb n k sz ce t (2 ^ n - 1) : Int) (-9)
theorem z_sp_bad {M M1 : Mem} {S : ST} (hA : AT M S M1) {t : Nat} (ht : S.1.2.1 < t) (h2 : t < 100) : CT 40 m_X7_spare [vR 42, vI ((t : Nat) : Int)] M1 (fun z9 M2 => z9 = some (vI (-1)) ∧ AT M S M2) :=
  CT.mono (fun z9 M2 hh => ⟨hh.1.trans (congrArg (fun v => some (vI v)) (cif_f (fun z => by have := z.2; omega))), hh.2⟩) (z_spare (x := (t : Int)) hA (by omega))
theorem z_sp_st {M M1 : Mem} {S : ST} (hA : AT M S M1) {t : Nat} (ht : 1 ≤ t ∧ t ≤ S.1.2.1) (h2 : t < 100) (h : S.1.1 = 0 ∨ 12 < S.1.1) : CT 40 m_X7_spare [vR 42, vI ((t : Nat) : Int)] M1 (fun z9 M2 => z9 = some (vI (-2)) ∧ AT M S M2) :=
  CT.mono (fun z9 M2 hh => ⟨hh.1.trans (congrArg (fun v => some (vI v)) ((cif_t ⟨by omega, by omega⟩).trans (if_pos h))), hh.2⟩) (z_spare (x := (t : Int)) hA (by omega))
theorem z_sp_v {M M1 : Mem} {S : ST} (hA : AT M S M1) {t : Nat} (ht : 1 ≤ t ∧ t ≤ S.1.2.1) (h2 : t < 100) (h : ¬ (S.1.1 = 0 ∨ 12 < S.1.1)) : CT 40 m_X7_spare [vR 42, vI ((t : Nat) : Int)] M1 (fun z9 M2 => z9 = some (vI (spV S.1.1 S.1.2.1 S.1.2.2.1 S.1.2.2.2 t)) ∧ AT M S M2) :=
  CT.mono (fun z9 M2 hh => ⟨hh.1.trans (congrArg (fun v => some (vI v)) ((cif_t ⟨by omega, by omega⟩).trans (if_neg h))), hh.2⟩) (z_spare (x := (t : Int)) hA (by omega))
theorem p12_r {n : Nat} (h : n ≤ 12) : 2 ^ n ≤ 4096 := Nat.pow_le_pow_right (n := 2) (by decide) h
theorem spV_f {n k t : Nat} {sz : Nat → Nat} {ce : Nat → Nat → Nat} (hW : Wf n k sz ce) (hn : 0 < n) (ht : t ≤ k) : ((t ≤ stF (fun b => okT n k sz ce b aT) k ∧ 0 ≤ spV n k sz ce t) ∨ (stF (fun b => okT n k sz ce b aT) k < t ∧ spV n k sz ce t = -9)) ∧ spV n k sz ce t < ((2 ^ n : Nat) : Int) - 1 := by
  have hp : 2 ^ 1 ≤ 2 ^ n := Nat.pow_le_pow_right (by decide) hn
  have hs := str_ge hW ht
  by_cases e : okT n k sz ce t aT
  · have hv : spV n k sz ce t = (spb n k sz ce t (2 ^ n - 1) : Int) := cif_t e
    have hl := spb_lt (n := n) (k := k) (t := t) (sz := sz) (ce := ce) (2 ^ n - 1) (by omega)
    rw [hv]
    exact ⟨Or.inl ⟨hs.mpr e, Int.natCast_nonneg _⟩, by omega⟩
  · have hv : spV n k sz ce t = -9 := cif_f e
    rw [hv]
    refine ⟨Or.inr ⟨Nat.not_le.mp (fun z => e (hs.mp z)), rfl⟩, by omega⟩
set_option maxHeartbeats 4000000 in
set_option maxRecDepth 20000 in
theorem c_L_isSpared {M : Mem} {n k h len : Nat} {sz tx : Nat → Nat} {ce : Nat → Nat → Nat} {hs : Nat → AR} {im : Nat → Option AR} (hX : InvX M (mkS n k sz ce h hs im len tx)) {t : Nat} (ht1 : 1 ≤ t) (ht2 : t ≤ 2) : CT 41 m_L_isSpared [vR 42, vI ((t : Nat) : Int)] M (PX M ((1 : Int), (mkS n k sz ce h hs im len tx))) := by
  have hA0 := AT.start hX
  have hW : Wf n k sz ce := hX.1.2
  have b1 := hW.1
  have b2 := hW.2.1
  have hp128 := pw7 b2
  refine CT.ofWP (by decide +kernel) (Nat.le_of_ble_eq_true rfl) ?_
  show WP sc0 41 m_L_isSpared 0 [vR 42, vI ((t : Nat) : Int), vU, vU] [] M (PX M ((1 : Int), (mkS n k sz ce h hs im len tx)))
  refine WP.aload_n dL_isSpared_0 rfl ?_
  refine WP.iconst dL_isSpared_1 ?_
  refine WP.callV (as := [vI (0 : Int)]) dL_isSpared_2 mv_L_9 rfl (rfl) (by decide) rfl rfl (z_told0 hA0) rfl (Nat.le_of_ble_eq_true rfl) (by omega) (fun r9 M1 h9 => ?_)
  obtain ⟨rfl, hA1⟩ := h9
  show WP sc0 41 m_L_isSpared 5 [vR 42, vI ((t : Nat) : Int), vU, vU] [vI ((n : Nat) : Int)] M1 (PX M ((1 : Int), (mkS n k sz ce h hs im len tx)))
  refine WP.istore_n (lt := [vR 42, vI ((t : Nat) : Int), vI ((n : Nat) : Int), vU]) dL_isSpared_5 (by decide) rfl ?_
  refine WP.iload_n dL_isSpared_6 rfl ?_
  refine WP.aload_n dL_isSpared_7 rfl ?_
  refine WP.iconst dL_isSpared_8 ?_
  refine WP.callV (as := [vI (1 : Int)]) dL_isSpared_9 mv_L_9 rfl (rfl) (by decide) rfl rfl (z_told1 hA1) rfl (Nat.le_of_ble_eq_true rfl) (by omega) (fun r9 M2 h9 => ?_)
  obtain ⟨rfl, hA2⟩ := h9
  show WP sc0 41 m_L_isSpared 12 [vR 42, vI ((t : Nat) : Int), vI ((n : Nat) : Int), vU] [vI ((k : Nat) : Int), vI ((t : Nat) : Int)] M2 (PX M ((1 : Int), (mkS n k sz ce h hs im len tx)))
  refine WP.icmp_le (tgt := 30) dL_isSpared_12 (by decide) (by omega) (by omega) (fun h12 => ?_) (fun h12 => ?_)
  · skip
    refine WP.iload_n dL_isSpared_30 rfl ?_
    refine WP.if_eq (tgt := 40) dL_isSpared_31 (by decide) (by omega) (fun h31 => ?_) (fun h31 => ?_)
    · skip
      refine WP.aload_n dL_isSpared_40 rfl ?_
      refine WP.iload_n dL_isSpared_41 rfl ?_
      refine WP.callV (as := [vI ((t : Nat) : Int)]) dL_isSpared_42 mv_L_87 rfl (rfl) (by decide) rfl rfl (z_sp_st hA2 (show 1 ≤ t ∧ t ≤ k by omega) (by omega) (show n = 0 ∨ 12 < n by omega)) rfl (Nat.le_of_ble_eq_true rfl) (by omega) (fun r9 M3 h9 => ?_)
      obtain ⟨rfl, hA3⟩ := h9
      show WP sc0 41 m_L_isSpared 45 [vR 42, vI ((t : Nat) : Int), vI ((n : Nat) : Int), vU] [vI (-2 : Int)] M3 (PX M ((1 : Int), (mkS n k sz ce h hs im len tx)))
      refine WP.bipush dL_isSpared_45 (by decide) ?_
      refine WP.icmp_ne (tgt := 54) dL_isSpared_47 (by decide) (by omega) (by omega) (fun h47 => ?_) (fun h47 => ?_)
      · skip
        exfalso
        omega
      · skip
        refine WP.iconst dL_isSpared_50 ?_
        refine WP.goto (tgt := 55) dL_isSpared_51 (by decide) ?_
        refine WP.zret dL_isSpared_55 rfl (by decide) ?_
        exact ⟨rfl, hA3⟩
    · skip
      refine WP.iload_n dL_isSpared_34 rfl ?_
      refine WP.bipush dL_isSpared_35 (by decide) ?_
      refine WP.icmp_le (tgt := 56) dL_isSpared_37 (by decide) (by omega) (by omega) (fun h37 => ?_) (fun h37 => ?_)
      · skip
        obtain ⟨hsv, hsl⟩ := spV_f (t := t) hW (show 0 < n by omega) (by omega)
        have hp2 := p12_r (n := n) (by omega)
        have hpp := Nat.two_pow_pos n
        refine WP.aload_n dL_isSpared_56 rfl ?_
        refine WP.iload_n dL_isSpared_57 rfl ?_
        refine WP.callV (as := [vI ((t : Nat) : Int)]) dL_isSpared_58 mv_L_87 rfl (rfl) (by decide) rfl rfl (z_sp_v hA2 (show 1 ≤ t ∧ t ≤ k by omega) (by omega) (show ¬ (n = 0 ∨ 12 < n) by omega)) rfl (Nat.le_of_ble_eq_true rfl) (by omega) (fun r9 M3 h9 => ?_)
        obtain ⟨rfl, hA3⟩ := h9
        show WP sc0 41 m_L_isSpared 61 [vR 42, vI ((t : Nat) : Int), vI ((n : Nat) : Int), vU] [vI (spV n k sz ce t)] M3 (PX M ((1 : Int), (mkS n k sz ce h hs im len tx)))
        refine WP.istore_n (lt := [vR 42, vI ((t : Nat) : Int), vI ((n : Nat) : Int), vI (spV n k sz ce t)]) dL_isSpared_61 (by decide) rfl ?_
        refine WP.iload_n dL_isSpared_62 rfl ?_
        refine WP.bipush dL_isSpared_63 (by decide) ?_
        refine WP.icmp_ne (tgt := 72) dL_isSpared_65 (by decide) (by omega) (by omega) (fun h65 => ?_) (fun h65 => ?_)
        · skip
          refine WP.iconst dL_isSpared_72 ?_
          refine WP.aload_n dL_isSpared_73 rfl ?_
          refine WP.iconst dL_isSpared_74 ?_
          refine WP.callV (as := [vI (2 : Int)]) dL_isSpared_75 mv_L_9 rfl (rfl) (by decide) rfl rfl (z_told2 hA3) rfl (Nat.le_of_ble_eq_true rfl) (by omega) (fun r9 M4 h9 => ?_)
          obtain ⟨rfl, hA4⟩ := h9
          show WP sc0 41 m_L_isSpared 78 [vR 42, vI ((t : Nat) : Int), vI ((n : Nat) : Int), vI (spV n k sz ce t)] [vI ((stF (fun b => okT n k sz ce b aT) k : Nat) : Int), vI (0 : Int)] M4 (PX M ((1 : Int), (mkS n k sz ce h hs im len tx)))
          refine WP.iload_n dL_isSpared_78 rfl ?_
          refine WP.icmp_ge (tgt := 86) dL_isSpared_79 (by decide) (by have := stF_le (fun b => okT n k sz ce b aT) k; omega) (by omega) (fun h79 => ?_) (fun h79 => ?_)
          · skip
            refine WP.iconst dL_isSpared_86 ?_
            refine WP.icmp_ne (tgt := 103) dL_isSpared_87 (by decide) (by omega) (by omega) (fun h87 => ?_) (fun h87 => ?_)
            · skip
              exfalso
              omega
            · skip
              refine WP.iload_n dL_isSpared_90 rfl ?_
              refine WP.iconst dL_isSpared_91 ?_
              refine WP.iload_n dL_isSpared_92 rfl ?_
              refine WP.ishl (z := ((2 ^ n : Nat) : Int)) dL_isSpared_93 (shl_ok n (by omega)) ?_
              refine WP.iconst dL_isSpared_94 ?_
              refine WP.isub dL_isSpared_95 ?_
              refine WP.icmp_ge (tgt := 103) dL_isSpared_96 (by decide) (by omega) (by omega) (fun h96 => ?_) (fun h96 => ?_)
              · skip
                exfalso
                omega
              · skip
                refine WP.iconst dL_isSpared_99 ?_
                refine WP.goto (tgt := 104) dL_isSpared_100 (by decide) ?_
                refine WP.zret dL_isSpared_104 rfl (by decide) ?_
                exact ⟨rfl, hA4⟩
          · skip
            exfalso
            omega
        · skip
          refine WP.iconst dL_isSpared_68 ?_
          refine WP.goto (tgt := 73) dL_isSpared_69 (by decide) ?_
          refine WP.aload_n dL_isSpared_73 rfl ?_
          refine WP.iconst dL_isSpared_74 ?_
          refine WP.callV (as := [vI (2 : Int)]) dL_isSpared_75 mv_L_9 rfl (rfl) (by decide) rfl rfl (z_told2 hA3) rfl (Nat.le_of_ble_eq_true rfl) (by omega) (fun r9 M4 h9 => ?_)
          obtain ⟨rfl, hA4⟩ := h9
          show WP sc0 41 m_L_isSpared 78 [vR 42, vI ((t : Nat) : Int), vI ((n : Nat) : Int), vI (spV n k sz ce t)] [vI ((stF (fun b => okT n k sz ce b aT) k : Nat) : Int), vI (1 : Int)] M4 (PX M ((1 : Int), (mkS n k sz ce h hs im len tx)))
          refine WP.iload_n dL_isSpared_78 rfl ?_
          refine WP.icmp_ge (tgt := 86) dL_isSpared_79 (by decide) (by have := stF_le (fun b => okT n k sz ce b aT) k; omega) (by omega) (fun h79 => ?_) (fun h79 => ?_)
          · skip
            exfalso
            omega
          · skip
            refine WP.iconst dL_isSpared_82 ?_
            refine WP.goto (tgt := 87) dL_isSpared_83 (by decide) ?_
            refine WP.icmp_ne (tgt := 103) dL_isSpared_87 (by decide) (by omega) (by omega) (fun h87 => ?_) (fun h87 => ?_)
            · skip
              exfalso
              omega
            · skip
              refine WP.iload_n dL_isSpared_90 rfl ?_
              refine WP.iconst dL_isSpared_91 ?_
              refine WP.iload_n dL_isSpared_92 rfl ?_
              refine WP.ishl (z := ((2 ^ n : Nat) : Int)) dL_isSpared_93 (shl_ok n (by omega)) ?_
              refine WP.iconst dL_isSpared_94 ?_
              refine WP.isub dL_isSpared_95 ?_
              refine WP.icmp_ge (tgt := 103) dL_isSpared_96 (by decide) (by omega) (by omega) (fun h96 => ?_) (fun h96 => ?_)
              · skip
                exfalso
                omega
              · skip
                refine WP.iconst dL_isSpared_99 ?_
                refine WP.goto (tgt := 104) dL_isSpared_100 (by decide) ?_
                refine WP.zret dL_isSpared_104 rfl (by decide) ?_
                exact ⟨rfl, hA4⟩
      · skip
        refine WP.aload_n dL_isSpared_40 rfl ?_
        refine WP.iload_n dL_isSpared_41 rfl ?_
        refine WP.callV (as := [vI ((t : Nat) : Int)]) dL_isSpared_42 mv_L_87 rfl (rfl) (by decide) rfl rfl (z_sp_st hA2 (show 1 ≤ t ∧ t ≤ k by omega) (by omega) (show n = 0 ∨ 12 < n by omega)) rfl (Nat.le_of_ble_eq_true rfl) (by omega) (fun r9 M3 h9 => ?_)
        obtain ⟨rfl, hA3⟩ := h9
        show WP sc0 41 m_L_isSpared 45 [vR 42, vI ((t : Nat) : Int), vI ((n : Nat) : Int), vU] [vI (-2 : Int)] M3 (PX M ((1 : Int), (mkS n k sz ce h hs im len tx)))
        refine WP.bipush dL_isSpared_45 (by decide) ?_
        refine WP.icmp_ne (tgt := 54) dL_isSpared_47 (by decide) (by omega) (by omega) (fun h47 => ?_) (fun h47 => ?_)
        · skip
          exfalso
          omega
        · skip
          refine WP.iconst dL_isSpared_50 ?_
          refine WP.goto (tgt := 55) dL_isSpared_51 (by decide) ?_
          refine WP.zret dL_isSpared_55 rfl (by decide) ?_
          exact ⟨rfl, hA3⟩
  · skip
    refine WP.aload_n dL_isSpared_15 rfl ?_
    refine WP.iload_n dL_isSpared_16 rfl ?_
    refine WP.callV (as := [vI ((t : Nat) : Int)]) dL_isSpared_17 mv_L_87 rfl (rfl) (by decide) rfl rfl (z_sp_bad hA2 (show k < t by omega) (by omega)) rfl (Nat.le_of_ble_eq_true rfl) (by omega) (fun r9 M3 h9 => ?_)
    obtain ⟨rfl, hA3⟩ := h9
    show WP sc0 41 m_L_isSpared 20 [vR 42, vI ((t : Nat) : Int), vI ((n : Nat) : Int), vU] [vI (-1 : Int)] M3 (PX M ((1 : Int), (mkS n k sz ce h hs im len tx)))
    refine WP.iconst dL_isSpared_20 ?_
    refine WP.icmp_ne (tgt := 28) dL_isSpared_21 (by decide) (by omega) (by omega) (fun h21 => ?_) (fun h21 => ?_)
    · skip
      exfalso
      omega
    · skip
      refine WP.iconst dL_isSpared_24 ?_
      refine WP.goto (tgt := 29) dL_isSpared_25 (by decide) ?_
      refine WP.zret dL_isSpared_29 rfl (by decide) ?_
      exact ⟨rfl, hA3⟩
