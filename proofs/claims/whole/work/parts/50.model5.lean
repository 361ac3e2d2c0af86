theorem RM.last {M M' : Mem} {h : Nat} {hs : Nat → AR} {A : AR} (hR : RM M M' h hs A) : ∃ p : Nat, 1 ≤ p ∧ p ≤ 8 ∧ M' 167 2 = (p : Int) ∧ BA (fun j => M' 169 (261 * (p - 1) + j)) A := by
  obtain ⟨_, _, h1, h2, h3⟩ := hR
  unfold hpush at h1 h2 h3
  by_cases e : h = 8
  · rw [if_pos e] at h1 h2 h3
    exact ⟨8, by omega, by omega, h2, (by
      have := h3 7 (by show 7 < 8; omega)
      exact this)⟩
  · rw [if_neg e] at h1 h2 h3
    have h1' : h + 1 ≤ 8 := h1
    refine ⟨h + 1, by omega, h1', h2, ?_⟩
    have h4 := h3 h (by show h < h + 1; omega)
    dsimp only at h4
    rw [if_pos rfl] at h4
    exact h4
theorem evn_eq {n k c d : Nat} {sz : Nat → Nat} {ce : Nat → Nat → Nat} (hs : 0 < sz c) : (∀ v, v < sz c → dfc n ce (sz c) c d v = dfc n ce (sz c) c d 0) ↔ evn n ce (sz c) c d := by
  have hsum : sm (fun v => dfc n ce (sz c) c d v) (sz c) = n := by
    have h1 := sm_cn (fun r => (ce r d + sz c - ce r c) % sz c) aT (sz c) n (fun r _ _ => Nat.mod_lt _ hs)
    rw [show cn aT n = n from cn_full.mpr (fun _ _ => trivial)] at h1
    refine Eq.trans ?_ h1
    exact sm_cg (fun v _ => cn_cg (fun r _ => ⟨fun z => ⟨trivial, z⟩, fun z => z.2⟩))
  constructor
  · intro h v hv
    rw [sm_cg (g := fun _ => dfc n ce (sz c) c d 0) h, sm_const] at hsum
    rw [h v hv, Nat.mul_comm]
    exact hsum
  · intro h v hv
    have a1 := h v hv
    have a2 := h 0 hs
    exact Nat.eq_of_mul_eq_mul_right hs (a1.trans a2.symm)
set_option maxHeartbeats 4000000 in
set_option maxRecDepth 20000 in
theorem w_even {M : Mem} {n k : Nat} {sz : Nat → Nat} {ce : Nat → Nat → Nat} {c d : Nat} (hA : BX (M 168) n k sz ce) (hW : Wf n k sz ce) (hc : c < k) (hd : d < k) (hz : sz c = sz d) : CT 2 m_X8_areDifferencesEven [vR 167, vI ((c : Nat) : Int), vI ((d : Nat) : Int)] M (Rt (some (vI (bi (evn n ce (sz c) c d)))) M) := by
  have b1 := hW.1
  have b2 := hW.2.1
  have w1 := hW.2.2.1 c hc
  refine CT.ofWP (by decide +kernel) (Nat.le_of_ble_eq_true rfl) ?_
  show WP sc0 2 m_X8_areDifferencesEven 0 [vR 167, vI ((c : Nat) : Int), vI ((d : Nat) : Int), vU, vU, vU, vU, vU] [] M (Rt (some (vI (bi (evn n ce (sz c) c d)))) M)
  refine WP.aload_n dX8_areDifferencesEven_0 rfl ?_
  refine WP.getR (y := 168) dX8_areDifferencesEven_1 fl_X8_7 (rfl) (by decide) (rfl) ?_
  refine WP.iconst dX8_areDifferencesEven_4 ?_
  refine WP.iload_n dX8_areDifferencesEven_5 rfl ?_
  refine WP.iadd dX8_areDifferencesEven_6 ?_
  refine WP.iaload (y := (2 + c)) (x := ((sz c : Nat) : Int)) dX8_areDifferencesEven_7 (rfl) (by omega) (by omega) (hA.2.2.1 _ (by omega)) ?_
  refine WP.istore_n (lt := [vR 167, vI ((c : Nat) : Int), vI ((d : Nat) : Int), vI ((sz c : Nat) : Int), vU, vU, vU, vU]) dX8_areDifferencesEven_8 (by decide) rfl ?_
  refine WP.iconst dX8_areDifferencesEven_9 ?_
  refine WP.istore (lt := [vR 167, vI ((c : Nat) : Int), vI ((d : Nat) : Int), vI ((sz c : Nat) : Int), vI (0 : Int), vU, vU, vU]) dX8_areDifferencesEven_10 (by decide) rfl ?_
  refine WP.iconst dX8_areDifferencesEven_12 ?_
  refine WP.istore (lt := [vR 167, vI ((c : Nat) : Int), vI ((d : Nat) : Int), vI ((sz c : Nat) : Int), vI (0 : Int), vI (0 : Int), vU, vU]) dX8_areDifferencesEven_13 (by decide) rfl ?_
  have L15 : ∀ (n9 : Nat) (v : Nat) (fs : Int) (hv : v ≤ sz c) (hfs : (v = 0 ∧ fs = 0) ∨ fs = ((dfc n ce (sz c) c d 0 : Nat) : Int)) (hall : ∀ u, u < v → dfc n ce (sz c) c d u = dfc n ce (sz c) c d 0), sz c - v < n9 → WP sc0 2 m_X8_areDifferencesEven 15 [vR 167, vI ((c : Nat) : Int), vI ((d : Nat) : Int), vI ((sz c : Nat) : Int), vI fs, vI ((v : Nat) : Int), vU, vU] [] M (Rt (some (vI (bi (evn n ce (sz c) c d)))) M) := by
    intro n9
    induction n9 with
    | zero =>
      intro v fs hv hfs hall hm9
      exact absurd hm9 (Nat.not_lt_zero _)
    | succ n9 ih15 =>
      intro v fs hv hfs hall hm9
      have hd0 := cn_le (fun y9 => (ce y9 d + sz c - ce y9 c) % sz c = 0) n
      have hd9 : dfc n ce (sz c) c d 0 ≤ n := hd0
      refine WP.iload dX8_areDifferencesEven_15 rfl ?_
      refine WP.iload_n dX8_areDifferencesEven_17 rfl ?_
      refine WP.icmp_ge (tgt := 107) dX8_areDifferencesEven_18 (by decide) (by omega) (by omega) (fun h18 => ?_) (fun h18 => ?_)
      · skip
        refine WP.iconst dX8_areDifferencesEven_107 ?_
        refine WP.zret dX8_areDifferencesEven_108 rfl (by decide) ?_
        exact ⟨congrArg some (congrArg vI (bi_t ((evn_eq (k := k) (by omega)).mp (fun u hu => hall u (by omega)))).symm), rfl⟩
      · skip
        refine WP.iconst dX8_areDifferencesEven_21 ?_
        refine WP.istore (lt := [vR 167, vI ((c : Nat) : Int), vI ((d : Nat) : Int), vI ((sz c : Nat) : Int), vI fs, vI ((v : Nat) : Int), vI (0 : Int), vU]) dX8_areDifferencesEven_22 (by decide) rfl ?_
        refine WP.iconst dX8_areDifferencesEven_24 ?_
        refine WP.istore (lt := [vR 167, vI ((c : Nat) : Int), vI ((d : Nat) : Int), vI ((sz c : Nat) : Int), vI fs, vI ((v : Nat) : Int), vI (0 : Int), vI (0 : Int)]) dX8_areDifferencesEven_25 (by decide) rfl ?_
        have L27 : ∀ (n9 : Nat) (r : Nat) (hr : r ≤ n), n - r < n9 → WP sc0 2 m_X8_areDifferencesEven 27 [vR 167, vI ((c : Nat) : Int), vI ((d : Nat) : Int), vI ((sz c : Nat) : Int), vI fs, vI ((v : Nat) : Int), vI ((cn (fun y9 => (ce y9 d + sz c - ce y9 c) % sz c = v) r : Nat) : Int), vI ((r : Nat) : Int)] [] M (Rt (some (vI (bi (evn n ce (sz c) c d)))) M) := by
          intro n9
          induction n9 with
          | zero =>
            intro r hr hm9
            exact absurd hm9 (Nat.not_lt_zero _)
          | succ n9 ih27 =>
            intro r hr hm9
            have hcl := cn_le (fun y9 => (ce y9 d + sz c - ce y9 c) % sz c = v) r
            refine WP.iload dX8_areDifferencesEven_27 rfl ?_
            refine WP.aload_n dX8_areDifferencesEven_29 rfl ?_
            refine WP.getR (y := 168) dX8_areDifferencesEven_30 fl_X8_7 (rfl) (by decide) (rfl) ?_
            refine WP.iconst dX8_areDifferencesEven_33 ?_
            refine WP.iaload (y := 0) (x := ((n : Nat) : Int)) dX8_areDifferencesEven_34 (rfl) (by omega) (by omega) (hA.1) ?_
            refine WP.icmp_ge (tgt := 78) dX8_areDifferencesEven_35 (by decide) (by omega) (by omega) (fun h35 => ?_) (fun h35 => ?_)
            · skip
              have hcn : cn (fun y9 => (ce y9 d + sz c - ce y9 c) % sz c = v) r = dfc n ce (sz c) c d v := by rw [show r = n by omega]; rfl
              have hdl : dfc n ce (sz c) c d v ≤ n := by rw [← hcn]; omega
              refine WP.fgt (lt := [vR 167, vI ((c : Nat) : Int), vI ((d : Nat) : Int), vI ((sz c : Nat) : Int), vI fs, vI ((v : Nat) : Int), vI ((dfc n ce (sz c) c d v : Nat) : Int), vI ((r : Nat) : Int)]) ⟨Or.inr rfl, Or.inr rfl, Or.inr rfl, Or.inr rfl, Or.inr rfl, Or.inr rfl, Or.inr (congrArg vI (by rw [hcn])), Or.inr rfl, trivial⟩ ?_
              refine WP.iload dX8_areDifferencesEven_78 rfl ?_
              refine WP.if_ne (tgt := 88) dX8_areDifferencesEven_80 (by decide) (by omega) (fun h80 => ?_) (fun h80 => ?_)
              · skip
                have hfs2 : fs = ((dfc n ce (sz c) c d 0 : Nat) : Int) := hfs.resolve_left (fun z => by omega)
                refine WP.iload dX8_areDifferencesEven_88 rfl ?_
                refine WP.istore (lt := [vR 167, vI ((c : Nat) : Int), vI ((d : Nat) : Int), vI ((sz c : Nat) : Int), vI fs, vI ((v : Nat) : Int), vI ((dfc n ce (sz c) c d v : Nat) : Int), vI ((r : Nat) : Int)]) dX8_areDifferencesEven_90 (by decide) rfl ?_
                refine WP.iload dX8_areDifferencesEven_92 rfl ?_
                refine WP.iload dX8_areDifferencesEven_94 rfl ?_
                refine WP.icmp_eq (tgt := 101) dX8_areDifferencesEven_96 (by decide) (by omega) (by omega) (fun h96 => ?_) (fun h96 => ?_)
                · skip
                  refine WP.iinc (lt := [vR 167, vI ((c : Nat) : Int), vI ((d : Nat) : Int), vI ((sz c : Nat) : Int), vI fs, vI (((v : Nat) : Int) + 1), vI ((dfc n ce (sz c) c d v : Nat) : Int), vI ((r : Nat) : Int)]) dX8_areDifferencesEven_101 rfl (by decide) rfl ?_
                  refine WP.goto (tgt := 15) dX8_areDifferencesEven_104 (by decide) ?_
                  refine WP.fgt (lt := [vR 167, vI ((c : Nat) : Int), vI ((d : Nat) : Int), vI ((sz c : Nat) : Int), vI fs, vI (((v + 1) : Nat) : Int), vU, vU]) ⟨Or.inr rfl, Or.inr rfl, Or.inr rfl, Or.inr rfl, Or.inr rfl, Or.inr (congrArg vI (by omega)), Or.inl rfl, Or.inl rfl, trivial⟩ ?_
                  exact ih15 (v + 1) (fs) (by omega) (Or.inr (by omega)) (fun u hu => by
                    by_cases e9 : u = v
                    · rw [e9]; omega
                    · exact hall u (by omega)) (by omega)
                · skip
                  refine WP.iconst dX8_areDifferencesEven_99 ?_
                  refine WP.zret dX8_areDifferencesEven_100 rfl (by decide) ?_
                  exact ⟨congrArg some (congrArg vI (bi_f (fun z => by
                    have h9 := (evn_eq (k := k) (by omega)).mpr z v (by omega)
                    omega)).symm), rfl⟩
              · skip
                have h80 : v = 0 := by omega
                refine WP.iload dX8_areDifferencesEven_83 rfl ?_
                refine WP.goto (tgt := 90) dX8_areDifferencesEven_85 (by decide) ?_
                refine WP.istore (lt := [vR 167, vI ((c : Nat) : Int), vI ((d : Nat) : Int), vI ((sz c : Nat) : Int), vI ((dfc n ce (sz c) c d v : Nat) : Int), vI ((v : Nat) : Int), vI ((dfc n ce (sz c) c d v : Nat) : Int), vI ((r : Nat) : Int)]) dX8_areDifferencesEven_90 (by decide) rfl ?_
                refine WP.iload dX8_areDifferencesEven_92 rfl ?_
                refine WP.iload dX8_areDifferencesEven_94 rfl ?_
                refine WP.icmp_eq (tgt := 101) dX8_areDifferencesEven_96 (by decide) (by omega) (by omega) (fun h96 => ?_) (fun h96 => ?_)
                · skip
                  refine WP.iinc (lt := [vR 167, vI ((c : Nat) : Int), vI ((d : Nat) : Int), vI ((sz c : Nat) : Int), vI ((dfc n ce (sz c) c d v : Nat) : Int), vI (((v : Nat) : Int) + 1), vI ((dfc n ce (sz c) c d v : Nat) : Int), vI ((r : Nat) : Int)]) dX8_areDifferencesEven_101 rfl (by decide) rfl ?_
                  refine WP.goto (tgt := 15) dX8_areDifferencesEven_104 (by decide) ?_
                  refine WP.fgt (lt := [vR 167, vI ((c : Nat) : Int), vI ((d : Nat) : Int), vI ((sz c : Nat) : Int), vI (((dfc n ce (sz c) c d v : Nat) : Int)), vI (((v + 1) : Nat) : Int), vU, vU]) ⟨Or.inr rfl, Or.inr rfl, Or.inr rfl, Or.inr rfl, Or.inr (congrArg vI (by omega)), Or.inr (congrArg vI (by omega)), Or.inl rfl, Or.inl rfl, trivial⟩ ?_
                  exact ih15 (v + 1) (((dfc n ce (sz c) c d v : Nat) : Int)) (by omega) (Or.inr (by rw [h80])) (fun u hu => by rw [show u = 0 by omega]) (by omega)
                · skip
                  refine WP.iconst dX8_areDifferencesEven_99 ?_
                  refine WP.zret dX8_areDifferencesEven_100 rfl (by decide) ?_
                  exact absurd rfl h96
            · skip
              have v1 := hW.2.2.2 r (by omega) c hc
              have v2 := hW.2.2.2 r (by omega) d hd
              refine WP.iload dX8_areDifferencesEven_38 rfl ?_
              refine WP.aload_n dX8_areDifferencesEven_40 rfl ?_
              refine WP.iload dX8_areDifferencesEven_41 rfl ?_
              refine WP.iload_n dX8_areDifferencesEven_43 rfl ?_
              refine WP.callVp (as := [vI ((r : Nat) : Int), vI ((d : Nat) : Int)]) dX8_areDifferencesEven_44 mv_X8_62 rfl (rfl) (by decide) rfl rfl (w_at (r := r) (c := d) (by omega) (by omega) (hA.2.2.2 (r) (by omega) (d) (by omega))) rfl (Nat.le_of_ble_eq_true rfl) (by omega) ?_
              refine WP.aload_n dX8_areDifferencesEven_47 rfl ?_
              refine WP.iload dX8_areDifferencesEven_48 rfl ?_
              refine WP.iload_n dX8_areDifferencesEven_50 rfl ?_
              refine WP.callVp (as := [vI ((r : Nat) : Int), vI ((c : Nat) : Int)]) dX8_areDifferencesEven_51 mv_X8_62 rfl (rfl) (by decide) rfl rfl (w_at (r := r) (c := c) (by omega) (by omega) (hA.2.2.2 (r) (by omega) (c) (by omega))) rfl (Nat.le_of_ble_eq_true rfl) (by omega) ?_
              refine WP.isub dX8_areDifferencesEven_54 ?_
              refine WP.iload_n dX8_areDifferencesEven_55 rfl ?_
              refine WP.iadd dX8_areDifferencesEven_56 ?_
              refine WP.eqs (st' := [vI ((ce r d + sz c - ce r c : Nat) : Int), vI ((cn (fun y9 => (ce y9 d + sz c - ce y9 c) % sz c = v) r : Nat) : Int)]) rfl (lc (congrArg vI (by omega)) rfl) ?_
              refine WP.iload_n dX8_areDifferencesEven_57 rfl ?_
              refine WP.irem dX8_areDifferencesEven_58 (by omega) (by omega) ?_
              refine WP.eqs (st' := [vI (((ce r d + sz c - ce r c) % sz c : Nat) : Int), vI ((cn (fun y9 => (ce y9 d + sz c - ce y9 c) % sz c = v) r : Nat) : Int)]) rfl (lc (congrArg vI (by rw [Int.natCast_emod])) rfl) ?_
              have hml := Nat.mod_lt (ce r d + sz c - ce r c) (show 0 < sz c by omega)
              refine WP.iload dX8_areDifferencesEven_59 rfl ?_
              refine WP.icmp_ne (tgt := 68) dX8_areDifferencesEven_61 (by decide) (by omega) (by omega) (fun h61 => ?_) (fun h61 => ?_)
              · skip
                have q61 : cn (fun y9 => (ce y9 d + sz c - ce y9 c) % sz c = v) (r + 1) = cn (fun y9 => (ce y9 d + sz c - ce y9 c) % sz c = v) r := cn_f (p := (fun y9 => (ce y9 d + sz c - ce y9 c) % sz c = v)) (by omega)
                refine WP.iconst dX8_areDifferencesEven_68 ?_
                refine WP.iadd dX8_areDifferencesEven_69 ?_
                refine WP.istore (lt := [vR 167, vI ((c : Nat) : Int), vI ((d : Nat) : Int), vI ((sz c : Nat) : Int), vI fs, vI ((v : Nat) : Int), vI (((cn (fun y9 => (ce y9 d + sz c - ce y9 c) % sz c = v) r : Nat) : Int) + (0 : Int)), vI ((r : Nat) : Int)]) dX8_areDifferencesEven_70 (by decide) rfl ?_
                refine WP.iinc (lt := [vR 167, vI ((c : Nat) : Int), vI ((d : Nat) : Int), vI ((sz c : Nat) : Int), vI fs, vI ((v : Nat) : Int), vI (((cn (fun y9 => (ce y9 d + sz c - ce y9 c) % sz c = v) r : Nat) : Int) + (0 : Int)), vI (((r : Nat) : Int) + 1)]) dX8_areDifferencesEven_72 rfl (by decide) rfl ?_
                refine WP.goto (tgt := 27) dX8_areDifferencesEven_75 (by decide) ?_
                refine WP.fgt (lt := [vR 167, vI ((c : Nat) : Int), vI ((d : Nat) : Int), vI ((sz c : Nat) : Int), vI fs, vI ((v : Nat) : Int), vI ((cn (fun y9 => (ce y9 d + sz c - ce y9 c) % sz c = v) (r + 1) : Nat) : Int), vI (((r + 1) : Nat) : Int)]) ⟨Or.inr rfl, Or.inr rfl, Or.inr rfl, Or.inr rfl, Or.inr rfl, Or.inr rfl, Or.inr (congrArg vI (by rw [q61]; omega)), Or.inr (congrArg vI (by omega)), trivial⟩ ?_
                exact ih27 (r + 1) (by omega) (by omega)
              · skip
                have q61 : cn (fun y9 => (ce y9 d + sz c - ce y9 c) % sz c = v) (r + 1) = cn (fun y9 => (ce y9 d + sz c - ce y9 c) % sz c = v) r + 1 := cn_t (p := (fun y9 => (ce y9 d + sz c - ce y9 c) % sz c = v)) (by omega)
                refine WP.iconst dX8_areDifferencesEven_64 ?_
                refine WP.goto (tgt := 69) dX8_areDifferencesEven_65 (by decide) ?_
                refine WP.iadd dX8_areDifferencesEven_69 ?_
                refine WP.istore (lt := [vR 167, vI ((c : Nat) : Int), vI ((d : Nat) : Int), vI ((sz c : Nat) : Int), vI fs, vI ((v : Nat) : Int), vI (((cn (fun y9 => (ce y9 d + sz c - ce y9 c) % sz c = v) r : Nat) : Int) + (1 : Int)), vI ((r : Nat) : Int)]) dX8_areDifferencesEven_70 (by decide) rfl ?_
                refine WP.iinc (lt := [vR 167, vI ((c : Nat) : Int), vI ((d : Nat) : Int), vI ((sz c : Nat) : Int), vI fs, vI ((v : Nat) : Int), vI (((cn (fun y9 => (ce y9 d + sz c - ce y9 c) % sz c = v) r : Nat) : Int) + (1 : Int)), vI (((r : Nat) : Int) + 1)]) dX8_areDifferencesEven_72 rfl (by decide) rfl ?_
                refine WP.goto (tgt := 27) dX8_areDifferencesEven_75 (by decide) ?_
                refine WP.fgt (lt := [vR 167, vI ((c : Nat) : Int), vI ((d : Nat) : Int), vI ((sz c : Nat) : Int), vI fs, vI ((v : Nat) : Int), vI ((cn (fun y9 => (ce y9 d + sz c - ce y9 c) % sz c = v) (r + 1) : Nat) : Int), vI (((r + 1) : Nat) : Int)]) ⟨Or.inr rfl, Or.inr rfl, Or.inr rfl, Or.inr rfl, Or.inr rfl, Or.inr rfl, Or.inr (congrArg vI (by rw [q61]; omega)), Or.inr (congrArg vI (by omega)), trivial⟩ ?_
                exact ih27 (r + 1) (by omega) (by omega)
        refine WP.fgt (lt := [vR 167, vI ((c : Nat) : Int), vI ((d : Nat) : Int), vI ((sz c : Nat) : Int), vI fs, vI ((v : Nat) : Int), vI ((cn (fun y9 => (ce y9 d + sz c - ce y9 c) % sz c = v) 0 : Nat) : Int), vI ((0 : Nat) : Int)]) ⟨Or.inr rfl, Or.inr rfl, Or.inr rfl, Or.inr rfl, Or.inr rfl, Or.inr rfl, Or.inr (congrArg vI (rfl)), Or.inr (congrArg vI (by omega)), trivial⟩ ?_
        exact L27 _ (0) (Nat.zero_le _) (Nat.lt_succ_self _)
  refine WP.fgt (lt := [vR 167, vI ((c : Nat) : Int), vI ((d : Nat) : Int), vI ((sz c : Nat) : Int), vI 0, vI ((0 : Nat) : Int), vU, vU]) ⟨Or.inr rfl, Or.inr rfl, Or.inr rfl, Or.inr rfl, Or.inr (congrArg vI (by omega)), Or.inr (congrArg vI (by omega)), Or.inl rfl, Or.inl rfl, trivial⟩ ?_
  exact L15 _ (0) (0) (Nat.zero_le _) (Or.inl ⟨rfl, rfl⟩) (fun u hu => absurd hu (Nat.not_lt_zero u)) (Nat.lt_succ_self _)
set_option maxHeartbeats 4000000 in
set_option maxRecDepth 20000 in
theorem w_isScheme {M : Mem} {n k : Nat} {sz : Nat → Nat} {ce : Nat → Nat → Nat} (hA : BX (M 168) n k sz ce) (hW : Wf n k sz ce) : CT 3 m_X8_isScheme [vR 167] M (Rt (some (vI (bi (sch n k sz ce)))) M) := by
  have b1 := hW.1
  have b2 := hW.2.1
  refine CT.ofWP (by decide +kernel) (Nat.le_of_ble_eq_true rfl) ?_
  show WP sc0 3 m_X8_isScheme 0 [vR 167, vU, vU] [] M (Rt (some (vI (bi (sch n k sz ce)))) M)
  refine WP.iconst dX8_isScheme_0 ?_
  refine WP.istore_n (lt := [vR 167, vI (0 : Int), vU]) dX8_isScheme_1 (by decide) rfl ?_
  have L2 : ∀ (n9 : Nat) (d : Nat) (hd : d ≤ k) (hok : ∀ e, e < d → ∀ c, c < e → sz c = sz e ∧ evn n ce (sz c) c e), k - d < n9 → WP sc0 3 m_X8_isScheme 2 [vR 167, vI ((d : Nat) : Int), vU] [] M (Rt (some (vI (bi (sch n k sz ce)))) M) := by
    intro n9
    induction n9 with
    | zero =>
      intro d hd hok hm9
      exact absurd hm9 (Nat.not_lt_zero _)
    | succ n9 ih2 =>
      intro d hd hok hm9
      refine WP.iload_n dX8_isScheme_2 rfl ?_
      refine WP.aload_n dX8_isScheme_3 rfl ?_
      refine WP.getR (y := 168) dX8_isScheme_4 fl_X8_7 (rfl) (by decide) (rfl) ?_
      refine WP.iconst dX8_isScheme_7 ?_
      refine WP.iaload (y := 1) (x := ((k : Nat) : Int)) dX8_isScheme_8 (rfl) (by omega) (by omega) (hA.2.1) ?_
      refine WP.icmp_ge (tgt := 61) dX8_isScheme_9 (by decide) (by omega) (by omega) (fun h9 => ?_) (fun h9 => ?_)
      · skip
        refine WP.aload_n dX8_isScheme_61 rfl ?_
        refine WP.getR (y := 168) dX8_isScheme_62 fl_X8_7 (rfl) (by decide) (rfl) ?_
        refine WP.iconst dX8_isScheme_65 ?_
        refine WP.iaload (y := 1) (x := ((k : Nat) : Int)) dX8_isScheme_66 (rfl) (by omega) (by omega) (hA.2.1) ?_
        refine WP.if_le (tgt := 74) dX8_isScheme_67 (by decide) (by omega) (fun h67 => ?_) (fun h67 => ?_)
        · skip
          refine WP.iconst dX8_isScheme_74 ?_
          refine WP.zret dX8_isScheme_75 rfl (by decide) ?_
          exact ⟨congrArg some (congrArg vI (bi_f (fun z => by have := z.1; omega)).symm), rfl⟩
        · skip
          refine WP.iconst dX8_isScheme_70 ?_
          refine WP.goto (tgt := 75) dX8_isScheme_71 (by decide) ?_
          refine WP.zret dX8_isScheme_75 rfl (by decide) ?_
          refine ⟨congrArg some (congrArg vI (bi_t ⟨by omega, fun c hc => ?_, fun e he c hc => ?_⟩).symm), rfl⟩
          · by_cases e : c = 0
            · rw [e]
            · exact (hok c (by omega) 0 (by omega)).1.symm
          · have h9 := (hok e (by omega) c hc).2
            by_cases e0 : c = 0
            · rw [e0] at h9 ⊢; exact h9
            · rw [← (hok c (by omega) 0 (by omega)).1] at h9; exact h9
      · skip
        refine WP.iconst dX8_isScheme_12 ?_
        refine WP.istore_n (lt := [vR 167, vI ((d : Nat) : Int), vI (0 : Int)]) dX8_isScheme_13 (by decide) rfl ?_
        have L14 : ∀ (n9 : Nat) (c : Nat) (hc : c ≤ d) (hoc : ∀ b, b < c → sz b = sz d ∧ evn n ce (sz b) b d), d - c < n9 → WP sc0 3 m_X8_isScheme 14 [vR 167, vI ((d : Nat) : Int), vI ((c : Nat) : Int)] [] M (Rt (some (vI (bi (sch n k sz ce)))) M) := by
          intro n9
          induction n9 with
          | zero =>
            intro c hc hoc hm9
            exact absurd hm9 (Nat.not_lt_zero _)
          | succ n9 ih14 =>
            intro c hc hoc hm9
            refine WP.iload_n dX8_isScheme_14 rfl ?_
            refine WP.iload_n dX8_isScheme_15 rfl ?_
            refine WP.icmp_ge (tgt := 55) dX8_isScheme_16 (by decide) (by omega) (by omega) (fun h16 => ?_) (fun h16 => ?_)
            · skip
              refine WP.iinc (lt := [vR 167, vI (((d : Nat) : Int) + 1), vI ((c : Nat) : Int)]) dX8_isScheme_55 rfl (by decide) rfl ?_
              refine WP.goto (tgt := 2) dX8_isScheme_58 (by decide) ?_
              refine WP.fgt (lt := [vR 167, vI (((d + 1) : Nat) : Int), vU]) ⟨Or.inr rfl, Or.inr (congrArg vI (by omega)), Or.inl rfl, trivial⟩ ?_
              exact ih2 (d + 1) (by omega) (fun e he => by
                by_cases e9 : e = d
                · rw [e9]; exact fun b hb => hoc b (by omega)
                · exact hok e (by omega)) (by omega)
            · skip
              have w1 := hW.2.2.1 c (by omega)
              have w2 := hW.2.2.1 d (by omega)
              refine WP.aload_n dX8_isScheme_19 rfl ?_
              refine WP.getR (y := 168) dX8_isScheme_20 fl_X8_7 (rfl) (by decide) (rfl) ?_
              refine WP.iconst dX8_isScheme_23 ?_
              refine WP.iload_n dX8_isScheme_24 rfl ?_
              refine WP.iadd dX8_isScheme_25 ?_
              refine WP.iaload (y := (2 + c)) (x := ((sz c : Nat) : Int)) dX8_isScheme_26 (rfl) (by omega) (by omega) (hA.2.2.1 _ (by omega)) ?_
              refine WP.aload_n dX8_isScheme_27 rfl ?_
              refine WP.getR (y := 168) dX8_isScheme_28 fl_X8_7 (rfl) (by decide) (rfl) ?_
              refine WP.iconst dX8_isScheme_31 ?_
              refine WP.iload_n dX8_isScheme_32 rfl ?_
              refine WP.iadd dX8_isScheme_33 ?_
              refine WP.iaload (y := (2 + d)) (x := ((sz d : Nat) : Int)) dX8_isScheme_34 (rfl) (by omega) (by omega) (hA.2.2.1 _ (by omega)) ?_
              refine WP.icmp_ne (tgt := 47) dX8_isScheme_35 (by decide) (by omega) (by omega) (fun h35 => ?_) (fun h35 => ?_)
              · skip
                have hbad : ¬ sch n k sz ce := fun z => by
                  have z1 := z.2.1 c (by omega)
                  have z2 := z.2.1 d (by omega)
                  omega
                refine WP.iconst dX8_isScheme_47 ?_
                refine WP.zret dX8_isScheme_48 rfl (by decide) ?_
                exact ⟨congrArg some (congrArg vI (bi_f hbad).symm), rfl⟩
              · skip
                refine WP.aload_n dX8_isScheme_38 rfl ?_
                refine WP.iload_n dX8_isScheme_39 rfl ?_
                refine WP.iload_n dX8_isScheme_40 rfl ?_
                refine WP.callVp (as := [vI ((c : Nat) : Int), vI ((d : Nat) : Int)]) dX8_isScheme_41 mv_X8_104 rfl (rfl) (by decide) rfl rfl (w_even (c := c) (d := d) hA hW (by omega) (by omega) (by omega)) rfl (Nat.le_of_ble_eq_true rfl) (by omega) ?_
                refine WP.if_ne (tgt := 49) dX8_isScheme_44 (by decide) (bi_rng) (fun h44 => ?_) (fun h44 => ?_)
                · skip
                  have q44 := bi_1 h44
                  refine WP.iinc (lt := [vR 167, vI ((d : Nat) : Int), vI (((c : Nat) : Int) + 1)]) dX8_isScheme_49 rfl (by decide) rfl ?_
                  refine WP.goto (tgt := 14) dX8_isScheme_52 (by decide) ?_
                  refine WP.fgt (lt := [vR 167, vI ((d : Nat) : Int), vI (((c + 1) : Nat) : Int)]) ⟨Or.inr rfl, Or.inr rfl, Or.inr (congrArg vI (by omega)), trivial⟩ ?_
                  exact ih14 (c + 1) (by omega) (fun b hb => by
                    by_cases e9 : b = c
                    · rw [e9]; exact ⟨by omega, q44⟩
                    · exact hoc b (by omega)) (by omega)
                · skip
                  have hbad : ¬ sch n k sz ce := fun z => bi_0 h44 (by rw [z.2.1 c (by omega)]; exact z.2.2 d (by omega) c (by omega))
                  refine WP.iconst dX8_isScheme_47 ?_
                  refine WP.zret dX8_isScheme_48 rfl (by decide) ?_
                  exact ⟨congrArg some (congrArg vI (bi_f hbad).symm), rfl⟩
        refine WP.fgt (lt := [vR 167, vI ((d : Nat) : Int), vI ((0 : Nat) : Int)]) ⟨Or.inr rfl, Or.inr rfl, Or.inr (congrArg vI (by omega)), trivial⟩ ?_
        exact L14 _ (0) (Nat.zero_le _) (fun b hb => absurd hb (Nat.not_lt_zero b)) (Nat.lt_succ_self _)
  refine WP.fgt (lt := [vR 167, vI ((0 : Nat) : Int), vU]) ⟨Or.inr rfl, Or.inr (congrArg vI (by omega)), Or.inl rfl, trivial⟩ ?_
  exact L2 _ (0) (Nat.zero_le _) (fun e he => absurd he (Nat.not_lt_zero e)) (Nat.lt_succ_self _)
set_option maxHeartbeats 4000000 in
set_option maxRecDepth 20000 in
theorem y_develop {M : Mem} {n k h len : Nat} {sz tx : Nat → Nat} {ce : Nat → Nat → Nat} {hs : Nat → AR} {im : Nat → Option AR} (hV : InvM M (mkS n k sz ce h hs im len tx))  : CT 40 m_X8_develop [vR 167] M (PM M (o_develop (mkS n k sz ce h hs im len tx) )) := by
  have hA : BX (M 168) n k sz ce := hV.1.1
  have hW : Wf n k sz ce := hV.1.2
  have hH : HM M h hs := hV.2.1
  have hIM : IMm M im := hV.2.2.1
  have hS : SM M len tx := hV.2.2.2
  have b1 := hW.1
  have b2 := hW.2.1
  have hh8 := hH.1
  have hl3 := hS.1
  refine CT.ofWP (by decide +kernel) (Nat.le_of_ble_eq_true rfl) ?_
  show WP sc0 40 m_X8_develop 0 [vR 167, vU, vU, vU, vU, vU, vU] [] M (PM M (o_develop (mkS n k sz ce h hs im len tx) ))
  refine WP.aload_n dX8_develop_0 rfl ?_
  refine WP.getR (y := 168) dX8_develop_1 fl_X8_7 (rfl) (by decide) (rfl) ?_
  refine WP.iconst dX8_develop_4 ?_
  refine WP.iaload (y := 0) (x := ((n : Nat) : Int)) dX8_develop_5 (rfl) (by omega) (by omega) (hA.1) ?_
  refine WP.if_eq (tgt := 16) dX8_develop_6 (by decide) (by omega) (fun h6 => ?_) (fun h6 => ?_)
  · skip
    have hno : n = 0 ∨ ¬ sch n k sz ce := Or.inl (by omega)
    refine WP.bipush dX8_develop_16 (by decide) ?_
    refine WP.iret dX8_develop_18 rfl ?_
    exact PM.same (cif_t hno) hV
  · skip
    refine WP.aload_n dX8_develop_9 rfl ?_
    refine WP.callVp (as := []) dX8_develop_10 mv_X8_108 rfl (rfl) (by decide) rfl rfl (w_isScheme hA hW) rfl (Nat.le_of_ble_eq_true rfl) (by omega) ?_
    refine WP.if_ne (tgt := 19) dX8_develop_13 (by decide) (bi_rng) (fun h13 => ?_) (fun h13 => ?_)
    · skip
      have hsch := bi_1 h13
      have hk0 := hsch.1
      have w0 := hW.2.2.1 0 hk0
      have hyes : ¬ (n = 0 ∨ ¬ sch n k sz ce) := fun z => z.elim (fun y => by omega) (fun y => y hsch)
      have hm36 : n * sz 0 ≤ 36 * 6 := Nat.mul_le_mul b1 w0.2
      refine WP.aload_n dX8_develop_19 rfl ?_
      refine WP.getR (y := 168) dX8_develop_20 fl_X8_7 (rfl) (by decide) (rfl) ?_
      refine WP.iconst dX8_develop_23 ?_
      refine WP.iaload (y := (2 + 0)) (x := ((sz 0 : Nat) : Int)) dX8_develop_24 (rfl) (by omega) (by omega) (hA.2.2.1 0 hk0) ?_
      refine WP.istore_n (lt := [vR 167, vI ((sz 0 : Nat) : Int), vU, vU, vU, vU, vU]) dX8_develop_25 (by decide) rfl ?_
      refine WP.aload_n dX8_develop_26 rfl ?_
      refine WP.getR (y := 168) dX8_develop_27 fl_X8_7 (rfl) (by decide) (rfl) ?_
      refine WP.iconst dX8_develop_30 ?_
      refine WP.iaload (y := 0) (x := ((n : Nat) : Int)) dX8_develop_31 (rfl) (by omega) (by omega) (hA.1) ?_
      refine WP.istore_n (lt := [vR 167, vI ((sz 0 : Nat) : Int), vI ((n : Nat) : Int), vU, vU, vU, vU]) dX8_develop_32 (by decide) rfl ?_
      refine WP.aload_n dX8_develop_33 rfl ?_
      refine WP.getR (y := 168) dX8_develop_34 fl_X8_7 (rfl) (by decide) (rfl) ?_
      refine WP.iconst dX8_develop_37 ?_
      refine WP.iaload (y := 1) (x := ((k : Nat) : Int)) dX8_develop_38 (rfl) (by omega) (by omega) (hA.2.1) ?_
      refine WP.istore_n (lt := [vR 167, vI ((sz 0 : Nat) : Int), vI ((n : Nat) : Int), vI ((k : Nat) : Int), vU, vU, vU]) dX8_develop_39 (by decide) rfl ?_
      refine WP.iload_n dX8_develop_40 rfl ?_
      refine WP.iconst dX8_develop_41 ?_
      refine WP.bipush dX8_develop_42 (by decide) ?_
      refine WP.callSp (as := [vI ((n : Nat) : Int), vI (2 : Int), vI (6 : Int)]) dX8_develop_44 ms_X8_43 rfl (w_isIn (by omega) (by omega) (by omega)) rfl (Nat.le_of_ble_eq_true rfl) (by omega) ?_
      refine WP.if_eq (tgt := 54) dX8_develop_47 (by decide) (bi_rng) (fun h47 => ?_) (fun h47 => ?_)
      · skip
        have hdvm : dvm n = 0 := if_neg (fun z => bi_0 h47 (by omega))
        refine WP.iconst dX8_develop_54 ?_
        refine WP.istore (lt := [vR 167, vI ((sz 0 : Nat) : Int), vI ((n : Nat) : Int), vI ((k : Nat) : Int), vI (0 : Int), vU, vU]) dX8_develop_55 (by decide) rfl ?_
        refine WP.fgt (lt := [vR 167, vI ((sz 0 : Nat) : Int), vI ((n : Nat) : Int), vI ((k : Nat) : Int), vI ((dvm n : Nat) : Int), vU, vU]) ⟨Or.inr rfl, Or.inr rfl, Or.inr rfl, Or.inr rfl, Or.inr (congrArg vI (by rw [hdvm]; rfl)), Or.inl rfl, Or.inl rfl, trivial⟩ ?_
        refine WP.iload_n dX8_develop_57 rfl ?_
        refine WP.iload_n dX8_develop_58 rfl ?_
        refine WP.imul dX8_develop_59 ?_
        refine WP.eqs (st' := [vI ((n * sz 0 : Nat) : Int)]) rfl (lc (congrArg vI (by rw [Int.natCast_mul])) rfl) ?_
        refine WP.bipush dX8_develop_60 (by decide) ?_
        refine WP.icmp_gt (tgt := 74) dX8_develop_62 (by decide) (by omega) (by omega) (fun h62 => ?_) (fun h62 => ?_)
        · skip
          refine WP.bipush dX8_develop_74 (by decide) ?_
          refine WP.iret dX8_develop_76 rfl ?_
          exact PM.same ((cif_f hyes).trans (if_pos (show 36 < n * sz 0 ∨ 7 < k + dvm n by omega))) hV
        · skip
          refine WP.iload_n dX8_develop_65 rfl ?_
          refine WP.iload dX8_develop_66 rfl ?_
          refine WP.iadd dX8_develop_68 ?_
          refine WP.bipush dX8_develop_69 (by decide) ?_
          refine WP.icmp_le (tgt := 77) dX8_develop_71 (by decide) (by omega) (by omega) (fun h71 => ?_) (fun h71 => ?_)
          · skip
            refine WP.aload_n dX8_develop_77 rfl ?_
            refine WP.callV (as := []) dX8_develop_78 mv_X8_51 rfl (rfl) (by decide) rfl rfl (w_remember (A := (n, k, sz, ce)) hH hV.1) rfl (Nat.le_of_ble_eq_true rfl) (by omega) (fun r9 M1 h9 => ?_)
            obtain ⟨rfl, hR1⟩ := h9
            have hA1 : BX (M1 168) n k sz ce := by rw [hR1.1 168 (by decide) (by decide)]; exact hA
            obtain ⟨p, hp1, hp8, hpm, hpb⟩ := hR1.last
            have hpb1 := hpb.1.2.2.2
            show WP sc0 40 m_X8_develop 81 [vR 167, vI ((sz 0 : Nat) : Int), vI ((n : Nat) : Int), vI ((k : Nat) : Int), vI ((dvm n : Nat) : Int), vU, vU] [] M1 (PM M (o_develop (mkS n k sz ce h hs im len tx) ))
            refine WP.aload_n dX8_develop_81 rfl ?_
            refine WP.getR (y := 168) dX8_develop_82 fl_X8_7 (rfl) (by decide) (rfl) ?_
            refine WP.iconst dX8_develop_85 ?_
            refine WP.iload_n dX8_develop_86 rfl ?_
            refine WP.iload_n dX8_develop_87 rfl ?_
            refine WP.imul dX8_develop_88 ?_
            refine WP.eqs (st' := [vI ((n * sz 0 : Nat) : Int), vI (0 : Int), vR 168]) rfl (lc (congrArg vI (by rw [Int.natCast_mul])) rfl) ?_
            refine WP.iastore (y := 0) dX8_develop_89 (rfl) (by omega) (by omega) rfl ?_
            obtain ⟨M2, hM2⟩ : ∃ z, z = (mset M1 168 0 ((n * sz 0 : Nat) : Int)) := ⟨_, rfl⟩
            refine WP.eqM hM2.symm ?_
            have hO2 : ∀ a, a ≠ 168 → M2 a = M1 a := fun a ha => by rw [hM2]; exact mset_o a ha
            refine WP.iload_n dX8_develop_90 rfl ?_
            refine WP.iload_n dX8_develop_91 rfl ?_
            refine WP.imul dX8_develop_92 ?_
            refine WP.eqs (st' := [vI ((n * sz 0 : Nat) : Int)]) rfl (lc (congrArg vI (by rw [Int.natCast_mul])) rfl) ?_
            refine WP.iconst dX8_develop_93 ?_
            refine WP.isub dX8_develop_94 ?_
            refine WP.istore (lt := [vR 167, vI ((sz 0 : Nat) : Int), vI ((n : Nat) : Int), vI ((k : Nat) : Int), vI ((dvm n : Nat) : Int), vI (((n * sz 0 : Nat) : Int) - (1 : Int)), vU]) dX8_develop_95 (by decide) rfl ?_
            have L97 : ∀ (n9 : Nat) (i : Nat) (M3 : Mem) (hi : i ≤ n * sz 0) (hF3 : ∀ a, a ≠ 168 → M3 a = M1 a) (h03 : M3 168 0 = ((n * sz 0 : Nat) : Int)) (hB3 : ∀ j, 0 < j → j < 9 → M3 168 j = M1 168 j) (hC3 : ∀ q, i ≤ q → q < n * sz 0 → (∀ b, b < k → M3 168 (9 + 7 * q + b) = (((ce (q / sz 0) b + q % sz 0) % sz 0 : Nat) : Int)) ∧ (dvm n = 1 → M3 168 (9 + 7 * q + k) = ((q / sz 0 : Nat) : Int))), i < n9 → WP sc0 40 m_X8_develop 97 [vR 167, vI ((sz 0 : Nat) : Int), vI ((n : Nat) : Int), vI ((k : Nat) : Int), vI ((dvm n : Nat) : Int), vI (((i : Nat) : Int) - 1), vU] [] M3 (PM M (o_develop (mkS n k sz ce h hs im len tx) )) := by
              intro n9
              induction n9 with
              | zero =>
                intro i M3 hi hF3 h03 hB3 hC3 hm9
                exact absurd hm9 (Nat.not_lt_zero _)
              | succ n9 ih97 =>
                intro i M3 hi hF3 h03 hB3 hC3 hm9
                refine WP.iload dX8_develop_97 rfl ?_
                refine WP.if_lt (tgt := 184) dX8_develop_99 (by decide) (by omega) (fun h99 => ?_) (fun h99 => ?_)
                · skip
                  refine WP.iload dX8_develop_184 rfl ?_
                  refine WP.iconst dX8_develop_186 ?_
                  refine WP.icmp_ne (tgt := 209) dX8_develop_187 (by decide) (by omega) (by omega) (fun h187 => ?_) (fun h187 => ?_)
                  · skip
                    have hm0 : dvm n = 0 := by omega
                    refine WP.aload_n dX8_develop_209 rfl ?_
                    refine WP.getR (y := 168) dX8_develop_210 fl_X8_7 (rfl) (by decide) (rfl) ?_
                    refine WP.iconst dX8_develop_213 ?_
                    refine WP.iaload (y := 0) (x := ((n * sz 0 : Nat) : Int)) dX8_develop_214 (rfl) (by omega) (by omega) (h03) ?_
                    refine WP.iret dX8_develop_215 rfl ?_
                    have hi0 : i = 0 := by omega
                    subst hi0
                    have hE : o_develop (mkS n k sz ce h hs im len tx) = (((n * sz 0 : Nat) : Int), chg (mkS n k sz ce h hs im len tx) (n * sz 0, k + dvm n, dvS sz k n, dvC ce k (sz 0))) := (cif_f hyes).trans (if_neg (show ¬ (36 < n * sz 0 ∨ 7 < k + dvm n) by omega))
                    have hBX : BX (M3 168) (n * sz 0) (k + dvm n) (dvS sz k n) (dvC ce k (sz 0)) := by
                      rw [hm0]
                      refine ⟨h03, by rw [hB3 1 (by omega) (by omega)]; exact hA1.2.1, fun b hb => ?_, fun r hr b hb => ?_⟩
                      · unfold dvS
                        rw [if_pos (by omega), hB3 _ (by omega) (by omega), ← hsch.2.1 b (by omega)]
                        exact hA1.2.2.1 b (by omega)
                      · unfold dvC
                        rw [if_pos (by omega)]
                        exact (hC3 r (Nat.zero_le _) hr).1 b (by omega)
                    exact PM.ch (A' := (n * sz 0, k + dvm n, dvS sz k n, dvC ce k (sz 0))) hE hV hR1 (hF3) hBX (Wf_dv hW hk0 (by omega) rfl (by omega))
                  · skip
                    have hm0 : dvm n = 1 := by omega
                    refine WP.aload_n dX8_develop_190 rfl ?_
                    refine WP.getR (y := 168) dX8_develop_191 fl_X8_7 (rfl) (by decide) (rfl) ?_
                    refine WP.iconst dX8_develop_194 ?_
                    refine WP.iload_n dX8_develop_195 rfl ?_
                    refine WP.iadd dX8_develop_196 ?_
                    refine WP.iload_n dX8_develop_197 rfl ?_
                    refine WP.iastore (y := (2 + k)) dX8_develop_198 (rfl) (by omega) (by omega) rfl ?_
                    obtain ⟨M7, hM7⟩ : ∃ z, z = (mset M3 168 ((2 + k)) ((n : Nat) : Int)) := ⟨_, rfl⟩
                    refine WP.eqM hM7.symm ?_
                    have hO7 : ∀ a, a ≠ 168 → M7 a = M3 a := fun a ha => by rw [hM7]; exact mset_o a ha
                    refine WP.aload_n dX8_develop_199 rfl ?_
                    refine WP.getR (y := 168) dX8_develop_200 fl_X8_7 (rfl) (by decide) (rfl) ?_
                    refine WP.iconst dX8_develop_203 ?_
                    refine WP.dup2 dX8_develop_204 rfl rfl ?_
                    refine WP.iaload (y := 1) (x := ((k : Nat) : Int)) dX8_develop_205 (rfl) (by omega) (by omega) (by rw [hM7, mset_n (Or.inr (by omega)), hB3 1 (by omega) (by omega)]; exact hA1.2.1) ?_
                    refine WP.iconst dX8_develop_206 ?_
                    refine WP.iadd dX8_develop_207 ?_
                    refine WP.iastore (y := 1) dX8_develop_208 (rfl) (by omega) (by omega) rfl ?_
                    obtain ⟨M8, hM8⟩ : ∃ z, z = (mset M7 168 1 (((k : Nat) : Int) + (1 : Int))) := ⟨_, rfl⟩
                    refine WP.eqM hM8.symm ?_
                    have hO8 : ∀ a, a ≠ 168 → M8 a = M7 a := fun a ha => by rw [hM8]; exact mset_o a ha
                    refine WP.aload_n dX8_develop_209 rfl ?_
                    refine WP.getR (y := 168) dX8_develop_210 fl_X8_7 (rfl) (by decide) (rfl) ?_
                    refine WP.iconst dX8_develop_213 ?_
                    refine WP.iaload (y := 0) (x := ((n * sz 0 : Nat) : Int)) dX8_develop_214 (rfl) (by omega) (by omega) (by rw [hM8, mset_n (Or.inr (by omega)), hM7, mset_n (Or.inr (by omega))]; exact h03) ?_
                    refine WP.iret dX8_develop_215 rfl ?_
                    have hi0 : i = 0 := by omega
                    subst hi0
                    have hE : o_develop (mkS n k sz ce h hs im len tx) = (((n * sz 0 : Nat) : Int), chg (mkS n k sz ce h hs im len tx) (n * sz 0, k + dvm n, dvS sz k n, dvC ce k (sz 0))) := (cif_f hyes).trans (if_neg (show ¬ (36 < n * sz 0 ∨ 7 < k + dvm n) by omega))
                    have hG8 : ∀ j, j ≠ 1 → j ≠ 2 + k → M8 168 j = M3 168 j := fun j i1 i2 => by rw [hM8, mset_n (Or.inr i1), hM7, mset_n (Or.inr i2)]
                    have hBX : BX (M8 168) (n * sz 0) (k + dvm n) (dvS sz k n) (dvC ce k (sz 0)) := by
                      rw [hm0]
                      refine ⟨by rw [hG8 _ (by omega) (by omega)]; exact h03, by rw [hM8, mset_s]; omega, fun b hb => ?_, fun r hr b hb => ?_⟩
                      · unfold dvS
                        by_cases e9 : b < k
                        · rw [if_pos e9, hG8 _ (by omega) (by omega), hB3 _ (by omega) (by omega), ← hsch.2.1 b e9]
                          exact hA1.2.2.1 b e9
                        · rw [if_neg e9, show b = k by omega, hM8, mset_n (Or.inr (by omega)), hM7, mset_s]
                      · rw [hG8 _ (by omega) (by omega)]
                        unfold dvC
                        by_cases e9 : b < k
                        · rw [if_pos e9]
                          exact (hC3 r (Nat.zero_le _) hr).1 b e9
                        · rw [if_neg e9, show b = k by omega]
                          exact (hC3 r (Nat.zero_le _) hr).2 hm0
                    exact PM.ch (A' := (n * sz 0, k + dvm n, dvS sz k n, dvC ce k (sz 0))) hE hV hR1 (fun a ha => by rw [hO8 a ha, hO7 a ha]; exact hF3 a ha) hBX (Wf_dv hW hk0 (by omega) rfl (by omega))
                · skip
                  obtain ⟨i9, hi9⟩ : ∃ z, i = z + 1 := ⟨i - 1, by omega⟩
                  subst hi9
                  have hd1 : i9 / sz 0 < n := Nat.div_lt_of_lt_mul (by rw [Nat.mul_comm]; omega)
                  have hm1 := Nat.mod_lt i9 (show 0 < sz 0 by omega)
                  refine WP.iconst dX8_develop_102 ?_
                  refine WP.istore (lt := [vR 167, vI ((sz 0 : Nat) : Int), vI ((n : Nat) : Int), vI ((k : Nat) : Int), vI ((dvm n : Nat) : Int), vI ((((i9 + 1) : Nat) : Int) - 1), vI (0 : Int)]) dX8_develop_103 (by decide) rfl ?_
                  have L105 : ∀ (n9 : Nat) (c : Nat) (M4 : Mem) (hc : c ≤ k) (hF4 : ∀ a, a ≠ 168 → M4 a = M1 a) (h04 : M4 168 0 = ((n * sz 0 : Nat) : Int)) (hB4 : ∀ j, 0 < j → j < 9 → M4 168 j = M1 168 j) (hY4 : ∀ q, i9 < q → q < n * sz 0 → (∀ b, b < k → M4 168 (9 + 7 * q + b) = (((ce (q / sz 0) b + q % sz 0) % sz 0 : Nat) : Int)) ∧ (dvm n = 1 → M4 168 (9 + 7 * q + k) = ((q / sz 0 : Nat) : Int))) (hZ4 : ∀ b, b < c → M4 168 (9 + 7 * i9 + b) = (((ce (i9 / sz 0) b + i9 % sz 0) % sz 0 : Nat) : Int)), k - c < n9 → WP sc0 40 m_X8_develop 105 [vR 167, vI ((sz 0 : Nat) : Int), vI ((n : Nat) : Int), vI ((k : Nat) : Int), vI ((dvm n : Nat) : Int), vI (((i9 + 1 : Nat) : Int) - 1), vI ((c : Nat) : Int)] [] M4 (PM M (o_develop (mkS n k sz ce h hs im len tx) )) := by
                    intro n9
                    induction n9 with
                    | zero =>
                      intro c M4 hc hF4 h04 hB4 hY4 hZ4 hm9
                      exact absurd hm9 (Nat.not_lt_zero _)
                    | succ n9 ih105 =>
                      intro c M4 hc hF4 h04 hB4 hY4 hZ4 hm9
                      refine WP.iload dX8_develop_105 rfl ?_
                      refine WP.iload_n dX8_develop_107 rfl ?_
                      refine WP.icmp_ge (tgt := 161) dX8_develop_108 (by decide) (by omega) (by omega) (fun h108 => ?_) (fun h108 => ?_)
                      · skip
                        refine WP.iload dX8_develop_161 rfl ?_
                        refine WP.iconst dX8_develop_163 ?_
                        refine WP.icmp_ne (tgt := 178) dX8_develop_164 (by decide) (by omega) (by omega) (fun h164 => ?_) (fun h164 => ?_)
                        · skip
                          have hm0 : dvm n ≠ 1 := by omega
                          have hX4 : ∀ q, i9 ≤ q → q < n * sz 0 → (∀ b, b < k → M4 168 (9 + 7 * q + b) = (((ce (q / sz 0) b + q % sz 0) % sz 0 : Nat) : Int)) ∧ (dvm n = 1 → M4 168 (9 + 7 * q + k) = ((q / sz 0 : Nat) : Int)) := fun q i1 i2 => by
                            by_cases e9 : q = i9
                            · rw [e9]
                              exact ⟨fun b hb => hZ4 b (by omega), fun z => absurd z hm0⟩
                            · exact hY4 q (by omega) i2
                          refine WP.iinc (lt := [vR 167, vI ((sz 0 : Nat) : Int), vI ((n : Nat) : Int), vI ((k : Nat) : Int), vI ((dvm n : Nat) : Int), vI ((((i9 + 1 : Nat) : Int) - 1) + (-1)), vI ((c : Nat) : Int)]) dX8_develop_178 rfl (by decide) rfl ?_
                          refine WP.goto (tgt := 97) dX8_develop_181 (by decide) ?_
                          refine WP.fgt (lt := [vR 167, vI ((sz 0 : Nat) : Int), vI ((n : Nat) : Int), vI ((k : Nat) : Int), vI ((dvm n : Nat) : Int), vI (((i9 : Nat) : Int) - 1), vU]) ⟨Or.inr rfl, Or.inr rfl, Or.inr rfl, Or.inr rfl, Or.inr rfl, Or.inr (congrArg vI (by omega)), Or.inl rfl, trivial⟩ ?_
                          exact ih97 (i9) (M4) (by omega) (hF4) (h04) (hB4) (hX4) (by omega)
                        · skip
                          refine WP.aload_n dX8_develop_167 rfl ?_
                          refine WP.iload dX8_develop_168 rfl ?_
                          refine WP.iload_n dX8_develop_170 rfl ?_
                          refine WP.iload dX8_develop_171 rfl ?_
                          refine WP.iload_n dX8_develop_173 rfl ?_
                          refine WP.idiv dX8_develop_174 (by omega) (by omega) ?_
                          refine WP.eqs (st' := [vI ((i9 / sz 0 : Nat) : Int), vI ((k : Nat) : Int), vI (((i9 + 1 : Nat) : Int) - 1), vR 167]) rfl (lc (congrArg vI (by rw [Int.natCast_ediv]; congr 1; omega)) rfl) ?_
                          refine WP.eqs (st' := [vI ((i9 / sz 0 : Nat) : Int), vI ((k : Nat) : Int), vI ((i9 : Nat) : Int), vR 167]) rfl (lc (rfl) (lc (rfl) (lc (congrArg vI (by omega)) (rfl)))) ?_
                          refine WP.callV (as := [vI ((i9 : Nat) : Int), vI ((k : Nat) : Int), vI ((i9 / sz 0 : Nat) : Int)]) dX8_develop_175 mv_X8_58 rfl (rfl) (by decide) rfl rfl (w_set (r := i9) (c := k) (by omega) (by omega)) rfl (Nat.le_of_ble_eq_true rfl) (by omega) (fun r9 M6 h9 => ?_)
                          obtain ⟨rfl, f6, g6, e6⟩ := h9
                          have hF6 : ∀ a, a ≠ 168 → M6 a = M1 a := fun a ha => (f6 a ha).trans (hF4 a ha)
                          have h06 : M6 168 0 = ((n * sz 0 : Nat) : Int) := by rw [e6 _ (by omega)]; exact h04
                          have hB6 : ∀ j, 0 < j → j < 9 → M6 168 j = M1 168 j := fun j i1 i2 => by rw [e6 _ (by omega)]; exact hB4 j i1 i2
                          have hX6 : ∀ q, i9 ≤ q → q < n * sz 0 → (∀ b, b < k → M6 168 (9 + 7 * q + b) = (((ce (q / sz 0) b + q % sz 0) % sz 0 : Nat) : Int)) ∧ (dvm n = 1 → M6 168 (9 + 7 * q + k) = ((q / sz 0 : Nat) : Int)) := fun q i1 i2 => by
                            by_cases e9 : q = i9
                            · rw [e9]
                              exact ⟨fun b hb => by rw [e6 _ (by omega)]; exact hZ4 b (by omega), fun _ => g6⟩
                            · exact ⟨fun b hb => by rw [e6 _ (by omega)]; exact (hY4 q (by omega) i2).1 b hb, fun z => by rw [e6 _ (by omega)]; exact (hY4 q (by omega) i2).2 z⟩
                          show WP sc0 40 m_X8_develop 178 [vR 167, vI ((sz 0 : Nat) : Int), vI ((n : Nat) : Int), vI ((k : Nat) : Int), vI ((dvm n : Nat) : Int), vI (((i9 + 1 : Nat) : Int) - 1), vI ((c : Nat) : Int)] [] M6 (PM M (o_develop (mkS n k sz ce h hs im len tx) ))
                          refine WP.iinc (lt := [vR 167, vI ((sz 0 : Nat) : Int), vI ((n : Nat) : Int), vI ((k : Nat) : Int), vI ((dvm n : Nat) : Int), vI ((((i9 + 1 : Nat) : Int) - 1) + (-1)), vI ((c : Nat) : Int)]) dX8_develop_178 rfl (by decide) rfl ?_
                          refine WP.goto (tgt := 97) dX8_develop_181 (by decide) ?_
                          refine WP.fgt (lt := [vR 167, vI ((sz 0 : Nat) : Int), vI ((n : Nat) : Int), vI ((k : Nat) : Int), vI ((dvm n : Nat) : Int), vI (((i9 : Nat) : Int) - 1), vU]) ⟨Or.inr rfl, Or.inr rfl, Or.inr rfl, Or.inr rfl, Or.inr rfl, Or.inr (congrArg vI (by omega)), Or.inl rfl, trivial⟩ ?_
                          exact ih97 (i9) (M6) (by omega) (hF6) (h06) (hB6) (hX6) (by omega)
                      · skip
                        refine WP.aload_n dX8_develop_111 rfl ?_
                        refine WP.iload dX8_develop_112 rfl ?_
                        refine WP.iload dX8_develop_114 rfl ?_
                        refine WP.aload_n dX8_develop_116 rfl ?_
                        refine WP.getR (y := 169) dX8_develop_117 fl_X8_13 (rfl) (by decide) (rfl) ?_
                        refine WP.sipush dX8_develop_120 (by decide) ?_
                        refine WP.aload_n dX8_develop_123 rfl ?_
                        refine WP.getI (x := ((p : Nat) : Int)) dX8_develop_124 fl_X8_47 (rfl) (by decide) (by rw [hF4 167 (by decide)]; exact hpm) ?_
                        refine WP.iconst dX8_develop_127 ?_
                        refine WP.isub dX8_develop_128 ?_
                        refine WP.imul dX8_develop_129 ?_
                        refine WP.bipush dX8_develop_130 (by decide) ?_
                        refine WP.iadd dX8_develop_132 ?_
                        refine WP.bipush dX8_develop_133 (by decide) ?_
                        refine WP.iload dX8_develop_135 rfl ?_
                        refine WP.iload_n dX8_develop_137 rfl ?_
                        refine WP.idiv dX8_develop_138 (by omega) (by omega) ?_
                        refine WP.eqs (st' := [vI ((i9 / sz 0 : Nat) : Int), vI (7 : Int), vI (((261 : Int) * (((p : Nat) : Int) - (1 : Int))) + (9 : Int)), vR 169, vI ((c : Nat) : Int), vI (((i9 + 1 : Nat) : Int) - 1), vR 167]) rfl (lc (congrArg vI (by rw [Int.natCast_ediv]; congr 1; omega)) rfl) ?_
                        refine WP.imul dX8_develop_139 ?_
                        refine WP.iadd dX8_develop_140 ?_
                        refine WP.iload dX8_develop_141 rfl ?_
                        refine WP.iadd dX8_develop_143 ?_
                        have vc := hW.2.2.2 (i9 / sz 0) hd1 c (by omega)
                        have wc := hW.2.2.1 c (by omega)
                        refine WP.iaload (y := (261 * (p - 1) + (9 + 7 * (i9 / sz 0) + c))) (x := ((ce (i9 / sz 0) c : Nat) : Int)) dX8_develop_144 (rfl) (by omega) (by omega) (by rw [hF4 169 (by decide)]; exact hpb1 (i9 / sz 0) hd1 c (show c < k by omega)) ?_
                        refine WP.iload dX8_develop_145 rfl ?_
                        refine WP.iload_n dX8_develop_147 rfl ?_
                        refine WP.irem dX8_develop_148 (by omega) (by omega) ?_
                        refine WP.eqs (st' := [vI ((i9 % sz 0 : Nat) : Int), vI ((ce (i9 / sz 0) c : Nat) : Int), vI ((c : Nat) : Int), vI (((i9 + 1 : Nat) : Int) - 1), vR 167]) rfl (lc (congrArg vI (by rw [Int.natCast_emod]; congr 1; omega)) rfl) ?_
                        refine WP.iadd dX8_develop_149 ?_
                        refine WP.iload_n dX8_develop_150 rfl ?_
                        refine WP.irem dX8_develop_151 (by omega) (by omega) ?_
                        refine WP.eqs (st' := [vI (((ce (i9 / sz 0) c + i9 % sz 0) % sz 0 : Nat) : Int), vI ((c : Nat) : Int), vI (((i9 + 1 : Nat) : Int) - 1), vR 167]) rfl (lc (congrArg vI (by rw [← Int.natCast_add, ← Int.natCast_emod])) rfl) ?_
                        refine WP.eqs (st' := [vI (((ce (i9 / sz 0) c + i9 % sz 0) % sz 0 : Nat) : Int), vI ((c : Nat) : Int), vI ((i9 : Nat) : Int), vR 167]) rfl (lc (rfl) (lc (rfl) (lc (congrArg vI (by omega)) (rfl)))) ?_
                        refine WP.callV (as := [vI ((i9 : Nat) : Int), vI ((c : Nat) : Int), vI (((ce (i9 / sz 0) c + i9 % sz 0) % sz 0 : Nat) : Int)]) dX8_develop_152 mv_X8_58 rfl (rfl) (by decide) rfl rfl (w_set (r := i9) (c := c) (by omega) (by omega)) rfl (Nat.le_of_ble_eq_true rfl) (by omega) (fun r9 M5 h9 => ?_)
                        obtain ⟨rfl, f5, g5, e5⟩ := h9
                        show WP sc0 40 m_X8_develop 155 [vR 167, vI ((sz 0 : Nat) : Int), vI ((n : Nat) : Int), vI ((k : Nat) : Int), vI ((dvm n : Nat) : Int), vI (((i9 + 1 : Nat) : Int) - 1), vI ((c : Nat) : Int)] [] M5 (PM M (o_develop (mkS n k sz ce h hs im len tx) ))
                        refine WP.iinc (lt := [vR 167, vI ((sz 0 : Nat) : Int), vI ((n : Nat) : Int), vI ((k : Nat) : Int), vI ((dvm n : Nat) : Int), vI (((i9 + 1 : Nat) : Int) - 1), vI (((c : Nat) : Int) + 1)]) dX8_develop_155 rfl (by decide) rfl ?_
                        refine WP.goto (tgt := 105) dX8_develop_158 (by decide) ?_
                        refine WP.fgt (lt := [vR 167, vI ((sz 0 : Nat) : Int), vI ((n : Nat) : Int), vI ((k : Nat) : Int), vI ((dvm n : Nat) : Int), vI (((i9 + 1 : Nat) : Int) - 1), vI (((c + 1) : Nat) : Int)]) ⟨Or.inr rfl, Or.inr rfl, Or.inr rfl, Or.inr rfl, Or.inr rfl, Or.inr rfl, Or.inr (congrArg vI (by omega)), trivial⟩ ?_
                        exact ih105 (c + 1) (M5) (by omega) (fun a ha => (f5 a ha).trans (hF4 a ha)) (by rw [e5 _ (by omega)]; exact h04) (fun j i1 i2 => by rw [e5 _ (by omega)]; exact hB4 j i1 i2) (fun q i1 i2 => ⟨fun b hb => by rw [e5 _ (by omega)]; exact (hY4 q i1 i2).1 b hb, fun z => by rw [e5 _ (by omega)]; exact (hY4 q i1 i2).2 z⟩) (fun b hb => by
                          by_cases e9 : b = c
                          · rw [e9]; exact g5
                          · rw [e5 _ (by omega)]; exact hZ4 b (by omega)) (by omega)
                  refine WP.fgt (lt := [vR 167, vI ((sz 0 : Nat) : Int), vI ((n : Nat) : Int), vI ((k : Nat) : Int), vI ((dvm n : Nat) : Int), vI (((i9 + 1 : Nat) : Int) - 1), vI ((0 : Nat) : Int)]) ⟨Or.inr rfl, Or.inr rfl, Or.inr rfl, Or.inr rfl, Or.inr rfl, Or.inr (congrArg vI (rfl)), Or.inr (congrArg vI (by omega)), trivial⟩ ?_
                  exact L105 _ (0) (M3) (Nat.zero_le _) (hF3) (h03) (hB3) (fun q i1 i2 => hC3 q (by omega) i2) (fun b hb => absurd hb (Nat.not_lt_zero b)) (Nat.lt_succ_self _)
            refine WP.fgt (lt := [vR 167, vI ((sz 0 : Nat) : Int), vI ((n : Nat) : Int), vI ((k : Nat) : Int), vI ((dvm n : Nat) : Int), vI ((((n * sz 0) : Nat) : Int) - 1), vU]) ⟨Or.inr rfl, Or.inr rfl, Or.inr rfl, Or.inr rfl, Or.inr rfl, Or.inr (congrArg vI (by omega)), Or.inl rfl, trivial⟩ ?_
            exact L97 _ (n * sz 0) (M2) (Nat.le_refl _) (hO2) (by rw [hM2, mset_s]) (fun j i1 _ => by rw [hM2, mset_n (Or.inr (by omega))]) (fun q i1 i2 => absurd i2 (by omega)) (Nat.lt_succ_self _)
          · skip
            refine WP.bipush dX8_develop_74 (by decide) ?_
            refine WP.iret dX8_develop_76 rfl ?_
            exact PM.same ((cif_f hyes).trans (if_pos (show 36 < n * sz 0 ∨ 7 < k + dvm n by omega))) hV
      · skip
        have hdvm : dvm n = 1 := if_pos (by have := bi_1 h47; omega)
        refine WP.iconst dX8_develop_50 ?_
        refine WP.goto (tgt := 55) dX8_develop_51 (by decide) ?_
        refine WP.istore (lt := [vR 167, vI ((sz 0 : Nat) : Int), vI ((n : Nat) : Int), vI ((k : Nat) : Int), vI (1 : Int), vU, vU]) dX8_develop_55 (by decide) rfl ?_
        refine WP.fgt (lt := [vR 167, vI ((sz 0 : Nat) : Int), vI ((n : Nat) : Int), vI ((k : Nat) : Int), vI ((dvm n : Nat) : Int), vU, vU]) ⟨Or.inr rfl, Or.inr rfl, Or.inr rfl, Or.inr rfl, Or.inr (congrArg vI (by rw [hdvm]; rfl)), Or.inl rfl, Or.inl rfl, trivial⟩ ?_
        refine WP.iload_n dX8_develop_57 rfl ?_
        refine WP.iload_n dX8_develop_58 rfl ?_
        refine WP.imul dX8_develop_59 ?_
        refine WP.eqs (st' := [vI ((n * sz 0 : Nat) : Int)]) rfl (lc (congrArg vI (by rw [Int.natCast_mul])) rfl) ?_
        refine WP.bipush dX8_develop_60 (by decide) ?_
        refine WP.icmp_gt (tgt := 74) dX8_develop_62 (by decide) (by omega) (by omega) (fun h62 => ?_) (fun h62 => ?_)
        · skip
          refine WP.bipush dX8_develop_74 (by decide) ?_
          refine WP.iret dX8_develop_76 rfl ?_
          exact PM.same ((cif_f hyes).trans (if_pos (show 36 < n * sz 0 ∨ 7 < k + dvm n by omega))) hV
        · skip
          refine WP.iload_n dX8_develop_65 rfl ?_
          refine WP.iload dX8_develop_66 rfl ?_
          refine WP.iadd dX8_develop_68 ?_
          refine WP.bipush dX8_develop_69 (by decide) ?_
          refine WP.icmp_le (tgt := 77) dX8_develop_71 (by decide) (by omega) (by omega) (fun h71 => ?_) (fun h71 => ?_)
          · skip
            refine WP.aload_n dX8_develop_77 rfl ?_
            refine WP.callV (as := []) dX8_develop_78 mv_X8_51 rfl (rfl) (by decide) rfl rfl (w_remember (A := (n, k, sz, ce)) hH hV.1) rfl (Nat.le_of_ble_eq_true rfl) (by omega) (fun r9 M1 h9 => ?_)
            obtain ⟨rfl, hR1⟩ := h9
            have hA1 : BX (M1 168) n k sz ce := by rw [hR1.1 168 (by decide) (by decide)]; exact hA
            obtain ⟨p, hp1, hp8, hpm, hpb⟩ := hR1.last
            have hpb1 := hpb.1.2.2.2
            show WP sc0 40 m_X8_develop 81 [vR 167, vI ((sz 0 : Nat) : Int), vI ((n : Nat) : Int), vI ((k : Nat) : Int), vI ((dvm n : Nat) : Int), vU, vU] [] M1 (PM M (o_develop (mkS n k sz ce h hs im len tx) ))
            refine WP.aload_n dX8_develop_81 rfl ?_
            refine WP.getR (y := 168) dX8_develop_82 fl_X8_7 (rfl) (by decide) (rfl) ?_
            refine WP.iconst dX8_develop_85 ?_
            refine WP.iload_n dX8_develop_86 rfl ?_
            refine WP.iload_n dX8_develop_87 rfl ?_
            refine WP.imul dX8_develop_88 ?_
            refine WP.eqs (st' := [vI ((n * sz 0 : Nat) : Int), vI (0 : Int), vR 168]) rfl (lc (congrArg vI (by rw [Int.natCast_mul])) rfl) ?_
            refine WP.iastore (y := 0) dX8_develop_89 (rfl) (by omega) (by omega) rfl ?_
            obtain ⟨M2, hM2⟩ : ∃ z, z = (mset M1 168 0 ((n * sz 0 : Nat) : Int)) := ⟨_, rfl⟩
            refine WP.eqM hM2.symm ?_
            have hO2 : ∀ a, a ≠ 168 → M2 a = M1 a := fun a ha => by rw [hM2]; exact mset_o a ha
            refine WP.iload_n dX8_develop_90 rfl ?_
            refine WP.iload_n dX8_develop_91 rfl ?_
            refine WP.imul dX8_develop_92 ?_
            refine WP.eqs (st' := [vI ((n * sz 0 : Nat) : Int)]) rfl (lc (congrArg vI (by rw [Int.natCast_mul])) rfl) ?_
            refine WP.iconst dX8_develop_93 ?_
            refine WP.isub dX8_develop_94 ?_
            refine WP.istore (lt := [vR 167, vI ((sz 0 : Nat) : Int), vI ((n : Nat) : Int), vI ((k : Nat) : Int), vI ((dvm n : Nat) : Int), vI (((n * sz 0 : Nat) : Int) - (1 : Int)), vU]) dX8_develop_95 (by decide) rfl ?_
            have L97 : ∀ (n9 : Nat) (i : Nat) (M3 : Mem) (hi : i ≤ n * sz 0) (hF3 : ∀ a, a ≠ 168 → M3 a = M1 a) (h03 : M3 168 0 = ((n * sz 0 : Nat) : Int)) (hB3 : ∀ j, 0 < j → j < 9 → M3 168 j = M1 168 j) (hC3 : ∀ q, i ≤ q → q < n * sz 0 → (∀ b, b < k → M3 168 (9 + 7 * q + b) = (((ce (q / sz 0) b + q % sz 0) % sz 0 : Nat) : Int)) ∧ (dvm n = 1 → M3 168 (9 + 7 * q + k) = ((q / sz 0 : Nat) : Int))), i < n9 → WP sc0 40 m_X8_develop 97 [vR 167, vI ((sz 0 : Nat) : Int), vI ((n : Nat) : Int), vI ((k : Nat) : Int), vI ((dvm n : Nat) : Int), vI (((i : Nat) : Int) - 1), vU] [] M3 (PM M (o_develop (mkS n k sz ce h hs im len tx) )) := by
              intro n9
              induction n9 with
              | zero =>
                intro i M3 hi hF3 h03 hB3 hC3 hm9
                exact absurd hm9 (Nat.not_lt_zero _)
              | succ n9 ih97 =>
                intro i M3 hi hF3 h03 hB3 hC3 hm9
                refine WP.iload dX8_develop_97 rfl ?_
                refine WP.if_lt (tgt := 184) dX8_develop_99 (by decide) (by omega) (fun h99 => ?_) (fun h99 => ?_)
                · skip
                  refine WP.iload dX8_develop_184 rfl ?_
                  refine WP.iconst dX8_develop_186 ?_
                  refine WP.icmp_ne (tgt := 209) dX8_develop_187 (by decide) (by omega) (by omega) (fun h187 => ?_) (fun h187 => ?_)
                  · skip
                    have hm0 : dvm n = 0 := by omega
                    refine WP.aload_n dX8_develop_209 rfl ?_
                    refine WP.getR (y := 168) dX8_develop_210 fl_X8_7 (rfl) (by decide) (rfl) ?_
                    refine WP.iconst dX8_develop_213 ?_
                    refine WP.iaload (y := 0) (x := ((n * sz 0 : Nat) : Int)) dX8_develop_214 (rfl) (by omega) (by omega) (h03) ?_
                    refine WP.iret dX8_develop_215 rfl ?_
                    have hi0 : i = 0 := by omega
                    subst hi0
                    have hE : o_develop (mkS n k sz ce h hs im len tx) = (((n * sz 0 : Nat) : Int), chg (mkS n k sz ce h hs im len tx) (n * sz 0, k + dvm n, dvS sz k n, dvC ce k (sz 0))) := (cif_f hyes).trans (if_neg (show ¬ (36 < n * sz 0 ∨ 7 < k + dvm n) by omega))
                    have hBX : BX (M3 168) (n * sz 0) (k + dvm n) (dvS sz k n) (dvC ce k (sz 0)) := by
                      rw [hm0]
                      refine ⟨h03, by rw [hB3 1 (by omega) (by omega)]; exact hA1.2.1, fun b hb => ?_, fun r hr b hb => ?_⟩
                      · unfold dvS
                        rw [if_pos (by omega), hB3 _ (by omega) (by omega), ← hsch.2.1 b (by omega)]
                        exact hA1.2.2.1 b (by omega)
                      · unfold dvC
                        rw [if_pos (by omega)]
                        exact (hC3 r (Nat.zero_le _) hr).1 b (by omega)
                    exact PM.ch (A' := (n * sz 0, k + dvm n, dvS sz k n, dvC ce k (sz 0))) hE hV hR1 (hF3) hBX (Wf_dv hW hk0 (by omega) rfl (by omega))
                  · skip
                    have hm0 : dvm n = 1 := by omega
                    refine WP.aload_n dX8_develop_190 rfl ?_
                    refine WP.getR (y := 168) dX8_develop_191 fl_X8_7 (rfl) (by decide) (rfl) ?_
                    refine WP.iconst dX8_develop_194 ?_
                    refine WP.iload_n dX8_develop_195 rfl ?_
                    refine WP.iadd dX8_develop_196 ?_
                    refine WP.iload_n dX8_develop_197 rfl ?_
                    refine WP.iastore (y := (2 + k)) dX8_develop_198 (rfl) (by omega) (by omega) rfl ?_
                    obtain ⟨M7, hM7⟩ : ∃ z, z = (mset M3 168 ((2 + k)) ((n : Nat) : Int)) := ⟨_, rfl⟩
                    refine WP.eqM hM7.symm ?_
                    have hO7 : ∀ a, a ≠ 168 → M7 a = M3 a := fun a ha => by rw [hM7]; exact mset_o a ha
                    refine WP.aload_n dX8_develop_199 rfl ?_
                    refine WP.getR (y := 168) dX8_develop_200 fl_X8_7 (rfl) (by decide) (rfl) ?_
                    refine WP.iconst dX8_develop_203 ?_
                    refine WP.dup2 dX8_develop_204 rfl rfl ?_
                    refine WP.iaload (y := 1) (x := ((k : Nat) : Int)) dX8_develop_205 (rfl) (by omega) (by omega) (by rw [hM7, mset_n (Or.inr (by omega)), hB3 1 (by omega) (by omega)]; exact hA1.2.1) ?_
                    refine WP.iconst dX8_develop_206 ?_
                    refine WP.iadd dX8_develop_207 ?_
                    refine WP.iastore (y := 1) dX8_develop_208 (rfl) (by omega) (by omega) rfl ?_
                    obtain ⟨M8, hM8⟩ : ∃ z, z = (mset M7 168 1 (((k : Nat) : Int) + (1 : Int))) := ⟨_, rfl⟩
                    refine WP.eqM hM8.symm ?_
                    have hO8 : ∀ a, a ≠ 168 → M8 a = M7 a := fun a ha => by rw [hM8]; exact mset_o a ha
                    refine WP.aload_n dX8_develop_209 rfl ?_
                    refine WP.getR (y := 168) dX8_develop_210 fl_X8_7 (rfl) (by decide) (rfl) ?_
                    refine WP.iconst dX8_develop_213 ?_
                    refine WP.iaload (y := 0) (x := ((n * sz 0 : Nat) : Int)) dX8_develop_214 (rfl) (by omega) (by omega) (by rw [hM8, mset_n (Or.inr (by omega)), hM7, mset_n (Or.inr (by omega))]; exact h03) ?_
                    refine WP.iret dX8_develop_215 rfl ?_
                    have hi0 : i = 0 := by omega
                    subst hi0
                    have hE : o_develop (mkS n k sz ce h hs im len tx) = (((n * sz 0 : Nat) : Int), chg (mkS n k sz ce h hs im len tx) (n * sz 0, k + dvm n, dvS sz k n, dvC ce k (sz 0))) := (cif_f hyes).trans (if_neg (show ¬ (36 < n * sz 0 ∨ 7 < k + dvm n) by omega))
                    have hG8 : ∀ j, j ≠ 1 → j ≠ 2 + k → M8 168 j = M3 168 j := fun j i1 i2 => by rw [hM8, mset_n (Or.inr i1), hM7, mset_n (Or.inr i2)]
                    have hBX : BX (M8 168) (n * sz 0) (k + dvm n) (dvS sz k n) (dvC ce k (sz 0)) := by
                      rw [hm0]
                      refine ⟨by rw [hG8 _ (by omega) (by omega)]; exact h03, by rw [hM8, mset_s]; omega, fun b hb => ?_, fun r hr b hb => ?_⟩
                      · unfold dvS
                        by_cases e9 : b < k
                        · rw [if_pos e9, hG8 _ (by omega) (by omega), hB3 _ (by omega) (by omega), ← hsch.2.1 b e9]
                          exact hA1.2.2.1 b e9
                        · rw [if_neg e9, show b = k by omega, hM8, mset_n (Or.inr (by omega)), hM7, mset_s]
                      · rw [hG8 _ (by omega) (by omega)]
                        unfold dvC
                        by_cases e9 : b < k
                        · rw [if_pos e9]
                          exact (hC3 r (Nat.zero_le _) hr).1 b e9
                        · rw [if_neg e9, show b = k by omega]
                          exact (hC3 r (Nat.zero_le _) hr).2 hm0
                    exact PM.ch (A' := (n * sz 0, k + dvm n, dvS sz k n, dvC ce k (sz 0))) hE hV hR1 (fun a ha => by rw [hO8 a ha, hO7 a ha]; exact hF3 a ha) hBX (Wf_dv hW hk0 (by omega) rfl (by omega))
                · skip
                  obtain ⟨i9, hi9⟩ : ∃ z, i = z + 1 := ⟨i - 1, by omega⟩
                  subst hi9
                  have hd1 : i9 / sz 0 < n := Nat.div_lt_of_lt_mul (by rw [Nat.mul_comm]; omega)
                  have hm1 := Nat.mod_lt i9 (show 0 < sz 0 by omega)
                  refine WP.iconst dX8_develop_102 ?_
                  refine WP.istore (lt := [vR 167, vI ((sz 0 : Nat) : Int), vI ((n : Nat) : Int), vI ((k : Nat) : Int), vI ((dvm n : Nat) : Int), vI ((((i9 + 1) : Nat) : Int) - 1), vI (0 : Int)]) dX8_develop_103 (by decide) rfl ?_
                  have L105 : ∀ (n9 : Nat) (c : Nat) (M4 : Mem) (hc : c ≤ k) (hF4 : ∀ a, a ≠ 168 → M4 a = M1 a) (h04 : M4 168 0 = ((n * sz 0 : Nat) : Int)) (hB4 : ∀ j, 0 < j → j < 9 → M4 168 j = M1 168 j) (hY4 : ∀ q, i9 < q → q < n * sz 0 → (∀ b, b < k → M4 168 (9 + 7 * q + b) = (((ce (q / sz 0) b + q % sz 0) % sz 0 : Nat) : Int)) ∧ (dvm n = 1 → M4 168 (9 + 7 * q + k) = ((q / sz 0 : Nat) : Int))) (hZ4 : ∀ b, b < c → M4 168 (9 + 7 * i9 + b) = (((ce (i9 / sz 0) b + i9 % sz 0) % sz 0 : Nat) : Int)), k - c < n9 → WP sc0 40 m_X8_develop 105 [vR 167, vI ((sz 0 : Nat) : Int), vI ((n : Nat) : Int), vI ((k : Nat) : Int), vI ((dvm n : Nat) : Int), vI (((i9 + 1 : Nat) : Int) - 1), vI ((c : Nat) : Int)] [] M4 (PM M (o_develop (mkS n k sz ce h hs im len tx) )) := by
                    intro n9
                    induction n9 with
                    | zero =>
                      intro c M4 hc hF4 h04 hB4 hY4 hZ4 hm9
                      exact absurd hm9 (Nat.not_lt_zero _)
                    | succ n9 ih105 =>
                      intro c M4 hc hF4 h04 hB4 hY4 hZ4 hm9
                      refine WP.iload dX8_develop_105 rfl ?_
                      refine WP.iload_n dX8_develop_107 rfl ?_
                      refine WP.icmp_ge (tgt := 161) dX8_develop_108 (by decide) (by omega) (by omega) (fun h108 => ?_) (fun h108 => ?_)
                      · skip
                        refine WP.iload dX8_develop_161 rfl ?_
                        refine WP.iconst dX8_develop_163 ?_
                        refine WP.icmp_ne (tgt := 178) dX8_develop_164 (by decide) (by omega) (by omega) (fun h164 => ?_) (fun h164 => ?_)
                        · skip
                          have hm0 : dvm n ≠ 1 := by omega
                          have hX4 : ∀ q, i9 ≤ q → q < n * sz 0 → (∀ b, b < k → M4 168 (9 + 7 * q + b) = (((ce (q / sz 0) b + q % sz 0) % sz 0 : Nat) : Int)) ∧ (dvm n = 1 → M4 168 (9 + 7 * q + k) = ((q / sz 0 : Nat) : Int)) := fun q i1 i2 => by
                            by_cases e9 : q = i9
                            · rw [e9]
                              exact ⟨fun b hb => hZ4 b (by omega), fun z => absurd z hm0⟩
                            · exact hY4 q (by omega) i2
                          refine WP.iinc (lt := [vR 167, vI ((sz 0 : Nat) : Int), vI ((n : Nat) : Int), vI ((k : Nat) : Int), vI ((dvm n : Nat) : Int), vI ((((i9 + 1 : Nat) : Int) - 1) + (-1)), vI ((c : Nat) : Int)]) dX8_develop_178 rfl (by decide) rfl ?_
                          refine WP.goto (tgt := 97) dX8_develop_181 (by decide) ?_
                          refine WP.fgt (lt := [vR 167, vI ((sz 0 : Nat) : Int), vI ((n : Nat) : Int), vI ((k : Nat) : Int), vI ((dvm n : Nat) : Int), vI (((i9 : Nat) : Int) - 1), vU]) ⟨Or.inr rfl, Or.inr rfl, Or.inr rfl, Or.inr rfl, Or.inr rfl, Or.inr (congrArg vI (by omega)), Or.inl rfl, trivial⟩ ?_
                          exact ih97 (i9) (M4) (by omega) (hF4) (h04) (hB4) (hX4) (by omega)
                        · skip
                          refine WP.aload_n dX8_develop_167 rfl ?_
                          refine WP.iload dX8_develop_168 rfl ?_
                          refine WP.iload_n dX8_develop_170 rfl ?_
                          refine WP.iload dX8_develop_171 rfl ?_
                          refine WP.iload_n dX8_develop_173 rfl ?_
                          refine WP.idiv dX8_develop_174 (by omega) (by omega) ?_
                          refine WP.eqs (st' := [vI ((i9 / sz 0 : Nat) : Int), vI ((k : Nat) : Int), vI (((i9 + 1 : Nat) : Int) - 1), vR 167]) rfl (lc (congrArg vI (by rw [Int.natCast_ediv]; congr 1; omega)) rfl) ?_
                          refine WP.eqs (st' := [vI ((i9 / sz 0 : Nat) : Int), vI ((k : Nat) : Int), vI ((i9 : Nat) : Int), vR 167]) rfl (lc (rfl) (lc (rfl) (lc (congrArg vI (by omega)) (rfl)))) ?_
                          refine WP.callV (as := [vI ((i9 : Nat) : Int), vI ((k : Nat) : Int), vI ((i9 / sz 0 : Nat) : Int)]) dX8_develop_175 mv_X8_58 rfl (rfl) (by decide) rfl rfl (w_set (r := i9) (c := k) (by omega) (by omega)) rfl (Nat.le_of_ble_eq_true rfl) (by omega) (fun r9 M6 h9 => ?_)
                          obtain ⟨rfl, f6, g6, e6⟩ := h9
                          have hF6 : ∀ a, a ≠ 168 → M6 a = M1 a := fun a ha => (f6 a ha).trans (hF4 a ha)
                          have h06 : M6 168 0 = ((n * sz 0 : Nat) : Int) := by rw [e6 _ (by omega)]; exact h04
                          have hB6 : ∀ j, 0 < j → j < 9 → M6 168 j = M1 168 j := fun j i1 i2 => by rw [e6 _ (by omega)]; exact hB4 j i1 i2
                          have hX6 : ∀ q, i9 ≤ q → q < n * sz 0 → (∀ b, b < k → M6 168 (9 + 7 * q + b) = (((ce (q / sz 0) b + q % sz 0) % sz 0 : Nat) : Int)) ∧ (dvm n = 1 → M6 168 (9 + 7 * q + k) = ((q / sz 0 : Nat) : Int)) := fun q i1 i2 => by
                            by_cases e9 : q = i9
                            · rw [e9]
                              exact ⟨fun b hb => by rw [e6 _ (by omega)]; exact hZ4 b (by omega), fun _ => g6⟩
                            · exact ⟨fun b hb => by rw [e6 _ (by omega)]; exact (hY4 q (by omega) i2).1 b hb, fun z => by rw [e6 _ (by omega)]; exact (hY4 q (by omega) i2).2 z⟩
                          show WP sc0 40 m_X8_develop 178 [vR 167, vI ((sz 0 : Nat) : Int), vI ((n : Nat) : Int), vI ((k : Nat) : Int), vI ((dvm n : Nat) : Int), vI (((i9 + 1 : Nat) : Int) - 1), vI ((c : Nat) : Int)] [] M6 (PM M (o_develop (mkS n k sz ce h hs im len tx) ))
                          refine WP.iinc (lt := [vR 167, vI ((sz 0 : Nat) : Int), vI ((n : Nat) : Int), vI ((k : Nat) : Int), vI ((dvm n : Nat) : Int), vI ((((i9 + 1 : Nat) : Int) - 1) + (-1)), vI ((c : Nat) : Int)]) dX8_develop_178 rfl (by decide) rfl ?_
                          refine WP.goto (tgt := 97) dX8_develop_181 (by decide) ?_
                          refine WP.fgt (lt := [vR 167, vI ((sz 0 : Nat) : Int), vI ((n : Nat) : Int), vI ((k : Nat) : Int), vI ((dvm n : Nat) : Int), vI (((i9 : Nat) : Int) - 1), vU]) ⟨Or.inr rfl, Or.inr rfl, Or.inr rfl, Or.inr rfl, Or.inr rfl, Or.inr (congrArg vI (by omega)), Or.inl rfl, trivial⟩ ?_
                          exact ih97 (i9) (M6) (by omega) (hF6) (h06) (hB6) (hX6) (by omega)
                      · skip
                        refine WP.aload_n dX8_develop_111 rfl ?_
                        refine WP.iload dX8_develop_112 rfl ?_
                        refine WP.iload dX8_develop_114 rfl ?_
                        refine WP.aload_n dX8_develop_116 rfl ?_
                        refine WP.getR (y := 169) dX8_develop_117 fl_X8_13 (rfl) (by decide) (rfl) ?_
                        refine WP.sipush dX8_develop_120 (by decide) ?_
                        refine WP.aload_n dX8_develop_123 rfl ?_
                        refine WP.getI (x := ((p : Nat) : Int)) dX8_develop_124 fl_X8_47 (rfl) (by decide) (by rw [hF4 167 (by decide)]; exact hpm) ?_
                        refine WP.iconst dX8_develop_127 ?_
                        refine WP.isub dX8_develop_128 ?_
                        refine WP.imul dX8_develop_129 ?_
                        refine WP.bipush dX8_develop_130 (by decide) ?_
                        refine WP.iadd dX8_develop_132 ?_
                        refine WP.bipush dX8_develop_133 (by decide) ?_
                        refine WP.iload dX8_develop_135 rfl ?_
                        refine WP.iload_n dX8_develop_137 rfl ?_
                        refine WP.idiv dX8_develop_138 (by omega) (by omega) ?_
                        refine WP.eqs (st' := [vI ((i9 / sz 0 : Nat) : Int), vI (7 : Int), vI (((261 : Int) * (((p : Nat) : Int) - (1 : Int))) + (9 : Int)), vR 169, vI ((c : Nat) : Int), vI (((i9 + 1 : Nat) : Int) - 1), vR 167]) rfl (lc (congrArg vI (by rw [Int.natCast_ediv]; congr 1; omega)) rfl) ?_
                        refine WP.imul dX8_develop_139 ?_
                        refine WP.iadd dX8_develop_140 ?_
                        refine WP.iload dX8_develop_141 rfl ?_
                        refine WP.iadd dX8_develop_143 ?_
                        have vc := hW.2.2.2 (i9 / sz 0) hd1 c (by omega)
                        have wc := hW.2.2.1 c (by omega)
                        refine WP.iaload (y := (261 * (p - 1) + (9 + 7 * (i9 / sz 0) + c))) (x := ((ce (i9 / sz 0) c : Nat) : Int)) dX8_develop_144 (rfl) (by omega) (by omega) (by rw [hF4 169 (by decide)]; exact hpb1 (i9 / sz 0) hd1 c (show c < k by omega)) ?_
                        refine WP.iload dX8_develop_145 rfl ?_
                        refine WP.iload_n dX8_develop_147 rfl ?_
                        refine WP.irem dX8_develop_148 (by omega) (by omega) ?_
                        refine WP.eqs (st' := [vI ((i9 % sz 0 : Nat) : Int), vI ((ce (i9 / sz 0) c : Nat) : Int), vI ((c : Nat) : Int), vI (((i9 + 1 : Nat) : Int) - 1), vR 167]) rfl (lc (congrArg vI (by rw [Int.natCast_emod]; congr 1; omega)) rfl) ?_
                        refine WP.iadd dX8_develop_149 ?_
                        refine WP.iload_n dX8_develop_150 rfl ?_
                        refine WP.irem dX8_develop_151 (by omega) (by omega) ?_
                        refine WP.eqs (st' := [vI (((ce (i9 / sz 0) c + i9 % sz 0) % sz 0 : Nat) : Int), vI ((c : Nat) : Int), vI (((i9 + 1 : Nat) : Int) - 1), vR 167]) rfl (lc (congrArg vI (by rw [← Int.natCast_add, ← Int.natCast_emod])) rfl) ?_
                        refine WP.eqs (st' := [vI (((ce (i9 / sz 0) c + i9 % sz 0) % sz 0 : Nat) : Int), vI ((c : Nat) : Int), vI ((i9 : Nat) : Int), vR 167]) rfl (lc (rfl) (lc (rfl) (lc (congrArg vI (by omega)) (rfl)))) ?_
                        refine WP.callV (as := [vI ((i9 : Nat) : Int), vI ((c : Nat) : Int), vI (((ce (i9 / sz 0) c + i9 % sz 0) % sz 0 : Nat) : Int)]) dX8_develop_152 mv_X8_58 rfl (rfl) (by decide) rfl rfl (w_set (r := i9) (c := c) (by omega) (by omega)) rfl (Nat.le_of_ble_eq_true rfl) (by omega) (fun r9 M5 h9 => ?_)
                        obtain ⟨rfl, f5, g5, e5⟩ := h9
                        show WP sc0 40 m_X8_develop 155 [vR 167, vI ((sz 0 : Nat) : Int), vI ((n : Nat) : Int), vI ((k : Nat) : Int), vI ((dvm n : Nat) : Int), vI (((i9 + 1 : Nat) : Int) - 1), vI ((c : Nat) : Int)] [] M5 (PM M (o_develop (mkS n k sz ce h hs im len tx) ))
                        refine WP.iinc (lt := [vR 167, vI ((sz 0 : Nat) : Int), vI ((n : Nat) : Int), vI ((k : Nat) : Int), vI ((dvm n : Nat) : Int), vI (((i9 + 1 : Nat) : Int) - 1), vI (((c : Nat) : Int) + 1)]) dX8_develop_155 rfl (by decide) rfl ?_
                        refine WP.goto (tgt := 105) dX8_develop_158 (by decide) ?_
                        refine WP.fgt (lt := [vR 167, vI ((sz 0 : Nat) : Int), vI ((n : Nat) : Int), vI ((k : Nat) : Int), vI ((dvm n : Nat) : Int), vI (((i9 + 1 : Nat) : Int) - 1), vI (((c + 1) : Nat) : Int)]) ⟨Or.inr rfl, Or.inr rfl, Or.inr rfl, Or.inr rfl, Or.inr rfl, Or.inr rfl, Or.inr (congrArg vI (by omega)), trivial⟩ ?_
                        exact ih105 (c + 1) (M5) (by omega) (fun a ha => (f5 a ha).trans (hF4 a ha)) (by rw [e5 _ (by omega)]; exact h04) (fun j i1 i2 => by rw [e5 _ (by omega)]; exact hB4 j i1 i2) (fun q i1 i2 => ⟨fun b hb => by rw [e5 _ (by omega)]; exact (hY4 q i1 i2).1 b hb, fun z => by rw [e5 _ (by omega)]; exact (hY4 q i1 i2).2 z⟩) (fun b hb => by
                          by_cases e9 : b = c
                          · rw [e9]; exact g5
                          · rw [e5 _ (by omega)]; exact hZ4 b (by omega)) (by omega)
                  refine WP.fgt (lt := [vR 167, vI ((sz 0 : Nat) : Int), vI ((n : Nat) : Int), vI ((k : Nat) : Int), vI ((dvm n : Nat) : Int), vI (((i9 + 1 : Nat) : Int) - 1), vI ((0 : Nat) : Int)]) ⟨Or.inr rfl, Or.inr rfl, Or.inr rfl, Or.inr rfl, Or.inr rfl, Or.inr (congrArg vI (rfl)), Or.inr (congrArg vI (by omega)), trivial⟩ ?_
                  exact L105 _ (0) (M3) (Nat.zero_le _) (hF3) (h03) (hB3) (fun q i1 i2 => hC3 q (by omega) i2) (fun b hb => absurd hb (Nat.not_lt_zero b)) (Nat.lt_succ_self _)
            refine WP.fgt (lt := [vR 167, vI ((sz 0 : Nat) : Int), vI ((n : Nat) : Int), vI ((k : Nat) : Int), vI ((dvm n : Nat) : Int), vI ((((n * sz 0) : Nat) : Int) - 1), vU]) ⟨Or.inr rfl, Or.inr rfl, Or.inr rfl, Or.inr rfl, Or.inr rfl, Or.inr (congrArg vI (by omega)), Or.inl rfl, trivial⟩ ?_
            exact L97 _ (n * sz 0) (M2) (Nat.le_refl _) (hO2) (by rw [hM2, mset_s]) (fun j i1 _ => by rw [hM2, mset_n (Or.inr (by omega))]) (fun q i1 i2 => absurd i2 (by omega)) (Nat.lt_succ_self _)
          · skip
            refine WP.bipush dX8_develop_74 (by decide) ?_
            refine WP.iret dX8_develop_76 rfl ?_
            exact PM.same ((cif_f hyes).trans (if_pos (show 36 < n * sz 0 ∨ 7 < k + dvm n by omega))) hV
    · skip
      have hno : n = 0 ∨ ¬ sch n k sz ce := Or.inr (bi_0 h13)
      refine WP.bipush dX8_develop_16 (by decide) ?_
      refine WP.iret dX8_develop_18 rfl ?_
      exact PM.same (cif_t hno) hV
set_option maxHeartbeats 4000000 in
set_option maxRecDepth 20000 in
theorem y_factorial {M : Mem} {n k h len : Nat} {sz tx : Nat → Nat} {ce : Nat → Nat → Nat} {hs : Nat → AR} {im : Nat → Option AR} (hV : InvM M (mkS n k sz ce h hs im len tx)) {x : Int} (hx : -2147483648 ≤ x ∧ x < 2147483648) : CT 40 m_X8_factorial [vR 167, vI x] M (PM M (o_factorial (mkS n k sz ce h hs im len tx) x)) := by
  have hA : BX (M 168) n k sz ce := hV.1.1
  have hW : Wf n k sz ce := hV.1.2
  have hH : HM M h hs := hV.2.1
  have hIM : IMm M im := hV.2.2.1
  have hS : SM M len tx := hV.2.2.2
  have b1 := hW.1
  have b2 := hW.2.1
  have hh8 := hH.1
  have hl3 := hS.1
  refine CT.ofWP (by decide +kernel) (Nat.le_of_ble_eq_true rfl) ?_
  show WP sc0 40 m_X8_factorial 0 [vR 167, vI x, vU, vU, vU, vU, vU, vU] [] M (PM M (o_factorial (mkS n k sz ce h hs im len tx) x))
  refine WP.iconst dX8_factorial_0 ?_
  refine WP.istore_n (lt := [vR 167, vI x, vI (0 : Int), vU, vU, vU, vU, vU]) dX8_factorial_1 (by decide) rfl ?_
  refine WP.iconst dX8_factorial_2 ?_
  refine WP.istore_n (lt := [vR 167, vI x, vI (0 : Int), vI (1 : Int), vU, vU, vU, vU]) dX8_factorial_3 (by decide) rfl ?_
  refine WP.iload_n dX8_factorial_4 rfl ?_
  refine WP.istore (lt := [vR 167, vI x, vI (0 : Int), vI (1 : Int), vI x, vU, vU, vU]) dX8_factorial_5 (by decide) rfl ?_
  have L7 : ∀ (n9 : Nat) (i Rw : Nat) (y : Int) (hi : i ≤ nd x.toNat) (hy : (0 ≤ x ∧ y = ((x.toNat / 10 ^ i : Nat) : Int)) ∨ (x < 0 ∧ y = x ∧ i = 0)) (hR : (Rw ≤ 36 ∧ Rw = pwd x.toNat i) ∨ (36 < Rw ∧ 36 < pwd x.toNat i ∧ Rw ≤ 216)) (hdg : ∀ j, j < i → 2 ≤ dg x.toNat j ∧ dg x.toNat j ≤ 6), nd x.toNat + 1 - i < n9 → WP sc0 40 m_X8_factorial 7 [vR 167, vI x, vI ((i : Nat) : Int), vI ((Rw : Nat) : Int), vI y, vU, vU, vU] [] M (PM M (o_factorial (mkS n k sz ce h hs im len tx) x)) := by
    intro n9
    induction n9 with
    | zero =>
      intro i Rw y hi hy hR hdg hm9
      exact absurd hm9 (Nat.not_lt_zero _)
    | succ n9 ih7 =>
      intro i Rw y hi hy hR hdg hm9
      have hnn : (0 : Int) ≤ ((x.toNat / 10 ^ i : Nat) : Int) := Int.natCast_nonneg _
      have hLx : x.toNat < 2147483648 := by omega
      have hle := dv_le x.toNat i
      have h0 := dv_0 (L := x.toNat) (i := i) hLx
      have hs9 := dv_s x.toNat i
      have ht10 : (10 : Nat) ^ 10 = 10000000000 := by decide
      have hn10 : nd x.toNat ≤ 10 := (nd_le hLx).mpr (by omega)
      refine WP.iload dX8_factorial_7 rfl ?_
      refine WP.if_le (tgt := 56) dX8_factorial_9 (by decide) (by omega) (fun h9 => ?_) (fun h9 => ?_)
      · skip
        have hie : (0 ≤ x ∧ i = nd x.toNat) ∨ (x < 0 ∧ i = 0) := by
          rcases hy with z | z
          · exact Or.inl ⟨z.1, by have := h0.mp (by omega); omega⟩
          · exact Or.inr ⟨z.1, z.2.2⟩
        refine WP.iload_n dX8_factorial_56 rfl ?_
        refine WP.if_eq (tgt := 66) dX8_factorial_57 (by decide) (by omega) (fun h57 => ?_) (fun h57 => ?_)
        · skip
          have hno : ¬ (0 ≤ x ∧ faOK x.toNat) := fun z => by have := z.2.1; omega
          refine WP.iconst dX8_factorial_66 ?_
          refine WP.iret dX8_factorial_67 rfl ?_
          exact PM.same (cif_f hno) hV
        · skip
          have hie2 : 0 ≤ x ∧ i = nd x.toNat := hie.resolve_right (fun z => by omega)
          refine WP.iload_n dX8_factorial_60 rfl ?_
          refine WP.bipush dX8_factorial_61 (by decide) ?_
          refine WP.icmp_le (tgt := 68) dX8_factorial_63 (by decide) (by omega) (by omega) (fun h63 => ?_) (fun h63 => ?_)
          · skip
            have hok : 0 ≤ x ∧ faOK x.toNat := ⟨hie2.1, by omega, by omega, fun j hj => hdg j (by omega)⟩
            have hnd := hie2.2
            refine WP.iload_n dX8_factorial_68 rfl ?_
            refine WP.bipush dX8_factorial_69 (by decide) ?_
            refine WP.icmp_le (tgt := 77) dX8_factorial_71 (by decide) (by omega) (by omega) (fun h71 => ?_) (fun h71 => ?_)
            · skip
              have hRe : Rw = pwd x.toNat i ∧ Rw ≤ 36 := by rcases hR with z | z <;> omega
              obtain ⟨L, hL⟩ : ∃ L, x.toNat = L := ⟨_, rfl⟩
              rw [hL] at hRe hdg hnd hok
              have hxL : x = ((L : Nat) : Int) := by omega
              have hLb : L < 2147483648 := by omega
              refine WP.fgt (lt := [vR 167, vI ((L : Nat) : Int), vI ((i : Nat) : Int), vI ((Rw : Nat) : Int), vI y, vU, vU, vU]) ⟨Or.inr rfl, Or.inr (congrArg vI (hxL.symm)), Or.inr rfl, Or.inr rfl, Or.inr rfl, Or.inl rfl, Or.inl rfl, Or.inl rfl, trivial⟩ ?_
              refine WP.aload_n dX8_factorial_77 rfl ?_
              refine WP.callV (as := []) dX8_factorial_78 mv_X8_51 rfl (rfl) (by decide) rfl rfl (w_remember (A := (n, k, sz, ce)) hH hV.1) rfl (Nat.le_of_ble_eq_true rfl) (by omega) (fun r9 M1 h9 => ?_)
              obtain ⟨rfl, hR1⟩ := h9
              have hA1 : BX (M1 168) n k sz ce := by rw [hR1.1 168 (by decide) (by decide)]; exact hA
              show WP sc0 40 m_X8_factorial 81 [vR 167, vI ((L : Nat) : Int), vI ((i : Nat) : Int), vI ((Rw : Nat) : Int), vI y, vU, vU, vU] [] M1 (PM M (o_factorial (mkS n k sz ce h hs im len tx) x))
              refine WP.aload_n dX8_factorial_81 rfl ?_
              refine WP.getR (y := 168) dX8_factorial_82 fl_X8_7 (rfl) (by decide) (rfl) ?_
              refine WP.iconst dX8_factorial_85 ?_
              refine WP.iload_n dX8_factorial_86 rfl ?_
              refine WP.iastore (y := 0) dX8_factorial_87 (rfl) (by omega) (by omega) rfl ?_
              obtain ⟨M2, hM2⟩ : ∃ z, z = (mset M1 168 0 ((Rw : Nat) : Int)) := ⟨_, rfl⟩
              refine WP.eqM hM2.symm ?_
              have hO2 : ∀ a, a ≠ 168 → M2 a = M1 a := fun a ha => by rw [hM2]; exact mset_o a ha
              refine WP.aload_n dX8_factorial_88 rfl ?_
              refine WP.getR (y := 168) dX8_factorial_89 fl_X8_7 (rfl) (by decide) (rfl) ?_
              refine WP.iconst dX8_factorial_92 ?_
              refine WP.iload_n dX8_factorial_93 rfl ?_
              refine WP.iastore (y := 1) dX8_factorial_94 (rfl) (by omega) (by omega) rfl ?_
              obtain ⟨M3, hM3⟩ : ∃ z, z = (mset M2 168 1 ((i : Nat) : Int)) := ⟨_, rfl⟩
              refine WP.eqM hM3.symm ?_
              have hO3 : ∀ a, a ≠ 168 → M3 a = M2 a := fun a ha => by rw [hM3]; exact mset_o a ha
              refine WP.iload_n dX8_factorial_95 rfl ?_
              refine WP.istore (lt := [vR 167, vI ((L : Nat) : Int), vI ((i : Nat) : Int), vI ((Rw : Nat) : Int), vI ((L : Nat) : Int), vU, vU, vU]) dX8_factorial_96 (by decide) rfl ?_
              refine WP.iconst dX8_factorial_98 ?_
              refine WP.istore (lt := [vR 167, vI ((L : Nat) : Int), vI ((i : Nat) : Int), vI ((Rw : Nat) : Int), vI ((L : Nat) : Int), vI (1 : Int), vU, vU]) dX8_factorial_99 (by decide) rfl ?_
              refine WP.iload_n dX8_factorial_101 rfl ?_
              refine WP.iconst dX8_factorial_102 ?_
              refine WP.isub dX8_factorial_103 ?_
              refine WP.istore (lt := [vR 167, vI ((L : Nat) : Int), vI ((i : Nat) : Int), vI ((Rw : Nat) : Int), vI ((L : Nat) : Int), vI (1 : Int), vI (((i : Nat) : Int) - (1 : Int)), vU]) dX8_factorial_104 (by decide) rfl ?_
              have L106 : ∀ (n9 : Nat) (j : Nat) (M4 : Mem) (hj : j ≤ i) (hF4 : ∀ a, a ≠ 168 → M4 a = M1 a) (h04 : M4 168 0 = (Rw : Int)) (h14 : M4 168 1 = (i : Int)) (hC4 : ∀ b, i - j ≤ b → b < i → M4 168 (2 + b) = ((faS L i b : Nat) : Int) ∧ ∀ r, r < Rw → M4 168 (9 + 7 * r + b) = ((faC L i r b : Nat) : Int)), i - j < n9 → WP sc0 40 m_X8_factorial 106 [vR 167, vI ((L : Nat) : Int), vI ((i : Nat) : Int), vI ((Rw : Nat) : Int), vI ((L / 10 ^ j : Nat) : Int), vI ((pwd L j : Nat) : Int), vI (((i - j : Nat) : Int) - 1), vU] [] M4 (PM M (o_factorial (mkS n k sz ce h hs im len tx) x)) := by
                intro n9
                induction n9 with
                | zero =>
                  intro j M4 hj hF4 h04 h14 hC4 hm9
                  exact absurd hm9 (Nat.not_lt_zero _)
                | succ n9 ih106 =>
                  intro j M4 hj hF4 h04 h14 hC4 hm9
                  have hnn : (0 : Int) ≤ ((L / 10 ^ j : Nat) : Int) := Int.natCast_nonneg _
                  have hpj := pwd_pos hdg j hj
                  have h66 : 6 ^ j ≤ 6 ^ 7 := Nat.pow_le_pow_right (by decide) (by omega)
                  have h67 : 6 ^ 7 = 279936 := by decide
                  have hlj := dv_le L j
                  have hsj := dv_s L j
                  have hdj := dg_lt L j
                  refine WP.iload dX8_factorial_106 rfl ?_
                  refine WP.if_lt (tgt := 182) dX8_factorial_108 (by decide) (by omega) (fun h108 => ?_) (fun h108 => ?_)
                  · skip
                    refine WP.iload_n dX8_factorial_182 rfl ?_
                    refine WP.iret dX8_factorial_183 rfl ?_
                    have hji : j = i := by omega
                    have hE : o_factorial (mkS n k sz ce h hs im len tx) x = (((Rw : Nat) : Int), chg (mkS n k sz ce h hs im len tx) (Rw, i, faS L i, faC L i)) := by
                      rw [hRe.1, hnd]
                      subst hL
                      rw [hnd] at hRe
                      exact (cif_t hok).trans (if_neg (by omega))
                    exact PM.ch (A' := (Rw, i, faS L i, faC L i)) hE hV hR1 hF4 ⟨h04, h14, fun b hb => (hC4 b (by omega) hb).1, fun r hr b hb => (hC4 b (by omega) hb).2 r hr⟩ (by rw [hRe.1]; exact Wf_fa (by omega) hdg (by omega))
                  · skip
                    have hji : j < i := by omega
                    have qd := hdg j hji
                    have hfS : faS L i (i - j - 1) = dg L j := by unfold faS; rw [show i - 1 - (i - j - 1) = j by omega]
                    have hfC : ∀ r, faC L i r (i - j - 1) = r / pwd L j % dg L j := fun r => by unfold faC; rw [show i - 1 - (i - j - 1) = j by omega]
                    refine WP.aload_n dX8_factorial_111 rfl ?_
                    refine WP.getR (y := 168) dX8_factorial_112 fl_X8_7 (rfl) (by decide) (rfl) ?_
                    refine WP.iconst dX8_factorial_115 ?_
                    refine WP.iload dX8_factorial_116 rfl ?_
                    refine WP.iadd dX8_factorial_118 ?_
                    refine WP.iload dX8_factorial_119 rfl ?_
                    refine WP.bipush dX8_factorial_121 (by decide) ?_
                    refine WP.irem dX8_factorial_123 (by omega) (by omega) ?_
                    refine WP.eqs (st' := [vI ((dg L j : Nat) : Int), vI ((2 : Int) + (((i - j : Nat) : Int) - 1)), vR 168]) rfl (lc (congrArg vI (by rw [dg, Int.natCast_emod]; rfl)) rfl) ?_
                    refine WP.iastore (y := (2 + (i - j - 1))) dX8_factorial_124 (rfl) (by omega) (by omega) rfl ?_
                    obtain ⟨M5, hM5⟩ : ∃ z, z = (mset M4 168 ((2 + (i - j - 1))) ((dg L j : Nat) : Int)) := ⟨_, rfl⟩
                    refine WP.eqM hM5.symm ?_
                    have hO5 : ∀ a, a ≠ 168 → M5 a = M4 a := fun a ha => by rw [hM5]; exact mset_o a ha
                    refine WP.iconst dX8_factorial_125 ?_
                    refine WP.istore (lt := [vR 167, vI ((L : Nat) : Int), vI ((i : Nat) : Int), vI ((Rw : Nat) : Int), vI ((L / 10 ^ j : Nat) : Int), vI ((pwd L j : Nat) : Int), vI (((i - j : Nat) : Int) - 1), vI (0 : Int)]) dX8_factorial_126 (by decide) rfl ?_
                    have L128 : ∀ (n9 : Nat) (r : Nat) (M6 : Mem) (hr : r ≤ Rw) (hF6 : ∀ a, a ≠ 168 → M6 a = M1 a) (h06 : M6 168 0 = (Rw : Int)) (h16 : M6 168 1 = (i : Int)) (hX6 : ∀ b, i - j ≤ b → b < i → M6 168 (2 + b) = ((faS L i b : Nat) : Int) ∧ ∀ r, r < Rw → M6 168 (9 + 7 * r + b) = ((faC L i r b : Nat) : Int)) (hS6 : M6 168 (2 + (i - j - 1)) = ((faS L i (i - j - 1) : Nat) : Int)) (hY6 : ∀ q, q < r → M6 168 (9 + 7 * q + (i - j - 1)) = ((faC L i q (i - j - 1) : Nat) : Int)), Rw - r < n9 → WP sc0 40 m_X8_factorial 128 [vR 167, vI ((L : Nat) : Int), vI ((i : Nat) : Int), vI ((Rw : Nat) : Int), vI ((L / 10 ^ j : Nat) : Int), vI ((pwd L j : Nat) : Int), vI (((i - j : Nat) : Int) - 1), vI ((r : Nat) : Int)] [] M6 (PM M (o_factorial (mkS n k sz ce h hs im len tx) x)) := by
                      intro n9
                      induction n9 with
                      | zero =>
                        intro r M6 hr hF6 h06 h16 hX6 hS6 hY6 hm9
                        exact absurd hm9 (Nat.not_lt_zero _)
                      | succ n9 ih128 =>
                        intro r M6 hr hF6 h06 h16 hX6 hS6 hY6 hm9
                        refine WP.iload dX8_factorial_128 rfl ?_
                        refine WP.iload_n dX8_factorial_130 rfl ?_
                        refine WP.icmp_ge (tgt := 159) dX8_factorial_131 (by decide) (by omega) (by omega) (fun h131 => ?_) (fun h131 => ?_)
                        · skip
                          refine WP.iload dX8_factorial_159 rfl ?_
                          refine WP.iload dX8_factorial_161 rfl ?_
                          refine WP.bipush dX8_factorial_163 (by decide) ?_
                          refine WP.irem dX8_factorial_165 (by omega) (by omega) ?_
                          refine WP.eqs (st' := [vI ((dg L j : Nat) : Int), vI ((pwd L j : Nat) : Int)]) rfl (lc (congrArg vI (by rw [dg, Int.natCast_emod]; rfl)) rfl) ?_
                          refine WP.imul dX8_factorial_166 ?_
                          refine WP.istore (lt := [vR 167, vI ((L : Nat) : Int), vI ((i : Nat) : Int), vI ((Rw : Nat) : Int), vI ((L / 10 ^ j : Nat) : Int), vI (((pwd L j : Nat) : Int) * ((dg L j : Nat) : Int)), vI (((i - j : Nat) : Int) - 1), vI ((r : Nat) : Int)]) dX8_factorial_167 (by decide) rfl ?_
                          refine WP.iload dX8_factorial_169 rfl ?_
                          refine WP.bipush dX8_factorial_171 (by decide) ?_
                          refine WP.idiv dX8_factorial_173 (by omega) (by omega) ?_
                          refine WP.istore (lt := [vR 167, vI ((L : Nat) : Int), vI ((i : Nat) : Int), vI ((Rw : Nat) : Int), vI (((L / 10 ^ j : Nat) : Int) / (10 : Int)), vI (((pwd L j : Nat) : Int) * ((dg L j : Nat) : Int)), vI (((i - j : Nat) : Int) - 1), vI ((r : Nat) : Int)]) dX8_factorial_174 (by decide) rfl ?_
                          refine WP.iinc (lt := [vR 167, vI ((L : Nat) : Int), vI ((i : Nat) : Int), vI ((Rw : Nat) : Int), vI (((L / 10 ^ j : Nat) : Int) / (10 : Int)), vI (((pwd L j : Nat) : Int) * ((dg L j : Nat) : Int)), vI ((((i - j : Nat) : Int) - 1) + (-1)), vI ((r : Nat) : Int)]) dX8_factorial_176 rfl (by decide) rfl ?_
                          refine WP.goto (tgt := 106) dX8_factorial_179 (by decide) ?_
                          refine WP.fgt (lt := [vR 167, vI ((L : Nat) : Int), vI ((i : Nat) : Int), vI ((Rw : Nat) : Int), vI ((L / 10 ^ (j + 1) : Nat) : Int), vI ((pwd L (j + 1) : Nat) : Int), vI (((i - (j + 1) : Nat) : Int) - 1), vU]) ⟨Or.inr rfl, Or.inr rfl, Or.inr rfl, Or.inr rfl, Or.inr (congrArg vI (by rw [← hsj, Int.natCast_ediv]; rfl)), Or.inr (congrArg vI (by rw [pwd_s, Int.natCast_mul])), Or.inr (congrArg vI (by omega)), Or.inl rfl, trivial⟩ ?_
                          exact ih106 (j + 1) (M6) (by omega) (hF6) (h06) (h16) (fun b i1 i2 => by
                            by_cases e9 : b = i - j - 1
                            · rw [e9]; exact ⟨hS6, fun r9 hr9 => hY6 r9 (by omega)⟩
                            · exact hX6 b (by omega) i2) (by omega)
                        · skip
                          refine WP.aload_n dX8_factorial_134 rfl ?_
                          refine WP.iload dX8_factorial_135 rfl ?_
                          refine WP.iload dX8_factorial_137 rfl ?_
                          refine WP.iload dX8_factorial_139 rfl ?_
                          refine WP.iload dX8_factorial_141 rfl ?_
                          refine WP.idiv dX8_factorial_143 (by omega) (by omega) ?_
                          refine WP.eqs (st' := [vI ((r / pwd L j : Nat) : Int), vI (((i - j : Nat) : Int) - 1), vI ((r : Nat) : Int), vR 167]) rfl (lc (congrArg vI (by rw [Int.natCast_ediv])) rfl) ?_
                          have hrd := Nat.div_le_self r (pwd L j)
                          have hrn9 : (0 : Int) ≤ ((r / pwd L j : Nat) : Int) := Int.natCast_nonneg _
                          refine WP.iload dX8_factorial_144 rfl ?_
                          refine WP.bipush dX8_factorial_146 (by decide) ?_
                          refine WP.irem dX8_factorial_148 (by omega) (by omega) ?_
                          refine WP.eqs (st' := [vI ((dg L j : Nat) : Int), vI ((r / pwd L j : Nat) : Int), vI (((i - j : Nat) : Int) - 1), vI ((r : Nat) : Int), vR 167]) rfl (lc (congrArg vI (by rw [dg, Int.natCast_emod]; rfl)) rfl) ?_
                          refine WP.irem dX8_factorial_149 (by omega) (by omega) ?_
                          refine WP.eqs (st' := [vI ((r / pwd L j % dg L j : Nat) : Int), vI (((i - j : Nat) : Int) - 1), vI ((r : Nat) : Int), vR 167]) rfl (lc (congrArg vI (by rw [Int.natCast_emod])) rfl) ?_
                          refine WP.eqs (st' := [vI ((r / pwd L j % dg L j : Nat) : Int), vI ((i - j - 1 : Nat) : Int), vI ((r : Nat) : Int), vR 167]) rfl (lc (rfl) (lc (congrArg vI (by omega)) (lc (rfl) (rfl)))) ?_
                          refine WP.callV (as := [vI ((r : Nat) : Int), vI ((i - j - 1 : Nat) : Int), vI ((r / pwd L j % dg L j : Nat) : Int)]) dX8_factorial_150 mv_X8_58 rfl (rfl) (by decide) rfl rfl (w_set (r := r) (c := i - j - 1) (by omega) (by omega)) rfl (Nat.le_of_ble_eq_true rfl) (by omega) (fun r9 M7 h9 => ?_)
                          obtain ⟨rfl, f7, g7, e7⟩ := h9
                          show WP sc0 40 m_X8_factorial 153 [vR 167, vI ((L : Nat) : Int), vI ((i : Nat) : Int), vI ((Rw : Nat) : Int), vI ((L / 10 ^ j : Nat) : Int), vI ((pwd L j : Nat) : Int), vI (((i - j : Nat) : Int) - 1), vI ((r : Nat) : Int)] [] M7 (PM M (o_factorial (mkS n k sz ce h hs im len tx) x))
                          refine WP.iinc (lt := [vR 167, vI ((L : Nat) : Int), vI ((i : Nat) : Int), vI ((Rw : Nat) : Int), vI ((L / 10 ^ j : Nat) : Int), vI ((pwd L j : Nat) : Int), vI (((i - j : Nat) : Int) - 1), vI (((r : Nat) : Int) + 1)]) dX8_factorial_153 rfl (by decide) rfl ?_
                          refine WP.goto (tgt := 128) dX8_factorial_156 (by decide) ?_
                          refine WP.fgt (lt := [vR 167, vI ((L : Nat) : Int), vI ((i : Nat) : Int), vI ((Rw : Nat) : Int), vI ((L / 10 ^ j : Nat) : Int), vI ((pwd L j : Nat) : Int), vI (((i - j : Nat) : Int) - 1), vI (((r + 1) : Nat) : Int)]) ⟨Or.inr rfl, Or.inr rfl, Or.inr rfl, Or.inr rfl, Or.inr rfl, Or.inr rfl, Or.inr rfl, Or.inr (congrArg vI (by omega)), trivial⟩ ?_
                          exact ih128 (r + 1) (M7) (by omega) (fun a ha => (f7 a ha).trans (hF6 a ha)) (by rw [e7 _ (by omega)]; exact h06) (by rw [e7 _ (by omega)]; exact h16) (fun b i1 i2 => ⟨by rw [e7 _ (by omega)]; exact (hX6 b i1 i2).1, fun r9 hr9 => by rw [e7 _ (by omega)]; exact (hX6 b i1 i2).2 r9 hr9⟩) (by rw [e7 _ (by omega)]; exact hS6) (fun q hq => by
                            by_cases e9 : q = r
                            · rw [e9, hfC]; exact g7
                            · rw [e7 _ (by omega)]; exact hY6 q (by omega)) (by omega)
                    refine WP.fgt (lt := [vR 167, vI ((L : Nat) : Int), vI ((i : Nat) : Int), vI ((Rw : Nat) : Int), vI ((L / 10 ^ j : Nat) : Int), vI ((pwd L j : Nat) : Int), vI (((i - j : Nat) : Int) - 1), vI ((0 : Nat) : Int)]) ⟨Or.inr rfl, Or.inr rfl, Or.inr rfl, Or.inr rfl, Or.inr rfl, Or.inr rfl, Or.inr rfl, Or.inr (congrArg vI (by omega)), trivial⟩ ?_
                    exact L128 _ (0) (M5) (Nat.zero_le _) (fun a ha => (hO5 a ha).trans (hF4 a ha)) (by rw [hM5, mset_n (Or.inr (by omega))]; exact h04) (by rw [hM5, mset_n (Or.inr (by omega))]; exact h14) (fun b i1 i2 => ⟨by rw [hM5, mset_n (Or.inr (by omega))]; exact (hC4 b i1 i2).1, fun r9 hr9 => by rw [hM5, mset_n (Or.inr (by omega))]; exact (hC4 b i1 i2).2 r9 hr9⟩) (by rw [hM5, mset_s, hfS]) (fun q hq => absurd hq (Nat.not_lt_zero q)) (Nat.lt_succ_self _)
              refine WP.fgt (lt := [vR 167, vI ((L : Nat) : Int), vI ((i : Nat) : Int), vI ((Rw : Nat) : Int), vI ((L / 10 ^ 0 : Nat) : Int), vI ((pwd L 0 : Nat) : Int), vI (((i - 0 : Nat) : Int) - 1), vU]) ⟨Or.inr rfl, Or.inr rfl, Or.inr rfl, Or.inr rfl, Or.inr (congrArg vI (by rw [Nat.pow_zero, Nat.div_one])), Or.inr (congrArg vI (rfl)), Or.inr (congrArg vI (by omega)), Or.inl rfl, trivial⟩ ?_
              exact L106 _ (0) (M3) (Nat.zero_le _) (fun a ha => by rw [hO3 a ha, hO2 a ha]) (by rw [hM3, mset_n (Or.inr (by decide)), hM2, mset_s]) (by rw [hM3, mset_s]) (fun b i1 i2 => by omega) (Nat.lt_succ_self _)
            · skip
              refine WP.bipush dX8_factorial_74 (by decide) ?_
              refine WP.iret dX8_factorial_76 rfl ?_
              exact PM.same ((cif_t hok).trans (if_pos (by rw [← hnd]; omega))) hV
          · skip
            have hno : ¬ (0 ≤ x ∧ faOK x.toNat) := fun z => by have := z.2.2.1; omega
            refine WP.iconst dX8_factorial_66 ?_
            refine WP.iret dX8_factorial_67 rfl ?_
            exact PM.same (cif_f hno) hV
      · skip
        have hx0 : 0 ≤ x ∧ y = ((x.toNat / 10 ^ i : Nat) : Int) := hy.resolve_right (fun z => by omega)
        have hin : i < nd x.toNat := by
          rcases Nat.lt_or_ge i (nd x.toNat) with z | z
          · exact z
          · have := h0.mpr z
            omega
        refine WP.fgt (lt := [vR 167, vI x, vI ((i : Nat) : Int), vI ((Rw : Nat) : Int), vI ((x.toNat / 10 ^ i : Nat) : Int), vU, vU, vU]) ⟨Or.inr rfl, Or.inr rfl, Or.inr rfl, Or.inr rfl, Or.inr (congrArg vI (hx0.2.symm)), Or.inl rfl, Or.inl rfl, Or.inl rfl, trivial⟩ ?_
        refine WP.iload dX8_factorial_12 rfl ?_
        refine WP.bipush dX8_factorial_14 (by decide) ?_
        refine WP.irem dX8_factorial_16 (by omega) (by omega) ?_
        refine WP.eqs (st' := [vI ((dg x.toNat i : Nat) : Int)]) rfl (lc (congrArg vI (by rw [dg, Int.natCast_emod]; rfl)) rfl) ?_
        have h10 := dg_lt x.toNat i
        refine WP.callSp (as := [vI ((dg x.toNat i : Nat) : Int)]) dX8_factorial_17 ms_X8_54 rfl (w_isLevels (by omega)) rfl (Nat.le_of_ble_eq_true rfl) (by omega) ?_
        refine WP.if_ne (tgt := 25) dX8_factorial_20 (by decide) (bi_rng) (fun h20 => ?_) (fun h20 => ?_)
        · skip
          have q20 : 2 ≤ dg x.toNat i ∧ dg x.toNat i ≤ 6 := by have := bi_1 h20; omega
          have hpp := (pwd_pos hdg i (Nat.le_refl _)).1
          refine WP.iinc (lt := [vR 167, vI x, vI (((i : Nat) : Int) + 1), vI ((Rw : Nat) : Int), vI ((x.toNat / 10 ^ i : Nat) : Int), vU, vU, vU]) dX8_factorial_25 rfl (by decide) rfl ?_
          refine WP.iload_n dX8_factorial_28 rfl ?_
          refine WP.bipush dX8_factorial_29 (by decide) ?_
          refine WP.icmp_le (tgt := 38) dX8_factorial_31 (by decide) (by omega) (by omega) (fun h31 => ?_) (fun h31 => ?_)
          · skip
            have hRe : Rw = pwd x.toNat i ∧ Rw ≤ 36 := by rcases hR with z | z <;> omega
            have hmm : Rw * dg x.toNat i ≤ 36 * 6 := Nat.mul_le_mul hRe.2 q20.2
            refine WP.iload_n dX8_factorial_38 rfl ?_
            refine WP.iload dX8_factorial_39 rfl ?_
            refine WP.bipush dX8_factorial_41 (by decide) ?_
            refine WP.irem dX8_factorial_43 (by omega) (by omega) ?_
            refine WP.eqs (st' := [vI ((dg x.toNat i : Nat) : Int), vI ((Rw : Nat) : Int)]) rfl (lc (congrArg vI (by rw [dg, Int.natCast_emod]; rfl)) rfl) ?_
            refine WP.imul dX8_factorial_44 ?_
            refine WP.eqs (st' := [vI ((Rw * dg x.toNat i : Nat) : Int)]) rfl (lc (congrArg vI (by rw [Int.natCast_mul])) rfl) ?_
            refine WP.istore_n (lt := [vR 167, vI x, vI (((i : Nat) : Int) + 1), vI ((Rw * dg x.toNat i : Nat) : Int), vI ((x.toNat / 10 ^ i : Nat) : Int), vU, vU, vU]) dX8_factorial_45 (by decide) rfl ?_
            refine WP.iload dX8_factorial_46 rfl ?_
            refine WP.bipush dX8_factorial_48 (by decide) ?_
            refine WP.idiv dX8_factorial_50 (by omega) (by omega) ?_
            refine WP.istore (lt := [vR 167, vI x, vI (((i : Nat) : Int) + 1), vI ((Rw * dg x.toNat i : Nat) : Int), vI (((x.toNat / 10 ^ i : Nat) : Int) / (10 : Int)), vU, vU, vU]) dX8_factorial_51 (by decide) rfl ?_
            refine WP.goto (tgt := 7) dX8_factorial_53 (by decide) ?_
            refine WP.fgt (lt := [vR 167, vI x, vI (((i + 1) : Nat) : Int), vI (((Rw * dg x.toNat i) : Nat) : Int), vI (((x.toNat / 10 ^ (i + 1) : Nat) : Int)), vU, vU, vU]) ⟨Or.inr rfl, Or.inr rfl, Or.inr (congrArg vI (by omega)), Or.inr (congrArg vI (rfl)), Or.inr (congrArg vI (by rw [← hs9, Int.natCast_ediv]; rfl)), Or.inl rfl, Or.inl rfl, Or.inl rfl, trivial⟩ ?_
            exact ih7 (i + 1) (Rw * dg x.toNat i) (((x.toNat / 10 ^ (i + 1) : Nat) : Int)) (by omega) (Or.inl ⟨by omega, rfl⟩) (by rw [pwd_s, ← hRe.1]; omega) (fun j hj => by
              by_cases e9 : j = i
              · rw [e9]; exact q20
              · exact hdg j (by omega)) (by omega)
          · skip
            have hRb : 36 < Rw ∧ 36 < pwd x.toNat i ∧ Rw ≤ 216 := by rcases hR with z | z <;> omega
            refine WP.iload_n dX8_factorial_34 rfl ?_
            refine WP.goto (tgt := 45) dX8_factorial_35 (by decide) ?_
            refine WP.istore_n (lt := [vR 167, vI x, vI (((i : Nat) : Int) + 1), vI ((Rw : Nat) : Int), vI ((x.toNat / 10 ^ i : Nat) : Int), vU, vU, vU]) dX8_factorial_45 (by decide) rfl ?_
            refine WP.iload dX8_factorial_46 rfl ?_
            refine WP.bipush dX8_factorial_48 (by decide) ?_
            refine WP.idiv dX8_factorial_50 (by omega) (by omega) ?_
            refine WP.istore (lt := [vR 167, vI x, vI (((i : Nat) : Int) + 1), vI ((Rw : Nat) : Int), vI (((x.toNat / 10 ^ i : Nat) : Int) / (10 : Int)), vU, vU, vU]) dX8_factorial_51 (by decide) rfl ?_
            refine WP.goto (tgt := 7) dX8_factorial_53 (by decide) ?_
            refine WP.fgt (lt := [vR 167, vI x, vI (((i + 1) : Nat) : Int), vI ((Rw : Nat) : Int), vI (((x.toNat / 10 ^ (i + 1) : Nat) : Int)), vU, vU, vU]) ⟨Or.inr rfl, Or.inr rfl, Or.inr (congrArg vI (by omega)), Or.inr (congrArg vI (rfl)), Or.inr (congrArg vI (by rw [← hs9, Int.natCast_ediv]; rfl)), Or.inl rfl, Or.inl rfl, Or.inl rfl, trivial⟩ ?_
            exact ih7 (i + 1) (Rw) (((x.toNat / 10 ^ (i + 1) : Nat) : Int)) (by omega) (Or.inl ⟨by omega, rfl⟩) (Or.inr ⟨hRb.1, by rw [pwd_s]; exact Nat.lt_of_lt_of_le hRb.2.1 (Nat.le_mul_of_pos_right _ (by omega)), hRb.2.2⟩) (fun j hj => by
              by_cases e9 : j = i
              · rw [e9]; exact q20
              · exact hdg j (by omega)) (by omega)
        · skip
          have q20 := bi_0 h20
          refine WP.iconst dX8_factorial_23 ?_
          refine WP.iret dX8_factorial_24 rfl ?_
          exact PM.same (cif_f (fun z => q20 (by have := z.2.2.2 i hin; omega))) hV
  refine WP.fgt (lt := [vR 167, vI x, vI ((0 : Nat) : Int), vI ((1 : Nat) : Int), vI x, vU, vU, vU]) ⟨Or.inr rfl, Or.inr rfl, Or.inr (congrArg vI (by omega)), Or.inr (congrArg vI (by omega)), Or.inr rfl, Or.inl rfl, Or.inl rfl, Or.inl rfl, trivial⟩ ?_
  exact L7 _ (0) (1) (x) (Nat.zero_le _) (by
    rw [Nat.pow_zero, Nat.div_one]
    omega) (Or.inl ⟨by decide, rfl⟩) (fun j hj => absurd hj (Nat.not_lt_zero j)) (Nat.lt_succ_self _)
