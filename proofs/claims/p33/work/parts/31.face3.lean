theorem o_told_4 {S : ST} {b : Int} (h : bi (sch S.1.1 S.1.2.1 S.1.2.2.1 S.1.2.2.2) = b) : o_told S 4 = (b, S) := by
  rw [← h]; rfl
theorem InvX.kp {M M' : Mem} {A : AR} {H : Nat × (Nat → AR)} {im : Nat → Option AR} {T : Nat × (Nat → Nat)} {i : Nat} (hI : InvX M (A, H, im, T)) (hi : i < 2) (h : ∀ a, a ≠ 42 → a ≠ 46 → a ≠ 3 + 3 * i → a ≠ 3 + 3 * i + 1 → a ≠ 3 + 3 * i + 2 → M' a = M a) (h8 : M' 42 8 = 0) (h10 : M' 42 10 = -1) (hk : M' 46 i = 1) (ho : ∀ j, j ≠ i → M' 46 j = M 46 j) (hT : TA M' (3 + 3 * i) A) : InvX M' (A, H, (fun j => if j = i then some A else im j), T) := by
  obtain ⟨a1, a2, a3, a4, a5, a6⟩ := hI
  refine ⟨a1.fr (h _ (by omega) (by omega) (by omega) (by omega) (by omega)) (h _ (by omega) (by omega) (by omega) (by omega) (by omega)) (h _ (by omega) (by omega) (by omega) (by omega) (by omega)), a2.fr (h _ (by omega) (by omega) (by omega) (by omega) (by omega)) (fun a i1 i2 => h a (by omega) (by omega) (by omega) (by omega) (by omega)), fun j hj => ?_, a4.fr (h _ (by omega) (by omega) (by omega) (by omega) (by omega)) (h _ (by omega) (by omega) (by omega) (by omega) (by omega)), Or.inl h8, Or.inl h10⟩
  dsimp only
  by_cases e : j = i
  · subst e
    rw [if_pos rfl]
    refine ⟨fun z => by simp at z, fun B hB => ?_⟩
    cases hB
    exact ⟨hk, hT⟩
  · rw [if_neg e, ho j e]
    exact ⟨(a3 j hj).1, fun B hB => ⟨((a3 j hj).2 B hB).1, ((a3 j hj).2 B hB).2.fr (h _ (by omega) (by omega) (by omega) (by omega) (by omega)) (h _ (by omega) (by omega) (by omega) (by omega) (by omega)) (h _ (by omega) (by omega) (by omega) (by omega) (by omega))⟩⟩
theorem fil_ap {ce : Nat → Nat → Nat} {k r q c : Nat} {f g : Nat → Nat} (h : q < r) : fil (apC ce k g) k f r q c = apC ce k f q c := by
  unfold fil apC
  by_cases e : c = k
  · rw [if_pos ⟨e, h⟩, if_pos e]
  · rw [if_neg (fun z => e z.1), if_neg e, if_neg e]
set_option maxHeartbeats 4000000 in
set_option maxRecDepth 20000 in
theorem x_told {M : Mem} {n k h len : Nat} {sz tx : Nat → Nat} {ce : Nat → Nat → Nat} {hs : Nat → AR} {im : Nat → Option AR} (hV : InvX M (mkS n k sz ce h hs im len tx)) {x : Int} (hx : -2147483648 ≤ x ∧ x < 2147483648) : CT 40 m_X7_told [vR 42, vI x] M (PX M (o_told (mkS n k sz ce h hs im len tx) x)) := by
  have hT : TX M 0 n k sz ce := hV.1.1
  have hW : Wf n k sz ce := hV.1.2
  have hH : HX M h hs := hV.2.1
  have hIM : IMx M im := hV.2.2.1
  have hS : SX M len tx := hV.2.2.2.1
  have b1 := hW.1
  have b2 := hW.2.1
  have t0 : isT 0 := ⟨rfl, by decide⟩
  have hh8 := hH.1
  have hl3 := hS.1
  refine CT.ofWP (by decide +kernel) (Nat.le_of_ble_eq_true rfl) ?_
  show WP sc0 40 m_X7_told 0 [vR 42, vI x] [] M (PX M (o_told (mkS n k sz ce h hs im len tx) x))
  refine WP.iload_n dX7_told_0 rfl ?_
  by_cases h1_0 : x = 0
  · skip
    refine WP.tabIn (off := 51) (tgt := 52) dX7_told_1 (by omega) (by omega) (by omega) (by rw [h1_0]; rfl) (by decide) ?_
    refine WP.aload_n dX7_told_52 rfl ?_
    refine WP.getR (y := 0) dX7_told_53 fl_X7_10 (rfl) (by decide) (rfl) ?_
    refine WP.getI (x := ((n : Nat) : Int)) dX7_told_56 fl_X7_73 (rfl) (by decide) (hT.1) ?_
    refine WP.iret dX7_told_59 rfl ?_
    exact PX.same (by rw [h1_0]; rfl) hV
  by_cases h1_1 : x = 1
  · skip
    refine WP.tabIn (off := 59) (tgt := 60) dX7_told_1 (by omega) (by omega) (by omega) (by rw [h1_1]; rfl) (by decide) ?_
    refine WP.aload_n dX7_told_60 rfl ?_
    refine WP.getR (y := 0) dX7_told_61 fl_X7_10 (rfl) (by decide) (rfl) ?_
    refine WP.getI (x := ((k : Nat) : Int)) dX7_told_64 fl_X7_88 (rfl) (by decide) (hT.2.1) ?_
    refine WP.iret dX7_told_67 rfl ?_
    exact PX.same (by rw [h1_1]; rfl) hV
  by_cases h1_2 : x = 2
  · skip
    refine WP.tabIn (off := 67) (tgt := 68) dX7_told_1 (by omega) (by omega) (by omega) (by rw [h1_2]; rfl) (by decide) ?_
    refine WP.aload_n dX7_told_68 rfl ?_
    refine WP.getR (y := 49) dX7_told_69 fl_X7_41 (rfl) (by decide) (rfl) ?_
    refine WP.aload_n dX7_told_72 rfl ?_
    refine WP.getR (y := 0) dX7_told_73 fl_X7_10 (rfl) (by decide) (rfl) ?_
    refine WP.callV (as := [vR 0]) dX7_told_76 mv_X7_169 rfl (rfl) (by decide) rfl rfl (c_C_strength t0 hT hW) rfl (Nat.le_of_ble_eq_true rfl) (by omega) (fun r9 M1 h9 => ?_)
    obtain ⟨rfl, e1⟩ := h9
    show WP sc0 40 m_X7_told 79 [vR 42, vI x] [vI ((stF (fun b => okT n k sz ce b aT) k : Nat) : Int)] M1 (PX M (o_told (mkS n k sz ce h hs im len tx) x))
    refine WP.iret dX7_told_79 rfl ?_
    exact PX.cs (by rw [h1_2]; rfl) hV (fun a i1 _ => e1 a i1)
  by_cases h1_3 : x = 3
  · skip
    refine WP.tabIn (off := 79) (tgt := 80) dX7_told_1 (by omega) (by omega) (by omega) (by rw [h1_3]; rfl) (by decide) ?_
    refine WP.aload_n dX7_told_80 rfl ?_
    refine WP.getR (y := 0) dX7_told_81 fl_X7_10 (rfl) (by decide) (rfl) ?_
    refine WP.callVp (as := []) dX7_told_84 mv_X7_173 rfl (rfl) (by decide) rfl rfl (c_T_copies t0 hT hW) rfl (Nat.le_of_ble_eq_true rfl) (by omega) ?_
    refine WP.iret dX7_told_87 rfl ?_
    exact PX.same (by rw [h1_3]; rfl) hV
  by_cases h1_4 : x = 4
  · skip
    refine WP.tabIn (off := 87) (tgt := 88) dX7_told_1 (by omega) (by omega) (by omega) (by rw [h1_4]; rfl) (by decide) ?_
    refine WP.aload_n dX7_told_88 rfl ?_
    refine WP.getR (y := 0) dX7_told_89 fl_X7_10 (rfl) (by decide) (rfl) ?_
    refine WP.callVp (as := []) dX7_told_92 mv_X7_141 rfl (rfl) (by decide) rfl rfl (c_T_isScheme t0 hT hW) rfl (Nat.le_of_ble_eq_true rfl) (by omega) ?_
    refine WP.if_eq (tgt := 102) dX7_told_95 (by decide) (bi_rng) (fun h95 => ?_) (fun h95 => ?_)
    · skip
      have q95 := bi_0 h95
      refine WP.iconst dX7_told_102 ?_
      refine WP.iret dX7_told_103 rfl ?_
      exact PX.same (by rw [h1_4]; exact o_told_4 (bi_f q95)) hV
    · skip
      have q95 := bi_1 h95
      refine WP.iconst dX7_told_98 ?_
      refine WP.goto (tgt := 103) dX7_told_99 (by decide) ?_
      refine WP.iret dX7_told_103 rfl ?_
      exact PX.same (by rw [h1_4]; exact o_told_4 (bi_t q95)) hV
  by_cases h1_5 : x = 5
  · skip
    refine WP.tabIn (off := 103) (tgt := 104) dX7_told_1 (by omega) (by omega) (by omega) (by rw [h1_5]; rfl) (by decide) ?_
    refine WP.aload_n dX7_told_104 rfl ?_
    refine WP.getR (y := 0) dX7_told_105 fl_X7_10 (rfl) (by decide) (rfl) ?_
    refine WP.callVp (as := []) dX7_told_108 mv_X7_176 rfl (rfl) (by decide) rfl rfl (c_T_leastRows t0 hT hW) rfl (Nat.le_of_ble_eq_true rfl) (by omega) ?_
    refine WP.iret dX7_told_111 rfl ?_
    exact PX.same (by rw [h1_5]; rfl) hV
  by_cases h1_6 : x = 6
  · skip
    refine WP.tabIn (off := 111) (tgt := 112) dX7_told_1 (by omega) (by omega) (by omega) (by rw [h1_6]; rfl) (by decide) ?_
    refine WP.aload_n dX7_told_112 rfl ?_
    refine WP.getR (y := 0) dX7_told_113 fl_X7_10 (rfl) (by decide) (rfl) ?_
    refine WP.callVp (as := []) dX7_told_116 mv_X7_179 rfl (rfl) (by decide) rfl rfl (c_T_rowsDivisor t0 hT hW) rfl (Nat.le_of_ble_eq_true rfl) (by omega) ?_
    refine WP.iret dX7_told_119 rfl ?_
    exact PX.same (by rw [h1_6]; rfl) hV
  by_cases h1_7 : x = 7
  · skip
    refine WP.tabIn (off := 119) (tgt := 120) dX7_told_1 (by omega) (by omega) (by omega) (by rw [h1_7]; rfl) (by decide) ?_
    refine WP.aload_n dX7_told_120 rfl ?_
    refine WP.getR (y := 43) dX7_told_121 fl_X7_19 (rfl) (by decide) (rfl) ?_
    refine WP.getI (x := ((h : Nat) : Int)) dX7_told_124 fl_X7_149 (rfl) (by decide) (hH.2.1) ?_
    refine WP.iret dX7_told_127 rfl ?_
    exact PX.same (by rw [h1_7]; rfl) hV
  by_cases h1_8 : x = 8
  · skip
    refine WP.tabIn (off := 127) (tgt := 128) dX7_told_1 (by omega) (by omega) (by omega) (by rw [h1_8]; rfl) (by decide) ?_
    refine WP.aload_n dX7_told_128 rfl ?_
    refine WP.getR (y := 47) dX7_told_129 fl_X7_34 (rfl) (by decide) (rfl) ?_
    refine WP.getI (x := ((len : Nat) : Int)) dX7_told_132 fl_X7_159 (rfl) (by decide) (hS.2.1) ?_
    refine WP.iret dX7_told_135 rfl ?_
    exact PX.same (by rw [h1_8]; rfl) hV
  refine WP.tabOut (tgt := 136) dX7_told_1 (by omega) (by omega) (by decide) ?_
  refine WP.iconst dX7_told_136 ?_
  refine WP.iret dX7_told_137 rfl ?_
  exact PX.same (by unfold o_told; rw [if_neg h1_0, if_neg h1_1, if_neg h1_2, if_neg h1_3, if_neg h1_4, if_neg h1_5, if_neg h1_6, if_neg h1_7, if_neg h1_8]) hV
set_option maxHeartbeats 4000000 in
set_option maxRecDepth 20000 in
theorem x_audit {M : Mem} {n k h len : Nat} {sz tx : Nat → Nat} {ce : Nat → Nat → Nat} {hs : Nat → AR} {im : Nat → Option AR} (hV : InvX M (mkS n k sz ce h hs im len tx)) {x : Int} (hx : -2147483648 ≤ x ∧ x < 2147483648) {y : Int} (hy : -2147483648 ≤ y ∧ y < 2147483648) : CT 40 m_X7_audit [vR 42, vI x, vI y] M (PX M (o_audit (mkS n k sz ce h hs im len tx) x y)) := by
  have hT : TX M 0 n k sz ce := hV.1.1
  have hW : Wf n k sz ce := hV.1.2
  have hH : HX M h hs := hV.2.1
  have hIM : IMx M im := hV.2.2.1
  have hS : SX M len tx := hV.2.2.2.1
  have b1 := hW.1
  have b2 := hW.2.1
  have t0 : isT 0 := ⟨rfl, by decide⟩
  have hh8 := hH.1
  have hl3 := hS.1
  have hm : 2 ^ n - 1 < 2 ^ 36 := by have : 2 ^ n ≤ 2 ^ 36 := Nat.pow_le_pow_right (by decide) b1; omega
  have hb : lq (Int64.ofNat (2 ^ n - 1)) = ((cn (mk (2 ^ n - 1)) n : Nat) : Int) := by rw [cn_all]; exact lq_all n (by omega)
  refine CT.ofWP (by decide +kernel) (Nat.le_of_ble_eq_true rfl) ?_
  show WP sc0 40 m_X7_audit 0 [vR 42, vI x, vI y] [] M (PX M (o_audit (mkS n k sz ce h hs im len tx) x y))
  refine WP.iload_n dX7_audit_0 rfl ?_
  refine WP.if_lt (tgt := 15) dX7_audit_1 (by decide) (by omega) (fun h1 => ?_) (fun h1 => ?_)
  · skip
    refine WP.iconst dX7_audit_15 ?_
    refine WP.iret dX7_audit_16 rfl ?_
    exact PX.same (congrArg (fun z => (z, _)) (cif_f (fun z => by have := z.1; dsimp only at this; omega))) hV
  · skip
    refine WP.iload_n dX7_audit_4 rfl ?_
    refine WP.aload_n dX7_audit_5 rfl ?_
    refine WP.getR (y := 0) dX7_audit_6 fl_X7_10 (rfl) (by decide) (rfl) ?_
    refine WP.getI (x := ((k : Nat) : Int)) dX7_audit_9 fl_X7_88 (rfl) (by decide) (hT.2.1) ?_
    refine WP.icmp_le (tgt := 17) dX7_audit_12 (by decide) (by omega) (by omega) (fun h12 => ?_) (fun h12 => ?_)
    · skip
      obtain ⟨c, hc0⟩ : ∃ c : Nat, x.toNat = c := ⟨_, rfl⟩
      have hc1 : x = ((c : Nat) : Int) := by omega
      refine WP.fgt (lt := [vR 42, vI ((c : Nat) : Int), vI y]) ⟨Or.inr rfl, Or.inr (congrArg vI (hc1.symm)), Or.inr rfl, trivial⟩ ?_
      refine WP.iload_n dX7_audit_17 rfl ?_
      by_cases h18_0 : y = 0
      · skip
        refine WP.tabIn (off := 30) (tgt := 48) dX7_audit_18 (by omega) (by omega) (by omega) (by rw [h18_0]; rfl) (by decide) ?_
        refine WP.aload_n dX7_audit_48 rfl ?_
        refine WP.getR (y := 49) dX7_audit_49 fl_X7_41 (rfl) (by decide) (rfl) ?_
        refine WP.aload_n dX7_audit_52 rfl ?_
        refine WP.getR (y := 0) dX7_audit_53 fl_X7_10 (rfl) (by decide) (rfl) ?_
        refine WP.iload_n dX7_audit_56 rfl ?_
        refine WP.callV (as := [vR 0, vI ((c : Nat) : Int)]) dX7_audit_57 mv_X7_188 rfl (rfl) (by decide) rfl rfl (c_C_unbalanced (b := c) t0 hT hW (by omega)) rfl (Nat.le_of_ble_eq_true rfl) (by omega) (fun r9 M1 h9 => ?_)
        obtain ⟨rfl, e1⟩ := h9
        show WP sc0 40 m_X7_audit 60 [vR 42, vI ((c : Nat) : Int), vI y] [vI ((cn (fun set => popn 12 set = c ∧ ¬ bal n k sz ce set (mk (2 ^ n - 1))) (2 ^ k) : Nat) : Int)] M1 (PX M (o_audit (mkS n k sz ce h hs im len tx) x y))
        refine WP.iret dX7_audit_60 rfl ?_
        exact PX.cs (by subst hc0; exact congrArg (fun z => (z, _)) ((cif_t (show (0 ≤ x ∧ x ≤ ((k : Nat) : Int)) ∧ 0 ≤ y ∧ y ≤ 3 by omega)).trans (by rw [h18_0]; rfl))) hV (fun a i1 i2 => e1 a i1)
      by_cases h18_1 : y = 1
      · skip
        refine WP.tabIn (off := 43) (tgt := 61) dX7_audit_18 (by omega) (by omega) (by omega) (by rw [h18_1]; rfl) (by decide) ?_
        refine WP.aload_n dX7_audit_61 rfl ?_
        refine WP.getR (y := 49) dX7_audit_62 fl_X7_41 (rfl) (by decide) (rfl) ?_
        refine WP.aload_n dX7_audit_65 rfl ?_
        refine WP.getR (y := 0) dX7_audit_66 fl_X7_10 (rfl) (by decide) (rfl) ?_
        refine WP.iload_n dX7_audit_69 rfl ?_
        refine WP.aload_n dX7_audit_70 rfl ?_
        refine WP.getR (y := 0) dX7_audit_71 fl_X7_10 (rfl) (by decide) (rfl) ?_
        refine WP.callVp (as := []) dX7_audit_74 mv_X7_192 rfl (rfl) (by decide) rfl rfl (c_T_allRows t0 hT hW) rfl (Nat.le_of_ble_eq_true rfl) (by omega) ?_
        refine WP.callV (as := [vR 0, vI ((c : Nat) : Int), vL (Int64.ofNat (2 ^ n - 1))]) dX7_audit_77 mv_X7_196 rfl (rfl) (by decide) rfl rfl (c_C_first (b := c) t0 hT hW (by omega) hm hb) rfl (Nat.le_of_ble_eq_true rfl) (by omega) (fun r9 M1 h9 => ?_)
        obtain ⟨rfl, e1⟩ := h9
        show WP sc0 40 m_X7_audit 80 [vR 42, vI ((c : Nat) : Int), vI y] [vI (fub n k sz ce c (mk (2 ^ n - 1)))] M1 (PX M (o_audit (mkS n k sz ce h hs im len tx) x y))
        refine WP.iret dX7_audit_80 rfl ?_
        exact PX.cs (by subst hc0; exact congrArg (fun z => (z, _)) ((cif_t (show (0 ≤ x ∧ x ≤ ((k : Nat) : Int)) ∧ 0 ≤ y ∧ y ≤ 3 by omega)).trans (by rw [h18_1]; rfl))) hV (fun a i1 i2 => e1 a i1)
      by_cases h18_2 : y = 2
      · skip
        refine WP.tabIn (off := 63) (tgt := 81) dX7_audit_18 (by omega) (by omega) (by omega) (by rw [h18_2]; rfl) (by decide) ?_
        refine WP.aload_n dX7_audit_81 rfl ?_
        refine WP.getR (y := 49) dX7_audit_82 fl_X7_41 (rfl) (by decide) (rfl) ?_
        refine WP.aload_n dX7_audit_85 rfl ?_
        refine WP.getR (y := 0) dX7_audit_86 fl_X7_10 (rfl) (by decide) (rfl) ?_
        refine WP.iload_n dX7_audit_89 rfl ?_
        refine WP.callV (as := [vR 0, vI ((c : Nat) : Int)]) dX7_audit_90 mv_X7_200 rfl (rfl) (by decide) rfl rfl (c_C_greatest (b := c) t0 hT hW (by omega)) rfl (Nat.le_of_ble_eq_true rfl) (by omega) (fun r9 M1 h9 => ?_)
        obtain ⟨rfl, e1⟩ := h9
        show WP sc0 40 m_X7_audit 93 [vR 42, vI ((c : Nat) : Int), vI y] [vI ((gts n k sz ce c (2 ^ k) : Nat) : Int)] M1 (PX M (o_audit (mkS n k sz ce h hs im len tx) x y))
        refine WP.iret dX7_audit_93 rfl ?_
        exact PX.cs (by subst hc0; exact congrArg (fun z => (z, _)) ((cif_t (show (0 ≤ x ∧ x ≤ ((k : Nat) : Int)) ∧ 0 ≤ y ∧ y ≤ 3 by omega)).trans (by rw [h18_2]; rfl))) hV (fun a i1 i2 => e1 a i1 i2)
      by_cases h18_3 : y = 3
      · skip
        refine WP.tabIn (off := 76) (tgt := 94) dX7_audit_18 (by omega) (by omega) (by omega) (by rw [h18_3]; rfl) (by decide) ?_
        refine WP.aload_n dX7_audit_94 rfl ?_
        refine WP.getR (y := 49) dX7_audit_95 fl_X7_41 (rfl) (by decide) (rfl) ?_
        refine WP.aload_n dX7_audit_98 rfl ?_
        refine WP.getR (y := 0) dX7_audit_99 fl_X7_10 (rfl) (by decide) (rfl) ?_
        refine WP.iload_n dX7_audit_102 rfl ?_
        refine WP.callV (as := [vR 0, vI ((c : Nat) : Int)]) dX7_audit_103 mv_X7_203 rfl (rfl) (by decide) rfl rfl (c_C_least (b := c) t0 hT hW (by omega)) rfl (Nat.le_of_ble_eq_true rfl) (by omega) (fun r9 M1 h9 => ?_)
        obtain ⟨rfl, e1⟩ := h9
        show WP sc0 40 m_X7_audit 106 [vR 42, vI ((c : Nat) : Int), vI y] [vI ((lss n k sz ce c (2 ^ k) : Nat) : Int)] M1 (PX M (o_audit (mkS n k sz ce h hs im len tx) x y))
        refine WP.iret dX7_audit_106 rfl ?_
        exact PX.cs (by subst hc0; exact congrArg (fun z => (z, _)) ((cif_t (show (0 ≤ x ∧ x ≤ ((k : Nat) : Int)) ∧ 0 ≤ y ∧ y ≤ 3 by omega)).trans (by rw [h18_3]; rfl))) hV (fun a i1 i2 => e1 a i1 i2)
      refine WP.tabOut (tgt := 107) dX7_audit_18 (by omega) (by omega) (by decide) ?_
      refine WP.iconst dX7_audit_107 ?_
      refine WP.iret dX7_audit_108 rfl ?_
      exact PX.same (congrArg (fun z => (z, _)) (cif_f (fun z => by have := z.2; omega))) hV
    · skip
      refine WP.iconst dX7_audit_15 ?_
      refine WP.iret dX7_audit_16 rfl ?_
      exact PX.same (congrArg (fun z => (z, _)) (cif_f (fun z => by have := z.1; dsimp only at this; omega))) hV
set_option maxHeartbeats 4000000 in
set_option maxRecDepth 20000 in
theorem x_keep {M : Mem} {n k h len : Nat} {sz tx : Nat → Nat} {ce : Nat → Nat → Nat} {hs : Nat → AR} {im : Nat → Option AR} (hV : InvX M (mkS n k sz ce h hs im len tx)) {x : Int} (hx : -2147483648 ≤ x ∧ x < 2147483648) : CT 40 m_X7_keep [vR 42, vI x] M (PX M (o_keep (mkS n k sz ce h hs im len tx) x)) := by
  have hT : TX M 0 n k sz ce := hV.1.1
  have hW : Wf n k sz ce := hV.1.2
  have hH : HX M h hs := hV.2.1
  have hIM : IMx M im := hV.2.2.1
  have hS : SX M len tx := hV.2.2.2.1
  have b1 := hW.1
  have b2 := hW.2.1
  have t0 : isT 0 := ⟨rfl, by decide⟩
  have hh8 := hH.1
  have hl3 := hS.1
  refine CT.ofWP (by decide +kernel) (Nat.le_of_ble_eq_true rfl) ?_
  show WP sc0 40 m_X7_keep 0 [vR 42, vI x] [] M (PX M (o_keep (mkS n k sz ce h hs im len tx) x))
  refine WP.iload_n dX7_keep_0 rfl ?_
  refine WP.callSp (as := [vI x]) dX7_keep_1 ms_X7_134 rfl (c_X_isImage (by omega)) rfl (Nat.le_of_ble_eq_true rfl) (by omega) ?_
  refine WP.if_ne (tgt := 9) dX7_keep_4 (by decide) (bi_rng) (fun h4 => ?_) (fun h4 => ?_)
  · skip
    have q4 := bi_1 h4
    obtain ⟨i, hi0⟩ : ∃ i : Nat, x.toNat = i := ⟨_, rfl⟩
    have hi1 : x = ((i : Nat) : Int) := by omega
    refine WP.fgt (lt := [vR 42, vI ((i : Nat) : Int)]) ⟨Or.inr rfl, Or.inr (congrArg vI (hi1.symm)), trivial⟩ ?_
    refine WP.aload_n dX7_keep_9 rfl ?_
    refine WP.getR (y := 45) dX7_keep_10 fl_X7_23 (rfl) (by decide) (rfl) ?_
    refine WP.iload_n dX7_keep_13 rfl ?_
    refine WP.aaload (y := i) (z := (3 + 3 * i)) dX7_keep_14 (rfl) (by omega) (by omega) (rfl) ?_
    refine WP.aload_n dX7_keep_15 rfl ?_
    refine WP.getR (y := 0) dX7_keep_16 fl_X7_10 (rfl) (by decide) (rfl) ?_
    refine WP.callV (as := [vR 0]) dX7_keep_19 mv_X7_218 rfl (shT0 (isT_im (i := i) (by omega))) (by decide) rfl rfl (c_T_copyFrom (t := 3 + 3 * i) (o := 0) (isT_im (by omega)) t0 (by omega) hT b1 b2) rfl (Nat.le_of_ble_eq_true rfl) (by omega) (fun r9 M1 h9 => ?_)
    obtain ⟨rfl, e1, e2⟩ := h9
    show WP sc0 40 m_X7_keep 22 [vR 42, vI ((i : Nat) : Int)] [] M1 (PX M (o_keep (mkS n k sz ce h hs im len tx) x))
    refine WP.aload_n dX7_keep_22 rfl ?_
    refine WP.getR (y := 46) dX7_keep_23 fl_X7_27 (rfl) (by decide) (rfl) ?_
    refine WP.iload_n dX7_keep_26 rfl ?_
    refine WP.iconst dX7_keep_27 ?_
    refine WP.bastore (y := i) dX7_keep_28 (rfl) (by omega) (by omega) (by decide) rfl ?_
    obtain ⟨M2, hM2⟩ : ∃ z, z = mset M1 46 i (1 : Int) := ⟨_, rfl⟩
    refine WP.eqM hM2.symm ?_
    refine WP.aload_n dX7_keep_29 rfl ?_
    refine WP.callV (as := []) dX7_keep_30 mv_X7_156 rfl (rfl) (by decide) rfl rfl (c_X_forget) rfl (Nat.le_of_ble_eq_true rfl) (by omega) (fun r9 M3 h9 => ?_)
    obtain ⟨rfl, hM3⟩ := h9
    have hO3 : ∀ a, a ≠ 42 → M3 a = M2 a := fun a ha => by rw [hM3, mset_o a ha, mset_o a ha]
    have m8 : M3 42 8 = 0 := by rw [hM3, mset_n (Or.inr (by decide)), mset_s]
    have m10 : M3 42 10 = -1 := by rw [hM3, mset_s]
    have hO2 : ∀ a, a ≠ 46 → M2 a = M1 a := fun a ha => by rw [hM2]; exact mset_o a ha
    have hi2 : i < 2 := by omega
    show WP sc0 40 m_X7_keep 33 [vR 42, vI ((i : Nat) : Int)] [] M3 (PX M (o_keep (mkS n k sz ce h hs im len tx) x))
    refine WP.aload_n dX7_keep_33 rfl ?_
    refine WP.getR (y := 0) dX7_keep_34 fl_X7_10 (rfl) (by decide) (rfl) ?_
    refine WP.getI (x := ((n : Nat) : Int)) dX7_keep_37 fl_X7_73 (rfl) (by decide) (by rw [hO3 0 (by decide), hO2 0 (by decide), e1 0 (by omega) (by omega) (by omega)]; exact hT.1) ?_
    refine WP.iret dX7_keep_40 rfl ?_
    subst hi0
    have hq : o_keep (mkS n k sz ce h hs im len tx) x = (((n : Nat) : Int), ((n, k, sz, ce), (h, hs), (fun j => if j = x.toNat then some (n, k, sz, ce) else im j), (len, tx))) := cif_t q4
    rw [hq]
    exact ⟨rfl, InvX.kp hV hi2 (fun a i1 i2 i3 i4 i5 => by rw [hO3 a i1, hO2 a i2, e1 a i3 i4 i5]) m8 m10 (by rw [hO3 46 (by decide), hM2, mset_s]) (fun j hj => by rw [hO3 46 (by decide), hM2, mset_n (Or.inr hj), e1 46 (by omega) (by omega) (by omega)]) ⟨e2.fr (by rw [hO3 _ (by omega), hO2 _ (by omega)]) (by rw [hO3 _ (by omega), hO2 _ (by omega)]) (by rw [hO3 _ (by omega), hO2 _ (by omega)]), hW⟩, fun a ha => by rw [hO3 a (by omega), hO2 a (by omega), e1 a (by omega) (by omega) (by omega)]⟩
  · skip
    have q4 := bi_0 h4
    refine WP.iconst dX7_keep_7 ?_
    refine WP.iret dX7_keep_8 rfl ?_
    exact PX.same (cif_f q4) hV
set_option maxHeartbeats 4000000 in
set_option maxRecDepth 20000 in
theorem x_back {M : Mem} {n k h len : Nat} {sz tx : Nat → Nat} {ce : Nat → Nat → Nat} {hs : Nat → AR} {im : Nat → Option AR} (hV : InvX M (mkS n k sz ce h hs im len tx)) {x : Int} (hx : -2147483648 ≤ x ∧ x < 2147483648) : CT 40 m_X7_back [vR 42, vI x] M (PX M (o_back (mkS n k sz ce h hs im len tx) x)) := by
  have hT : TX M 0 n k sz ce := hV.1.1
  have hW : Wf n k sz ce := hV.1.2
  have hH : HX M h hs := hV.2.1
  have hIM : IMx M im := hV.2.2.1
  have hS : SX M len tx := hV.2.2.2.1
  have b1 := hW.1
  have b2 := hW.2.1
  have t0 : isT 0 := ⟨rfl, by decide⟩
  have hh8 := hH.1
  have hl3 := hS.1
  refine CT.ofWP (by decide +kernel) (Nat.le_of_ble_eq_true rfl) ?_
  show WP sc0 40 m_X7_back 0 [vR 42, vI x] [] M (PX M (o_back (mkS n k sz ce h hs im len tx) x))
  refine WP.iload_n dX7_back_0 rfl ?_
  refine WP.callSp (as := [vI x]) dX7_back_1 ms_X7_134 rfl (c_X_isImage (by omega)) rfl (Nat.le_of_ble_eq_true rfl) (by omega) ?_
  refine WP.if_ne (tgt := 9) dX7_back_4 (by decide) (bi_rng) (fun h4 => ?_) (fun h4 => ?_)
  · skip
    have q4 := bi_1 h4
    obtain ⟨i, hi0⟩ : ∃ i : Nat, x.toNat = i := ⟨_, rfl⟩
    have hi1 : x = ((i : Nat) : Int) := by omega
    refine WP.fgt (lt := [vR 42, vI ((i : Nat) : Int)]) ⟨Or.inr rfl, Or.inr (congrArg vI (hi1.symm)), trivial⟩ ?_
    refine WP.aload_n dX7_back_9 rfl ?_
    refine WP.getR (y := 46) dX7_back_10 fl_X7_27 (rfl) (by decide) (rfl) ?_
    have hk01 : M 46 i = 0 ∨ M 46 i = 1 := (hIM.get (i := i) (by omega)).elim (fun z => Or.inl z.1) (fun z => Or.inr z.1)
    refine WP.iload_n dX7_back_13 rfl ?_
    refine WP.baload (y := i) (x := (M 46 i)) dX7_back_14 (rfl) (by omega) (by omega) (rfl) ?_
    refine WP.if_ne (tgt := 21) dX7_back_15 (by decide) (by omega) (fun h15 => ?_) (fun h15 => ?_)
    · skip
      obtain ⟨g46, n2, k2, sz2, ce2, gim, gT, gW⟩ := (hIM.get (i := i) (by omega)).resolve_left (fun z => h15 z.1)
      have b3 := gW.1
      have b4 := gW.2.1
      refine WP.aload_n dX7_back_21 rfl ?_
      refine WP.callV (as := []) dX7_back_22 mv_X7_76 rfl (rfl) (by decide) rfl rfl (c_X_record (A := (n, k, sz, ce)) hH hV.1) rfl (Nat.le_of_ble_eq_true rfl) (by omega) (fun r9 M1 h9 => ?_)
      obtain ⟨y8, rfl, hy, hR1, hA1⟩ := h9
      have hT1 : TX M1 0 n k sz ce := hT.fr (hR1.1 0 (by decide) (by decide) (by decide)) (hR1.1 1 (by decide) (by decide) (by decide)) (hR1.1 2 (by decide) (by decide) (by decide))
      have hA2 : TX M1 y8 n k sz ce := hA1.1
      have hyT : isT y8 := by
        obtain ⟨i, hi, e⟩ := hy
        rw [e]
        exact isT_st i hi
      have hy9 : 9 ≤ y8 ∧ y8 < 33 := by
        obtain ⟨i, hi, e⟩ := hy
        omega
      show WP sc0 40 m_X7_back 25 [vR 42, vI ((i : Nat) : Int)] [vR y8] M1 (PX M (o_back (mkS n k sz ce h hs im len tx) x))
      refine WP.pop dX7_back_25 rfl ?_
      refine WP.aload_n dX7_back_26 rfl ?_
      refine WP.getR (y := 0) dX7_back_27 fl_X7_10 (rfl) (by decide) (rfl) ?_
      refine WP.aload_n dX7_back_30 rfl ?_
      refine WP.getR (y := 45) dX7_back_31 fl_X7_23 (rfl) (by decide) (rfl) ?_
      refine WP.iload_n dX7_back_34 rfl ?_
      refine WP.aaload (y := i) (z := (3 + 3 * i)) dX7_back_35 (rfl) (by omega) (by omega) (rfl) ?_
      refine WP.callV (as := [vR (3 + 3 * i)]) dX7_back_36 mv_X7_218 rfl (rfl) (by decide) rfl rfl (c_T_copyFrom (t := 0) (o := 3 + 3 * i) t0 (isT_im (by omega)) (by omega) (gT.fr (hR1.1 _ (by omega) (by omega) (by omega)) (hR1.1 _ (by omega) (by omega) (by omega)) (hR1.1 _ (by omega) (by omega) (by omega))) b3 b4) rfl (Nat.le_of_ble_eq_true rfl) (by omega) (fun r9 M2 h9 => ?_)
      obtain ⟨rfl, e1, e2⟩ := h9
      show WP sc0 40 m_X7_back 39 [vR 42, vI ((i : Nat) : Int)] [] M2 (PX M (o_back (mkS n k sz ce h hs im len tx) x))
      refine WP.aload_n dX7_back_39 rfl ?_
      refine WP.getR (y := 0) dX7_back_40 fl_X7_10 (rfl) (by decide) (rfl) ?_
      refine WP.getI (x := ((n2 : Nat) : Int)) dX7_back_43 fl_X7_73 (rfl) (by decide) (e2.1) ?_
      refine WP.iret dX7_back_46 rfl ?_
      exact PX.ch (A' := (n2, k2, sz2, ce2)) (by subst hi0; exact o_back_s (S := mkS n k sz ce h hs im len tx) q4 gim) hV hR1 (fun a ha => e1 a (by omega) (by omega) (by omega)) (⟨e2, gW⟩)
    · skip
      have gim : im i = none := (hIM.get (i := i) (by omega)).elim (fun z => z.2) (fun z => absurd z.1 (by omega))
      refine WP.bipush dX7_back_18 (by decide) ?_
      refine WP.iret dX7_back_20 rfl ?_
      exact PX.same (by subst hi0; exact o_back_n (S := mkS n k sz ce h hs im len tx) q4 gim) hV
  · skip
    have q4 := bi_0 h4
    refine WP.iconst dX7_back_7 ?_
    refine WP.iret dX7_back_8 rfl ?_
    exact PX.same (cif_f q4) hV
set_option maxHeartbeats 4000000 in
set_option maxRecDepth 20000 in
theorem x_replace {M : Mem} {n k h len : Nat} {sz tx : Nat → Nat} {ce : Nat → Nat → Nat} {hs : Nat → AR} {im : Nat → Option AR} (hV : InvX M (mkS n k sz ce h hs im len tx)) {x : Int} (hx : -2147483648 ≤ x ∧ x < 2147483648) {y : Int} (hy : -2147483648 ≤ y ∧ y < 2147483648) : CT 40 m_X7_replace [vR 42, vI x, vI y] M (PX M (o_replace (mkS n k sz ce h hs im len tx) x y)) := by
  have hT : TX M 0 n k sz ce := hV.1.1
  have hW : Wf n k sz ce := hV.1.2
  have hH : HX M h hs := hV.2.1
  have hIM : IMx M im := hV.2.2.1
  have hS : SX M len tx := hV.2.2.2.1
  have b1 := hW.1
  have b2 := hW.2.1
  have t0 : isT 0 := ⟨rfl, by decide⟩
  have hh8 := hH.1
  have hl3 := hS.1
  refine CT.ofWP (by decide +kernel) (Nat.le_of_ble_eq_true rfl) ?_
  show WP sc0 40 m_X7_replace 0 [vR 42, vI x, vI y, vU] [] M (PX M (o_replace (mkS n k sz ce h hs im len tx) x y))
  refine WP.aload_n dX7_replace_0 rfl ?_
  refine WP.getR (y := 0) dX7_replace_1 fl_X7_10 (rfl) (by decide) (rfl) ?_
  refine WP.iload_n dX7_replace_4 rfl ?_
  refine WP.callVp (as := [vI x]) dX7_replace_5 mv_X7_95 rfl (rfl) (by decide) rfl rfl (c_T_hasColumn t0 hT.2.1 (by omega) (by omega)) rfl (Nat.le_of_ble_eq_true rfl) (by omega) ?_
  refine WP.if_eq (tgt := 18) dX7_replace_8 (by decide) (bi_rng) (fun h8 => ?_) (fun h8 => ?_)
  · skip
    have q8 := bi_0 h8
    refine WP.iconst dX7_replace_18 ?_
    refine WP.iret dX7_replace_19 rfl ?_
    exact PX.same (cif_f (fun z => q8 z.1)) hV
  · skip
    have q8 := bi_1 h8
    obtain ⟨c, hc0⟩ : ∃ c : Nat, x.toNat = c := ⟨_, rfl⟩
    have hc1 : x = ((c : Nat) : Int) := by omega
    refine WP.fgt (lt := [vR 42, vI ((c : Nat) : Int), vI y, vU]) ⟨Or.inr rfl, Or.inr (congrArg vI (hc1.symm)), Or.inr rfl, Or.inl rfl, trivial⟩ ?_
    refine WP.iload_n dX7_replace_11 rfl ?_
    refine WP.callSp (as := [vI y]) dX7_replace_12 ms_X7_134 rfl (c_X_isImage (by omega)) rfl (Nat.le_of_ble_eq_true rfl) (by omega) ?_
    refine WP.if_ne (tgt := 20) dX7_replace_15 (by decide) (bi_rng) (fun h15 => ?_) (fun h15 => ?_)
    · skip
      have q15 := bi_1 h15
      obtain ⟨i, hi0⟩ : ∃ i : Nat, y.toNat = i := ⟨_, rfl⟩
      have hi1 : y = ((i : Nat) : Int) := by omega
      refine WP.fgt (lt := [vR 42, vI ((c : Nat) : Int), vI ((i : Nat) : Int), vU]) ⟨Or.inr rfl, Or.inr rfl, Or.inr (congrArg vI (hi1.symm)), Or.inl rfl, trivial⟩ ?_
      refine WP.aload_n dX7_replace_20 rfl ?_
      refine WP.getR (y := 46) dX7_replace_21 fl_X7_27 (rfl) (by decide) (rfl) ?_
      have hk01 : M 46 i = 0 ∨ M 46 i = 1 := (hIM.get (i := i) (by omega)).elim (fun z => Or.inl z.1) (fun z => Or.inr z.1)
      refine WP.iload_n dX7_replace_24 rfl ?_
      refine WP.baload (y := i) (x := (M 46 i)) dX7_replace_25 (rfl) (by omega) (by omega) (rfl) ?_
      refine WP.if_eq (tgt := 50) dX7_replace_26 (by decide) (by omega) (fun h26 => ?_) (fun h26 => ?_)
      · skip
        have gim : im i = none := (hIM.get (i := i) (by omega)).elim (fun z => z.2) (fun z => absurd z.1 (by omega))
        refine WP.bipush dX7_replace_50 (by decide) ?_
        refine WP.iret dX7_replace_52 rfl ?_
        exact PX.same (by
          subst hc0
          subst hi0
          first
          | exact o_replace_n (S := mkS n k sz ce h hs im len tx) ⟨q8, q15⟩ gim
          | exact (o_replace_s (S := mkS n k sz ce h hs im len tx) ⟨q8, q15⟩ gim).trans (if_pos (show ¬ n2 = sz x.toNat by omega))) hV
      · skip
        obtain ⟨g46, n2, k2, sz2, ce2, gim, gT, gW⟩ := (hIM.get (i := i) (by omega)).resolve_left (fun z => h26 z.1)
        have b3 := gW.1
        have b4 := gW.2.1
        have w1 := hW.2.2.1 c (by omega)
        refine WP.aload_n dX7_replace_29 rfl ?_
        refine WP.getR (y := 45) dX7_replace_30 fl_X7_23 (rfl) (by decide) (rfl) ?_
        refine WP.iload_n dX7_replace_33 rfl ?_
        refine WP.aaload (y := i) (z := (3 + 3 * i)) dX7_replace_34 (rfl) (by omega) (by omega) (rfl) ?_
        refine WP.getI (x := ((n2 : Nat) : Int)) dX7_replace_35 fl_X7_73 (shT0 (isT_im (i := i) (by omega))) (by decide) (gT.1) ?_
        refine WP.aload_n dX7_replace_38 rfl ?_
        refine WP.getR (y := 0) dX7_replace_39 fl_X7_10 (rfl) (by decide) (rfl) ?_
        refine WP.getR (y := 1) dX7_replace_42 fl_X7_104 (rfl) (by decide) (rfl) ?_
        refine WP.iload_n dX7_replace_45 rfl ?_
        refine WP.iaload (y := c) (x := ((sz c : Nat) : Int)) dX7_replace_46 (rfl) (by omega) (by omega) (hT.2.2.1 c (by omega)) ?_
        refine WP.icmp_eq (tgt := 53) dX7_replace_47 (by decide) (by omega) (by omega) (fun h47 => ?_) (fun h47 => ?_)
        · skip
          refine WP.aload_n dX7_replace_53 rfl ?_
          refine WP.getR (y := 0) dX7_replace_54 fl_X7_10 (rfl) (by decide) (rfl) ?_
          refine WP.getI (x := ((k : Nat) : Int)) dX7_replace_57 fl_X7_88 (rfl) (by decide) (hT.2.1) ?_
          refine WP.iconst dX7_replace_60 ?_
          refine WP.isub dX7_replace_61 ?_
          refine WP.aload_n dX7_replace_62 rfl ?_
          refine WP.getR (y := 45) dX7_replace_63 fl_X7_23 (rfl) (by decide) (rfl) ?_
          refine WP.iload_n dX7_replace_66 rfl ?_
          refine WP.aaload (y := i) (z := (3 + 3 * i)) dX7_replace_67 (rfl) (by omega) (by omega) (rfl) ?_
          refine WP.getI (x := ((k2 : Nat) : Int)) dX7_replace_68 fl_X7_88 (shT0 (isT_im (i := i) (by omega))) (by decide) (gT.2.1) ?_
          refine WP.iadd dX7_replace_71 ?_
          refine WP.bipush dX7_replace_72 (by decide) ?_
          refine WP.icmp_le (tgt := 80) dX7_replace_74 (by decide) (by omega) (by omega) (fun h74 => ?_) (fun h74 => ?_)
          · skip
            refine WP.aload_n dX7_replace_80 rfl ?_
            refine WP.callV (as := []) dX7_replace_81 mv_X7_76 rfl (rfl) (by decide) rfl rfl (c_X_record (A := (n, k, sz, ce)) hH hV.1) rfl (Nat.le_of_ble_eq_true rfl) (by omega) (fun r9 M1 h9 => ?_)
            obtain ⟨y8, rfl, hy, hR1, hA1⟩ := h9
            have hT1 : TX M1 0 n k sz ce := hT.fr (hR1.1 0 (by decide) (by decide) (by decide)) (hR1.1 1 (by decide) (by decide) (by decide)) (hR1.1 2 (by decide) (by decide) (by decide))
            have hA2 : TX M1 y8 n k sz ce := hA1.1
            have hyT : isT y8 := by
              obtain ⟨i, hi, e⟩ := hy
              rw [e]
              exact isT_st i hi
            have hy9 : 9 ≤ y8 ∧ y8 < 33 := by
              obtain ⟨i, hi, e⟩ := hy
              omega
            show WP sc0 40 m_X7_replace 84 [vR 42, vI ((c : Nat) : Int), vI ((i : Nat) : Int), vU] [vR y8] M1 (PX M (o_replace (mkS n k sz ce h hs im len tx) x y))
            refine WP.astore_n (lt := [vR 42, vI ((c : Nat) : Int), vI ((i : Nat) : Int), vR y8]) dX7_replace_84 (by decide) rfl ?_
            refine WP.aload_n dX7_replace_85 rfl ?_
            refine WP.getR (y := 0) dX7_replace_86 fl_X7_10 (rfl) (by decide) (rfl) ?_
            refine WP.aload_n dX7_replace_89 rfl ?_
            refine WP.iload_n dX7_replace_90 rfl ?_
            refine WP.aload_n dX7_replace_91 rfl ?_
            refine WP.getR (y := 45) dX7_replace_92 fl_X7_23 (rfl) (by decide) (rfl) ?_
            refine WP.iload_n dX7_replace_95 rfl ?_
            refine WP.aaload (y := i) (z := (3 + 3 * i)) dX7_replace_96 (rfl) (by omega) (by omega) (rfl) ?_
            refine WP.callV (as := [vR y8, vI ((c : Nat) : Int), vR (3 + 3 * i)]) dX7_replace_97 mv_X7_137 rfl (rfl) (by decide) rfl rfl (c_T_becomeReplaced (t := 0) (o := y8) (im := 3 + 3 * i) (c := c) t0 hyT (isT_im (by omega)) (by omega) (by omega) hA2 hW (gT.fr (hR1.1 _ (by omega) (by omega) (by omega)) (hR1.1 _ (by omega) (by omega) (by omega)) (hR1.1 _ (by omega) (by omega) (by omega))) b1 b2 (by omega) (by omega) b3 (by omega)) rfl (Nat.le_of_ble_eq_true rfl) (by omega) (fun r9 M2 h9 => ?_)
            obtain ⟨rfl, e1, e2⟩ := h9
            show WP sc0 40 m_X7_replace 100 [vR 42, vI ((c : Nat) : Int), vI ((i : Nat) : Int), vR y8] [] M2 (PX M (o_replace (mkS n k sz ce h hs im len tx) x y))
            refine WP.aload_n dX7_replace_100 rfl ?_
            refine WP.getR (y := 0) dX7_replace_101 fl_X7_10 (rfl) (by decide) (rfl) ?_
            refine WP.getI (x := ((k - 1 + k2 : Nat) : Int)) dX7_replace_104 fl_X7_88 (rfl) (by decide) (e2.2.1) ?_
            refine WP.iret dX7_replace_107 rfl ?_
            exact PX.ch (A' := (n, k - 1 + k2, rpS sz sz2 c k2, rpC ce ce2 c k2)) (by subst hc0; subst hi0; exact (o_replace_s (S := mkS n k sz ce h hs im len tx) ⟨q8, q15⟩ gim).trans ((if_neg (show ¬ ¬ n2 = sz x.toNat by omega)).trans (if_neg (show ¬ 7 < k - 1 + k2 by omega)))) hV hR1 (fun a ha => e1 a (by omega) (by omega) (by omega)) (⟨e2, Wf_rp hW gW (by omega) (by omega) (by omega)⟩)
          · skip
            refine WP.bipush dX7_replace_77 (by decide) ?_
            refine WP.iret dX7_replace_79 rfl ?_
            exact PX.same (by subst hc0; subst hi0; exact (o_replace_s (S := mkS n k sz ce h hs im len tx) ⟨q8, q15⟩ gim).trans ((if_neg (show ¬ ¬ n2 = sz x.toNat by omega)).trans (if_pos (show 7 < k - 1 + k2 by omega)))) hV
        · skip
          refine WP.bipush dX7_replace_50 (by decide) ?_
          refine WP.iret dX7_replace_52 rfl ?_
          exact PX.same (by
            subst hc0
            subst hi0
            first
            | exact o_replace_n (S := mkS n k sz ce h hs im len tx) ⟨q8, q15⟩ gim
            | exact (o_replace_s (S := mkS n k sz ce h hs im len tx) ⟨q8, q15⟩ gim).trans (if_pos (show ¬ n2 = sz x.toNat by omega))) hV
    · skip
      have q15 := bi_0 h15
      refine WP.iconst dX7_replace_18 ?_
      refine WP.iret dX7_replace_19 rfl ?_
      exact PX.same (cif_f (fun z => q15 z.2)) hV
set_option maxHeartbeats 4000000 in
set_option maxRecDepth 20000 in
theorem x_develop {M : Mem} {n k h len : Nat} {sz tx : Nat → Nat} {ce : Nat → Nat → Nat} {hs : Nat → AR} {im : Nat → Option AR} (hV : InvX M (mkS n k sz ce h hs im len tx))  : CT 40 m_X7_develop [vR 42] M (PX M (o_develop (mkS n k sz ce h hs im len tx) )) := by
  have hT : TX M 0 n k sz ce := hV.1.1
  have hW : Wf n k sz ce := hV.1.2
  have hH : HX M h hs := hV.2.1
  have hIM : IMx M im := hV.2.2.1
  have hS : SX M len tx := hV.2.2.2.1
  have b1 := hW.1
  have b2 := hW.2.1
  have t0 : isT 0 := ⟨rfl, by decide⟩
  have hh8 := hH.1
  have hl3 := hS.1
  refine CT.ofWP (by decide +kernel) (Nat.le_of_ble_eq_true rfl) ?_
  show WP sc0 40 m_X7_develop 0 [vR 42, vU, vU] [] M (PX M (o_develop (mkS n k sz ce h hs im len tx) ))
  refine WP.aload_n dX7_develop_0 rfl ?_
  refine WP.getR (y := 0) dX7_develop_1 fl_X7_10 (rfl) (by decide) (rfl) ?_
  refine WP.getI (x := ((n : Nat) : Int)) dX7_develop_4 fl_X7_73 (rfl) (by decide) (hT.1) ?_
  refine WP.if_eq (tgt := 20) dX7_develop_7 (by decide) (by omega) (fun h7 => ?_) (fun h7 => ?_)
  · skip
    refine WP.bipush dX7_develop_20 (by decide) ?_
    refine WP.iret dX7_develop_22 rfl ?_
    exact PX.same (cif_t (by first
      | exact Or.inl (show n = 0 by omega)
      | exact Or.inr q17)) hV
  · skip
    refine WP.aload_n dX7_develop_10 rfl ?_
    refine WP.getR (y := 0) dX7_develop_11 fl_X7_10 (rfl) (by decide) (rfl) ?_
    refine WP.callVp (as := []) dX7_develop_14 mv_X7_141 rfl (rfl) (by decide) rfl rfl (c_T_isScheme t0 hT hW) rfl (Nat.le_of_ble_eq_true rfl) (by omega) ?_
    refine WP.if_ne (tgt := 23) dX7_develop_17 (by decide) (bi_rng) (fun h17 => ?_) (fun h17 => ?_)
    · skip
      have q17 := bi_1 h17
      have hn0 : ¬ n = 0 := by omega
      have hno : ¬ (n = 0 ∨ ¬ sch n k sz ce) := fun z => z.elim hn0 (fun q => q q17)
      have w1 := hW.2.2.1 0 q17.1
      refine WP.aload_n dX7_develop_23 rfl ?_
      refine WP.getR (y := 0) dX7_develop_24 fl_X7_10 (rfl) (by decide) (rfl) ?_
      refine WP.getI (x := ((n : Nat) : Int)) dX7_develop_27 fl_X7_73 (rfl) (by decide) (hT.1) ?_
      refine WP.iconst dX7_develop_30 ?_
      refine WP.icmp_lt (tgt := 50) dX7_develop_31 (by decide) (by omega) (by omega) (fun h31 => ?_) (fun h31 => ?_)
      · skip
        refine WP.iconst dX7_develop_50 ?_
        have hdv : dvm n = 0 := if_neg (by omega)
        refine WP.eqs (st' := [vI ((dvm n : Nat) : Int)]) rfl (lc (congrArg vI (by rw [hdv]; rfl)) rfl) ?_
        refine WP.istore_n (lt := [vR 42, vI ((dvm n : Nat) : Int), vU]) dX7_develop_51 (by decide) rfl ?_
        refine WP.aload_n dX7_develop_52 rfl ?_
        refine WP.getR (y := 0) dX7_develop_53 fl_X7_10 (rfl) (by decide) (rfl) ?_
        refine WP.getI (x := ((n : Nat) : Int)) dX7_develop_56 fl_X7_73 (rfl) (by decide) (hT.1) ?_
        refine WP.aload_n dX7_develop_59 rfl ?_
        refine WP.getR (y := 0) dX7_develop_60 fl_X7_10 (rfl) (by decide) (rfl) ?_
        refine WP.getR (y := 1) dX7_develop_63 fl_X7_104 (rfl) (by decide) (rfl) ?_
        refine WP.iconst dX7_develop_66 ?_
        refine WP.iaload (y := 0) (x := ((sz 0 : Nat) : Int)) dX7_develop_67 (rfl) (by omega) (by omega) (hT.2.2.1 0 q17.1) ?_
        refine WP.imul dX7_develop_68 ?_
        refine WP.eqs (st' := [vI ((n * sz 0 : Nat) : Int)]) rfl (lc (congrArg vI (by rw [Int.natCast_mul])) rfl) ?_
        have w2 : n * sz 0 ≤ 36 * 6 := Nat.mul_le_mul b1 w1.2
        refine WP.bipush dX7_develop_69 (by decide) ?_
        refine WP.icmp_gt (tgt := 88) dX7_develop_71 (by decide) (by omega) (by omega) (fun h71 => ?_) (fun h71 => ?_)
        · skip
          refine WP.bipush dX7_develop_88 (by decide) ?_
          refine WP.iret dX7_develop_90 rfl ?_
          exact PX.same ((cif_f hno).trans (if_pos (show 36 < n * sz 0 ∨ 7 < k + dvm n by omega))) hV
        · skip
          refine WP.aload_n dX7_develop_74 rfl ?_
          refine WP.getR (y := 0) dX7_develop_75 fl_X7_10 (rfl) (by decide) (rfl) ?_
          refine WP.getI (x := ((k : Nat) : Int)) dX7_develop_78 fl_X7_88 (rfl) (by decide) (hT.2.1) ?_
          refine WP.iload_n dX7_develop_81 rfl ?_
          refine WP.iadd dX7_develop_82 ?_
          refine WP.bipush dX7_develop_83 (by decide) ?_
          refine WP.icmp_le (tgt := 91) dX7_develop_85 (by decide) (by omega) (by omega) (fun h85 => ?_) (fun h85 => ?_)
          · skip
            refine WP.aload_n dX7_develop_91 rfl ?_
            refine WP.callV (as := []) dX7_develop_92 mv_X7_76 rfl (rfl) (by decide) rfl rfl (c_X_record (A := (n, k, sz, ce)) hH hV.1) rfl (Nat.le_of_ble_eq_true rfl) (by omega) (fun r9 M1 h9 => ?_)
            obtain ⟨y8, rfl, hy, hR1, hA1⟩ := h9
            have hT1 : TX M1 0 n k sz ce := hT.fr (hR1.1 0 (by decide) (by decide) (by decide)) (hR1.1 1 (by decide) (by decide) (by decide)) (hR1.1 2 (by decide) (by decide) (by decide))
            have hA2 : TX M1 y8 n k sz ce := hA1.1
            have hyT : isT y8 := by
              obtain ⟨i, hi, e⟩ := hy
              rw [e]
              exact isT_st i hi
            have hy9 : 9 ≤ y8 ∧ y8 < 33 := by
              obtain ⟨i, hi, e⟩ := hy
              omega
            show WP sc0 40 m_X7_develop 95 [vR 42, vI ((dvm n : Nat) : Int), vU] [vR y8] M1 (PX M (o_develop (mkS n k sz ce h hs im len tx) ))
            refine WP.astore_n (lt := [vR 42, vI ((dvm n : Nat) : Int), vR y8]) dX7_develop_95 (by decide) rfl ?_
            refine WP.aload_n dX7_develop_96 rfl ?_
            refine WP.getR (y := 0) dX7_develop_97 fl_X7_10 (rfl) (by decide) (rfl) ?_
            refine WP.aload_n dX7_develop_100 rfl ?_
            refine WP.iload_n dX7_develop_101 rfl ?_
            refine WP.iconst dX7_develop_102 ?_
            refine WP.icmp_ne (tgt := 110) dX7_develop_103 (by decide) (by omega) (by omega) (fun h103 => ?_) (fun h103 => ?_)
            · skip
              refine WP.iconst dX7_develop_110 ?_
              refine WP.callV (as := [vR y8, vI (0 : Int)]) dX7_develop_111 mv_X7_145 rfl (rfl) (by decide) rfl rfl (c_T_becomeDeveloped (t := 0) (o := y8) (m := dvm n) (x := (0 : Int)) t0 hyT (by omega) hA2 hW rfl q17.2.1 q17.1 (by omega) b1 (by omega) (by omega) (by omega)) rfl (Nat.le_of_ble_eq_true rfl) (by omega) (fun r9 M2 h9 => ?_)
              obtain ⟨rfl, e1, e2⟩ := h9
              show WP sc0 40 m_X7_develop 114 [vR 42, vI ((dvm n : Nat) : Int), vR y8] [] M2 (PX M (o_develop (mkS n k sz ce h hs im len tx) ))
              refine WP.aload_n dX7_develop_114 rfl ?_
              refine WP.getR (y := 0) dX7_develop_115 fl_X7_10 (rfl) (by decide) (rfl) ?_
              refine WP.getI (x := ((n * sz 0 : Nat) : Int)) dX7_develop_118 fl_X7_73 (rfl) (by decide) (e2.1) ?_
              refine WP.iret dX7_develop_121 rfl ?_
              exact PX.ch (A' := (n * sz 0, k + dvm n, dvS sz k n, dvC ce k (sz 0))) ((cif_f hno).trans (if_neg (show ¬ (36 < n * sz 0 ∨ 7 < k + dvm n) by omega))) hV hR1 (fun a ha => e1 a (by omega) (by omega) (by omega)) (⟨e2, Wf_dv hW q17.1 (show n * sz 0 ≤ 36 by omega) rfl (by omega)⟩)
            · skip
              refine WP.iconst dX7_develop_106 ?_
              refine WP.goto (tgt := 111) dX7_develop_107 (by decide) ?_
              refine WP.callV (as := [vR y8, vI (1 : Int)]) dX7_develop_111 mv_X7_145 rfl (rfl) (by decide) rfl rfl (c_T_becomeDeveloped (t := 0) (o := y8) (m := dvm n) (x := (1 : Int)) t0 hyT (by omega) hA2 hW rfl q17.2.1 q17.1 (by omega) b1 (by omega) (by omega) (by omega)) rfl (Nat.le_of_ble_eq_true rfl) (by omega) (fun r9 M2 h9 => ?_)
              obtain ⟨rfl, e1, e2⟩ := h9
              show WP sc0 40 m_X7_develop 114 [vR 42, vI ((dvm n : Nat) : Int), vR y8] [] M2 (PX M (o_develop (mkS n k sz ce h hs im len tx) ))
              refine WP.aload_n dX7_develop_114 rfl ?_
              refine WP.getR (y := 0) dX7_develop_115 fl_X7_10 (rfl) (by decide) (rfl) ?_
              refine WP.getI (x := ((n * sz 0 : Nat) : Int)) dX7_develop_118 fl_X7_73 (rfl) (by decide) (e2.1) ?_
              refine WP.iret dX7_develop_121 rfl ?_
              exact PX.ch (A' := (n * sz 0, k + dvm n, dvS sz k n, dvC ce k (sz 0))) ((cif_f hno).trans (if_neg (show ¬ (36 < n * sz 0 ∨ 7 < k + dvm n) by omega))) hV hR1 (fun a ha => e1 a (by omega) (by omega) (by omega)) (⟨e2, Wf_dv hW q17.1 (show n * sz 0 ≤ 36 by omega) rfl (by omega)⟩)
          · skip
            refine WP.bipush dX7_develop_88 (by decide) ?_
            refine WP.iret dX7_develop_90 rfl ?_
            exact PX.same ((cif_f hno).trans (if_pos (show 36 < n * sz 0 ∨ 7 < k + dvm n by omega))) hV
      · skip
        refine WP.aload_n dX7_develop_34 rfl ?_
        refine WP.getR (y := 0) dX7_develop_35 fl_X7_10 (rfl) (by decide) (rfl) ?_
        refine WP.getI (x := ((n : Nat) : Int)) dX7_develop_38 fl_X7_73 (rfl) (by decide) (hT.1) ?_
        refine WP.bipush dX7_develop_41 (by decide) ?_
        refine WP.icmp_gt (tgt := 50) dX7_develop_43 (by decide) (by omega) (by omega) (fun h43 => ?_) (fun h43 => ?_)
        · skip
          refine WP.iconst dX7_develop_50 ?_
          have hdv : dvm n = 0 := if_neg (by omega)
          refine WP.eqs (st' := [vI ((dvm n : Nat) : Int)]) rfl (lc (congrArg vI (by rw [hdv]; rfl)) rfl) ?_
          refine WP.istore_n (lt := [vR 42, vI ((dvm n : Nat) : Int), vU]) dX7_develop_51 (by decide) rfl ?_
          refine WP.aload_n dX7_develop_52 rfl ?_
          refine WP.getR (y := 0) dX7_develop_53 fl_X7_10 (rfl) (by decide) (rfl) ?_
          refine WP.getI (x := ((n : Nat) : Int)) dX7_develop_56 fl_X7_73 (rfl) (by decide) (hT.1) ?_
          refine WP.aload_n dX7_develop_59 rfl ?_
          refine WP.getR (y := 0) dX7_develop_60 fl_X7_10 (rfl) (by decide) (rfl) ?_
          refine WP.getR (y := 1) dX7_develop_63 fl_X7_104 (rfl) (by decide) (rfl) ?_
          refine WP.iconst dX7_develop_66 ?_
          refine WP.iaload (y := 0) (x := ((sz 0 : Nat) : Int)) dX7_develop_67 (rfl) (by omega) (by omega) (hT.2.2.1 0 q17.1) ?_
          refine WP.imul dX7_develop_68 ?_
          refine WP.eqs (st' := [vI ((n * sz 0 : Nat) : Int)]) rfl (lc (congrArg vI (by rw [Int.natCast_mul])) rfl) ?_
          have w2 : n * sz 0 ≤ 36 * 6 := Nat.mul_le_mul b1 w1.2
          refine WP.bipush dX7_develop_69 (by decide) ?_
          refine WP.icmp_gt (tgt := 88) dX7_develop_71 (by decide) (by omega) (by omega) (fun h71 => ?_) (fun h71 => ?_)
          · skip
            refine WP.bipush dX7_develop_88 (by decide) ?_
            refine WP.iret dX7_develop_90 rfl ?_
            exact PX.same ((cif_f hno).trans (if_pos (show 36 < n * sz 0 ∨ 7 < k + dvm n by omega))) hV
          · skip
            refine WP.aload_n dX7_develop_74 rfl ?_
            refine WP.getR (y := 0) dX7_develop_75 fl_X7_10 (rfl) (by decide) (rfl) ?_
            refine WP.getI (x := ((k : Nat) : Int)) dX7_develop_78 fl_X7_88 (rfl) (by decide) (hT.2.1) ?_
            refine WP.iload_n dX7_develop_81 rfl ?_
            refine WP.iadd dX7_develop_82 ?_
            refine WP.bipush dX7_develop_83 (by decide) ?_
            refine WP.icmp_le (tgt := 91) dX7_develop_85 (by decide) (by omega) (by omega) (fun h85 => ?_) (fun h85 => ?_)
            · skip
              refine WP.aload_n dX7_develop_91 rfl ?_
              refine WP.callV (as := []) dX7_develop_92 mv_X7_76 rfl (rfl) (by decide) rfl rfl (c_X_record (A := (n, k, sz, ce)) hH hV.1) rfl (Nat.le_of_ble_eq_true rfl) (by omega) (fun r9 M1 h9 => ?_)
              obtain ⟨y8, rfl, hy, hR1, hA1⟩ := h9
              have hT1 : TX M1 0 n k sz ce := hT.fr (hR1.1 0 (by decide) (by decide) (by decide)) (hR1.1 1 (by decide) (by decide) (by decide)) (hR1.1 2 (by decide) (by decide) (by decide))
              have hA2 : TX M1 y8 n k sz ce := hA1.1
              have hyT : isT y8 := by
                obtain ⟨i, hi, e⟩ := hy
                rw [e]
                exact isT_st i hi
              have hy9 : 9 ≤ y8 ∧ y8 < 33 := by
                obtain ⟨i, hi, e⟩ := hy
                omega
              show WP sc0 40 m_X7_develop 95 [vR 42, vI ((dvm n : Nat) : Int), vU] [vR y8] M1 (PX M (o_develop (mkS n k sz ce h hs im len tx) ))
              refine WP.astore_n (lt := [vR 42, vI ((dvm n : Nat) : Int), vR y8]) dX7_develop_95 (by decide) rfl ?_
              refine WP.aload_n dX7_develop_96 rfl ?_
              refine WP.getR (y := 0) dX7_develop_97 fl_X7_10 (rfl) (by decide) (rfl) ?_
              refine WP.aload_n dX7_develop_100 rfl ?_
              refine WP.iload_n dX7_develop_101 rfl ?_
              refine WP.iconst dX7_develop_102 ?_
              refine WP.icmp_ne (tgt := 110) dX7_develop_103 (by decide) (by omega) (by omega) (fun h103 => ?_) (fun h103 => ?_)
              · skip
                refine WP.iconst dX7_develop_110 ?_
                refine WP.callV (as := [vR y8, vI (0 : Int)]) dX7_develop_111 mv_X7_145 rfl (rfl) (by decide) rfl rfl (c_T_becomeDeveloped (t := 0) (o := y8) (m := dvm n) (x := (0 : Int)) t0 hyT (by omega) hA2 hW rfl q17.2.1 q17.1 (by omega) b1 (by omega) (by omega) (by omega)) rfl (Nat.le_of_ble_eq_true rfl) (by omega) (fun r9 M2 h9 => ?_)
                obtain ⟨rfl, e1, e2⟩ := h9
                show WP sc0 40 m_X7_develop 114 [vR 42, vI ((dvm n : Nat) : Int), vR y8] [] M2 (PX M (o_develop (mkS n k sz ce h hs im len tx) ))
                refine WP.aload_n dX7_develop_114 rfl ?_
                refine WP.getR (y := 0) dX7_develop_115 fl_X7_10 (rfl) (by decide) (rfl) ?_
                refine WP.getI (x := ((n * sz 0 : Nat) : Int)) dX7_develop_118 fl_X7_73 (rfl) (by decide) (e2.1) ?_
                refine WP.iret dX7_develop_121 rfl ?_
                exact PX.ch (A' := (n * sz 0, k + dvm n, dvS sz k n, dvC ce k (sz 0))) ((cif_f hno).trans (if_neg (show ¬ (36 < n * sz 0 ∨ 7 < k + dvm n) by omega))) hV hR1 (fun a ha => e1 a (by omega) (by omega) (by omega)) (⟨e2, Wf_dv hW q17.1 (show n * sz 0 ≤ 36 by omega) rfl (by omega)⟩)
              · skip
                refine WP.iconst dX7_develop_106 ?_
                refine WP.goto (tgt := 111) dX7_develop_107 (by decide) ?_
                refine WP.callV (as := [vR y8, vI (1 : Int)]) dX7_develop_111 mv_X7_145 rfl (rfl) (by decide) rfl rfl (c_T_becomeDeveloped (t := 0) (o := y8) (m := dvm n) (x := (1 : Int)) t0 hyT (by omega) hA2 hW rfl q17.2.1 q17.1 (by omega) b1 (by omega) (by omega) (by omega)) rfl (Nat.le_of_ble_eq_true rfl) (by omega) (fun r9 M2 h9 => ?_)
                obtain ⟨rfl, e1, e2⟩ := h9
                show WP sc0 40 m_X7_develop 114 [vR 42, vI ((dvm n : Nat) : Int), vR y8] [] M2 (PX M (o_develop (mkS n k sz ce h hs im len tx) ))
                refine WP.aload_n dX7_develop_114 rfl ?_
                refine WP.getR (y := 0) dX7_develop_115 fl_X7_10 (rfl) (by decide) (rfl) ?_
                refine WP.getI (x := ((n * sz 0 : Nat) : Int)) dX7_develop_118 fl_X7_73 (rfl) (by decide) (e2.1) ?_
                refine WP.iret dX7_develop_121 rfl ?_
                exact PX.ch (A' := (n * sz 0, k + dvm n, dvS sz k n, dvC ce k (sz 0))) ((cif_f hno).trans (if_neg (show ¬ (36 < n * sz 0 ∨ 7 < k + dvm n) by omega))) hV hR1 (fun a ha => e1 a (by omega) (by omega) (by omega)) (⟨e2, Wf_dv hW q17.1 (show n * sz 0 ≤ 36 by omega) rfl (by omega)⟩)
            · skip
              refine WP.bipush dX7_develop_88 (by decide) ?_
              refine WP.iret dX7_develop_90 rfl ?_
              exact PX.same ((cif_f hno).trans (if_pos (show 36 < n * sz 0 ∨ 7 < k + dvm n by omega))) hV
        · skip
          refine WP.iconst dX7_develop_46 ?_
          refine WP.goto (tgt := 51) dX7_develop_47 (by decide) ?_
          have hdv : dvm n = 1 := if_pos (by omega)
          refine WP.eqs (st' := [vI ((dvm n : Nat) : Int)]) rfl (lc (congrArg vI (by rw [hdv]; rfl)) rfl) ?_
          refine WP.istore_n (lt := [vR 42, vI ((dvm n : Nat) : Int), vU]) dX7_develop_51 (by decide) rfl ?_
          refine WP.aload_n dX7_develop_52 rfl ?_
          refine WP.getR (y := 0) dX7_develop_53 fl_X7_10 (rfl) (by decide) (rfl) ?_
          refine WP.getI (x := ((n : Nat) : Int)) dX7_develop_56 fl_X7_73 (rfl) (by decide) (hT.1) ?_
          refine WP.aload_n dX7_develop_59 rfl ?_
          refine WP.getR (y := 0) dX7_develop_60 fl_X7_10 (rfl) (by decide) (rfl) ?_
          refine WP.getR (y := 1) dX7_develop_63 fl_X7_104 (rfl) (by decide) (rfl) ?_
          refine WP.iconst dX7_develop_66 ?_
          refine WP.iaload (y := 0) (x := ((sz 0 : Nat) : Int)) dX7_develop_67 (rfl) (by omega) (by omega) (hT.2.2.1 0 q17.1) ?_
          refine WP.imul dX7_develop_68 ?_
          refine WP.eqs (st' := [vI ((n * sz 0 : Nat) : Int)]) rfl (lc (congrArg vI (by rw [Int.natCast_mul])) rfl) ?_
          have w2 : n * sz 0 ≤ 36 * 6 := Nat.mul_le_mul b1 w1.2
          refine WP.bipush dX7_develop_69 (by decide) ?_
          refine WP.icmp_gt (tgt := 88) dX7_develop_71 (by decide) (by omega) (by omega) (fun h71 => ?_) (fun h71 => ?_)
          · skip
            refine WP.bipush dX7_develop_88 (by decide) ?_
            refine WP.iret dX7_develop_90 rfl ?_
            exact PX.same ((cif_f hno).trans (if_pos (show 36 < n * sz 0 ∨ 7 < k + dvm n by omega))) hV
          · skip
            refine WP.aload_n dX7_develop_74 rfl ?_
            refine WP.getR (y := 0) dX7_develop_75 fl_X7_10 (rfl) (by decide) (rfl) ?_
            refine WP.getI (x := ((k : Nat) : Int)) dX7_develop_78 fl_X7_88 (rfl) (by decide) (hT.2.1) ?_
            refine WP.iload_n dX7_develop_81 rfl ?_
            refine WP.iadd dX7_develop_82 ?_
            refine WP.bipush dX7_develop_83 (by decide) ?_
            refine WP.icmp_le (tgt := 91) dX7_develop_85 (by decide) (by omega) (by omega) (fun h85 => ?_) (fun h85 => ?_)
            · skip
              refine WP.aload_n dX7_develop_91 rfl ?_
              refine WP.callV (as := []) dX7_develop_92 mv_X7_76 rfl (rfl) (by decide) rfl rfl (c_X_record (A := (n, k, sz, ce)) hH hV.1) rfl (Nat.le_of_ble_eq_true rfl) (by omega) (fun r9 M1 h9 => ?_)
              obtain ⟨y8, rfl, hy, hR1, hA1⟩ := h9
              have hT1 : TX M1 0 n k sz ce := hT.fr (hR1.1 0 (by decide) (by decide) (by decide)) (hR1.1 1 (by decide) (by decide) (by decide)) (hR1.1 2 (by decide) (by decide) (by decide))
              have hA2 : TX M1 y8 n k sz ce := hA1.1
              have hyT : isT y8 := by
                obtain ⟨i, hi, e⟩ := hy
                rw [e]
                exact isT_st i hi
              have hy9 : 9 ≤ y8 ∧ y8 < 33 := by
                obtain ⟨i, hi, e⟩ := hy
                omega
              show WP sc0 40 m_X7_develop 95 [vR 42, vI ((dvm n : Nat) : Int), vU] [vR y8] M1 (PX M (o_develop (mkS n k sz ce h hs im len tx) ))
              refine WP.astore_n (lt := [vR 42, vI ((dvm n : Nat) : Int), vR y8]) dX7_develop_95 (by decide) rfl ?_
              refine WP.aload_n dX7_develop_96 rfl ?_
              refine WP.getR (y := 0) dX7_develop_97 fl_X7_10 (rfl) (by decide) (rfl) ?_
              refine WP.aload_n dX7_develop_100 rfl ?_
              refine WP.iload_n dX7_develop_101 rfl ?_
              refine WP.iconst dX7_develop_102 ?_
              refine WP.icmp_ne (tgt := 110) dX7_develop_103 (by decide) (by omega) (by omega) (fun h103 => ?_) (fun h103 => ?_)
              · skip
                refine WP.iconst dX7_develop_110 ?_
                refine WP.callV (as := [vR y8, vI (0 : Int)]) dX7_develop_111 mv_X7_145 rfl (rfl) (by decide) rfl rfl (c_T_becomeDeveloped (t := 0) (o := y8) (m := dvm n) (x := (0 : Int)) t0 hyT (by omega) hA2 hW rfl q17.2.1 q17.1 (by omega) b1 (by omega) (by omega) (by omega)) rfl (Nat.le_of_ble_eq_true rfl) (by omega) (fun r9 M2 h9 => ?_)
                obtain ⟨rfl, e1, e2⟩ := h9
                show WP sc0 40 m_X7_develop 114 [vR 42, vI ((dvm n : Nat) : Int), vR y8] [] M2 (PX M (o_develop (mkS n k sz ce h hs im len tx) ))
                refine WP.aload_n dX7_develop_114 rfl ?_
                refine WP.getR (y := 0) dX7_develop_115 fl_X7_10 (rfl) (by decide) (rfl) ?_
                refine WP.getI (x := ((n * sz 0 : Nat) : Int)) dX7_develop_118 fl_X7_73 (rfl) (by decide) (e2.1) ?_
                refine WP.iret dX7_develop_121 rfl ?_
                exact PX.ch (A' := (n * sz 0, k + dvm n, dvS sz k n, dvC ce k (sz 0))) ((cif_f hno).trans (if_neg (show ¬ (36 < n * sz 0 ∨ 7 < k + dvm n) by omega))) hV hR1 (fun a ha => e1 a (by omega) (by omega) (by omega)) (⟨e2, Wf_dv hW q17.1 (show n * sz 0 ≤ 36 by omega) rfl (by omega)⟩)
              · skip
                refine WP.iconst dX7_develop_106 ?_
                refine WP.goto (tgt := 111) dX7_develop_107 (by decide) ?_
                refine WP.callV (as := [vR y8, vI (1 : Int)]) dX7_develop_111 mv_X7_145 rfl (rfl) (by decide) rfl rfl (c_T_becomeDeveloped (t := 0) (o := y8) (m := dvm n) (x := (1 : Int)) t0 hyT (by omega) hA2 hW rfl q17.2.1 q17.1 (by omega) b1 (by omega) (by omega) (by omega)) rfl (Nat.le_of_ble_eq_true rfl) (by omega) (fun r9 M2 h9 => ?_)
                obtain ⟨rfl, e1, e2⟩ := h9
                show WP sc0 40 m_X7_develop 114 [vR 42, vI ((dvm n : Nat) : Int), vR y8] [] M2 (PX M (o_develop (mkS n k sz ce h hs im len tx) ))
                refine WP.aload_n dX7_develop_114 rfl ?_
                refine WP.getR (y := 0) dX7_develop_115 fl_X7_10 (rfl) (by decide) (rfl) ?_
                refine WP.getI (x := ((n * sz 0 : Nat) : Int)) dX7_develop_118 fl_X7_73 (rfl) (by decide) (e2.1) ?_
                refine WP.iret dX7_develop_121 rfl ?_
                exact PX.ch (A' := (n * sz 0, k + dvm n, dvS sz k n, dvC ce k (sz 0))) ((cif_f hno).trans (if_neg (show ¬ (36 < n * sz 0 ∨ 7 < k + dvm n) by omega))) hV hR1 (fun a ha => e1 a (by omega) (by omega) (by omega)) (⟨e2, Wf_dv hW q17.1 (show n * sz 0 ≤ 36 by omega) rfl (by omega)⟩)
            · skip
              refine WP.bipush dX7_develop_88 (by decide) ?_
              refine WP.iret dX7_develop_90 rfl ?_
              exact PX.same ((cif_f hno).trans (if_pos (show 36 < n * sz 0 ∨ 7 < k + dvm n by omega))) hV
    · skip
      have q17 := bi_0 h17
      refine WP.bipush dX7_develop_20 (by decide) ?_
      refine WP.iret dX7_develop_22 rfl ?_
      exact PX.same (cif_t (by first
        | exact Or.inl (show n = 0 by omega)
        | exact Or.inr q17)) hV
set_option maxHeartbeats 4000000 in
set_option maxRecDepth 20000 in
theorem x_addSum {M : Mem} {n k h len : Nat} {sz tx : Nat → Nat} {ce : Nat → Nat → Nat} {hs : Nat → AR} {im : Nat → Option AR} (hV : InvX M (mkS n k sz ce h hs im len tx)) {x : Int} (hx : -2147483648 ≤ x ∧ x < 2147483648) {y : Int} (hy : -2147483648 ≤ y ∧ y < 2147483648) {z : Int} (hz : -2147483648 ≤ z ∧ z < 2147483648) {w : Int} (hw : -2147483648 ≤ w ∧ w < 2147483648) : CT 40 m_X7_addSum [vR 42, vI x, vI y, vI z, vI w] M (PX M (o_addSum (mkS n k sz ce h hs im len tx) x y z w)) := by
  have hT : TX M 0 n k sz ce := hV.1.1
  have hW : Wf n k sz ce := hV.1.2
  have hH : HX M h hs := hV.2.1
  have hIM : IMx M im := hV.2.2.1
  have hS : SX M len tx := hV.2.2.2.1
  have b1 := hW.1
  have b2 := hW.2.1
  have t0 : isT 0 := ⟨rfl, by decide⟩
  have hh8 := hH.1
  have hl3 := hS.1
  refine CT.ofWP (by decide +kernel) (Nat.le_of_ble_eq_true rfl) ?_
  show WP sc0 40 m_X7_addSum 0 [vR 42, vI x, vI y, vI z, vI w, vU, vU, vU] [] M (PX M (o_addSum (mkS n k sz ce h hs im len tx) x y z w))
  refine WP.aload_n dX7_addSum_0 rfl ?_
  refine WP.getR (y := 0) dX7_addSum_1 fl_X7_10 (rfl) (by decide) (rfl) ?_
  refine WP.iload_n dX7_addSum_4 rfl ?_
  refine WP.callVp (as := [vI x]) dX7_addSum_5 mv_X7_95 rfl (rfl) (by decide) rfl rfl (c_T_hasColumn t0 hT.2.1 (by omega) (by omega)) rfl (Nat.le_of_ble_eq_true rfl) (by omega) ?_
  refine WP.if_eq (tgt := 43) dX7_addSum_8 (by decide) (bi_rng) (fun h8 => ?_) (fun h8 => ?_)
  · skip
    have q8 := bi_0 h8
    refine WP.iconst dX7_addSum_43 ?_
    refine WP.iret dX7_addSum_44 rfl ?_
    exact PX.same (cif_f (fun z => q8 z.1)) hV
  · skip
    have q8 := bi_1 h8
    obtain ⟨c, hc0⟩ : ∃ c : Nat, x.toNat = c := ⟨_, rfl⟩
    have hc1 : x = ((c : Nat) : Int) := by omega
    refine WP.fgt (lt := [vR 42, vI ((c : Nat) : Int), vI y, vI z, vI w, vU, vU, vU]) ⟨Or.inr rfl, Or.inr (congrArg vI (hc1.symm)), Or.inr rfl, Or.inr rfl, Or.inr rfl, Or.inl rfl, Or.inl rfl, Or.inl rfl, trivial⟩ ?_
    refine WP.aload_n dX7_addSum_11 rfl ?_
    refine WP.getR (y := 0) dX7_addSum_12 fl_X7_10 (rfl) (by decide) (rfl) ?_
    refine WP.iload_n dX7_addSum_15 rfl ?_
    refine WP.callVp (as := [vI z]) dX7_addSum_16 mv_X7_95 rfl (rfl) (by decide) rfl rfl (c_T_hasColumn t0 hT.2.1 (by omega) (by omega)) rfl (Nat.le_of_ble_eq_true rfl) (by omega) ?_
    refine WP.if_eq (tgt := 43) dX7_addSum_19 (by decide) (bi_rng) (fun h19 => ?_) (fun h19 => ?_)
    · skip
      have q19 := bi_0 h19
      refine WP.iconst dX7_addSum_43 ?_
      refine WP.iret dX7_addSum_44 rfl ?_
      exact PX.same (cif_f (fun z => q19 z.2.1)) hV
    · skip
      have q19 := bi_1 h19
      have w1 := hW.2.2.1 c (by omega)
      obtain ⟨b, hb0⟩ : ∃ b : Nat, z.toNat = b := ⟨_, rfl⟩
      have hb1 : z = ((b : Nat) : Int) := by omega
      refine WP.fgt (lt := [vR 42, vI ((c : Nat) : Int), vI y, vI ((b : Nat) : Int), vI w, vU, vU, vU]) ⟨Or.inr rfl, Or.inr rfl, Or.inr rfl, Or.inr (congrArg vI (hb1.symm)), Or.inr rfl, Or.inl rfl, Or.inl rfl, Or.inl rfl, trivial⟩ ?_
      have w2 := hW.2.2.1 b (by omega)
      refine WP.aload_n dX7_addSum_22 rfl ?_
      refine WP.getR (y := 0) dX7_addSum_23 fl_X7_10 (rfl) (by decide) (rfl) ?_
      refine WP.getR (y := 1) dX7_addSum_26 fl_X7_104 (rfl) (by decide) (rfl) ?_
      refine WP.iload_n dX7_addSum_29 rfl ?_
      refine WP.iaload (y := c) (x := ((sz c : Nat) : Int)) dX7_addSum_30 (rfl) (by omega) (by omega) (hT.2.2.1 c (by omega)) ?_
      refine WP.aload_n dX7_addSum_31 rfl ?_
      refine WP.getR (y := 0) dX7_addSum_32 fl_X7_10 (rfl) (by decide) (rfl) ?_
      refine WP.getR (y := 1) dX7_addSum_35 fl_X7_104 (rfl) (by decide) (rfl) ?_
      refine WP.iload_n dX7_addSum_38 rfl ?_
      refine WP.iaload (y := b) (x := ((sz b : Nat) : Int)) dX7_addSum_39 (rfl) (by omega) (by omega) (hT.2.2.1 b (by omega)) ?_
      refine WP.icmp_eq (tgt := 45) dX7_addSum_40 (by decide) (by omega) (by omega) (fun h40 => ?_) (fun h40 => ?_)
      · skip
        refine WP.iload_n dX7_addSum_45 rfl ?_
        refine WP.if_lt (tgt := 65) dX7_addSum_46 (by decide) (by omega) (fun h46 => ?_) (fun h46 => ?_)
        · skip
          refine WP.iconst dX7_addSum_65 ?_
          refine WP.iret dX7_addSum_66 rfl ?_
          exact PX.same (cif_f (fun z => by have z1 := z.2.2.2; omega)) hV
        · skip
          refine WP.iload_n dX7_addSum_49 rfl ?_
          refine WP.iconst dX7_addSum_50 ?_
          refine WP.icmp_gt (tgt := 65) dX7_addSum_51 (by decide) (by omega) (by omega) (fun h51 => ?_) (fun h51 => ?_)
          · skip
            refine WP.iconst dX7_addSum_65 ?_
            refine WP.iret dX7_addSum_66 rfl ?_
            exact PX.same (cif_f (fun z => by have z1 := z.2.2.2; omega)) hV
          · skip
            refine WP.iload dX7_addSum_54 rfl ?_
            refine WP.if_lt (tgt := 65) dX7_addSum_56 (by decide) (by omega) (fun h56 => ?_) (fun h56 => ?_)
            · skip
              refine WP.iconst dX7_addSum_65 ?_
              refine WP.iret dX7_addSum_66 rfl ?_
              exact PX.same (cif_f (fun z => by have z1 := z.2.2.2; omega)) hV
            · skip
              refine WP.iload dX7_addSum_59 rfl ?_
              refine WP.iconst dX7_addSum_61 ?_
              refine WP.icmp_le (tgt := 67) dX7_addSum_62 (by decide) (by omega) (by omega) (fun h62 => ?_) (fun h62 => ?_)
              · skip
                obtain ⟨p, hp0⟩ : ∃ p : Nat, y.toNat = p := ⟨_, rfl⟩
                have hp1 : y = ((p : Nat) : Int) := by omega
                refine WP.fgt (lt := [vR 42, vI ((c : Nat) : Int), vI ((p : Nat) : Int), vI ((b : Nat) : Int), vI w, vU, vU, vU]) ⟨Or.inr rfl, Or.inr rfl, Or.inr (congrArg vI (hp1.symm)), Or.inr rfl, Or.inr rfl, Or.inl rfl, Or.inl rfl, Or.inl rfl, trivial⟩ ?_
                obtain ⟨q, hq0⟩ : ∃ q : Nat, w.toNat = q := ⟨_, rfl⟩
                have hq1 : w = ((q : Nat) : Int) := by omega
                refine WP.fgt (lt := [vR 42, vI ((c : Nat) : Int), vI ((p : Nat) : Int), vI ((b : Nat) : Int), vI ((q : Nat) : Int), vU, vU, vU]) ⟨Or.inr rfl, Or.inr rfl, Or.inr rfl, Or.inr rfl, Or.inr (congrArg vI (hq1.symm)), Or.inl rfl, Or.inl rfl, Or.inl rfl, trivial⟩ ?_
                refine WP.aload_n dX7_addSum_67 rfl ?_
                refine WP.getR (y := 0) dX7_addSum_68 fl_X7_10 (rfl) (by decide) (rfl) ?_
                refine WP.getI (x := ((k : Nat) : Int)) dX7_addSum_71 fl_X7_88 (rfl) (by decide) (hT.2.1) ?_
                refine WP.bipush dX7_addSum_74 (by decide) ?_
                refine WP.icmp_lt (tgt := 82) dX7_addSum_76 (by decide) (by omega) (by omega) (fun h76 => ?_) (fun h76 => ?_)
                · skip
                  refine WP.aload_n dX7_addSum_82 rfl ?_
                  refine WP.callV (as := []) dX7_addSum_83 mv_X7_76 rfl (rfl) (by decide) rfl rfl (c_X_record (A := (n, k, sz, ce)) hH hV.1) rfl (Nat.le_of_ble_eq_true rfl) (by omega) (fun r9 M1 h9 => ?_)
                  obtain ⟨y8, rfl, hy, hR1, hA1⟩ := h9
                  have hT1 : TX M1 0 n k sz ce := hT.fr (hR1.1 0 (by decide) (by decide) (by decide)) (hR1.1 1 (by decide) (by decide) (by decide)) (hR1.1 2 (by decide) (by decide) (by decide))
                  have hA2 : TX M1 y8 n k sz ce := hA1.1
                  have hyT : isT y8 := by
                    obtain ⟨i, hi, e⟩ := hy
                    rw [e]
                    exact isT_st i hi
                  have hy9 : 9 ≤ y8 ∧ y8 < 33 := by
                    obtain ⟨i, hi, e⟩ := hy
                    omega
                  show WP sc0 40 m_X7_addSum 86 [vR 42, vI ((c : Nat) : Int), vI ((p : Nat) : Int), vI ((b : Nat) : Int), vI ((q : Nat) : Int), vU, vU, vU] [vR y8] M1 (PX M (o_addSum (mkS n k sz ce h hs im len tx) x y z w))
                  refine WP.pop dX7_addSum_86 rfl ?_
                  refine WP.aload_n dX7_addSum_87 rfl ?_
                  refine WP.getR (y := 0) dX7_addSum_88 fl_X7_10 (rfl) (by decide) (rfl) ?_
                  refine WP.getR (y := 1) dX7_addSum_91 fl_X7_104 (rfl) (by decide) (rfl) ?_
                  refine WP.iload_n dX7_addSum_94 rfl ?_
                  refine WP.iaload (y := c) (x := ((sz c : Nat) : Int)) dX7_addSum_95 (rfl) (by omega) (by omega) (hT1.2.2.1 c (by omega)) ?_
                  refine WP.istore (lt := [vR 42, vI ((c : Nat) : Int), vI ((p : Nat) : Int), vI ((b : Nat) : Int), vI ((q : Nat) : Int), vI ((sz c : Nat) : Int), vU, vU]) dX7_addSum_96 (by decide) rfl ?_
                  refine WP.aload_n dX7_addSum_98 rfl ?_
                  refine WP.getR (y := 0) dX7_addSum_99 fl_X7_10 (rfl) (by decide) (rfl) ?_
                  refine WP.iload dX7_addSum_102 rfl ?_
                  refine WP.callV (as := [vI ((sz c : Nat) : Int)]) dX7_addSum_104 mv_X7_91 rfl (rfl) (by decide) rfl rfl (c_T_append (s := sz c) t0 hT1 b1 (by omega)) rfl (Nat.le_of_ble_eq_true rfl) (by omega) (fun r9 M2 h9 => ?_)
                  obtain ⟨rfl, e1, e2⟩ := h9
                  show WP sc0 40 m_X7_addSum 107 [vR 42, vI ((c : Nat) : Int), vI ((p : Nat) : Int), vI ((b : Nat) : Int), vI ((q : Nat) : Int), vI ((sz c : Nat) : Int), vU, vU] [vI ((k : Nat) : Int)] M2 (PX M (o_addSum (mkS n k sz ce h hs im len tx) x y z w))
                  refine WP.istore (lt := [vR 42, vI ((c : Nat) : Int), vI ((p : Nat) : Int), vI ((b : Nat) : Int), vI ((q : Nat) : Int), vI ((sz c : Nat) : Int), vI ((k : Nat) : Int), vU]) dX7_addSum_107 (by decide) rfl ?_
                  refine WP.iconst dX7_addSum_109 ?_
                  refine WP.istore (lt := [vR 42, vI ((c : Nat) : Int), vI ((p : Nat) : Int), vI ((b : Nat) : Int), vI ((q : Nat) : Int), vI ((sz c : Nat) : Int), vI ((k : Nat) : Int), vI (0 : Int)]) dX7_addSum_110 (by decide) rfl ?_
                  have L112 : ∀ (n9 : Nat) (r : Nat) (M3 : Mem) (hr : r ≤ n) (g1 : ∀ a, 3 ≤ a → M3 a = M1 a) (g2 : TX M3 0 n (k + 1) (apS sz k (sz c)) (fil (apC ce k (fun _ => 0)) k (fun y9 => (p * ce y9 c + q * ce y9 b) % sz c) r)), n - r < n9 → WP sc0 40 m_X7_addSum 112 [vR 42, vI ((c : Nat) : Int), vI ((p : Nat) : Int), vI ((b : Nat) : Int), vI ((q : Nat) : Int), vI ((sz c : Nat) : Int), vI ((k : Nat) : Int), vI ((r : Nat) : Int)] [] M3 (PX M (o_addSum (mkS n k sz ce h hs im len tx) x y z w)) := by
                    intro n9
                    induction n9 with
                    | zero =>
                      intro r M3 hr g1 g2 hm9
                      exact absurd hm9 (Nat.not_lt_zero _)
                    | succ n9 ih112 =>
                      intro r M3 hr g1 g2 hm9
                      refine WP.iload dX7_addSum_112 rfl ?_
                      refine WP.aload_n dX7_addSum_114 rfl ?_
                      refine WP.getR (y := 0) dX7_addSum_115 fl_X7_10 (rfl) (by decide) (rfl) ?_
                      refine WP.getI (x := ((n : Nat) : Int)) dX7_addSum_118 fl_X7_73 (rfl) (by decide) (g2.1) ?_
                      refine WP.icmp_ge (tgt := 170) dX7_addSum_121 (by decide) (by omega) (by omega) (fun h121 => ?_) (fun h121 => ?_)
                      · skip
                        refine WP.iload dX7_addSum_170 rfl ?_
                        refine WP.iret dX7_addSum_172 rfl ?_
                        exact PX.ch (A' := (n, k + 1, apS sz k (sz c), apC ce k (fun y9 => (p * ce y9 c + q * ce y9 b) % sz c))) (by subst hc0; subst hb0; subst hp0; subst hq0; exact (cif_t (show hC (mkS n k sz ce h hs im len tx) x ∧ hC (mkS n k sz ce h hs im len tx) z ∧ sz x.toNat = sz z.toNat ∧ (0 ≤ y ∧ y ≤ 5) ∧ 0 ≤ w ∧ w ≤ 5 from ⟨q8, q19, by omega, by omega, by omega⟩)).trans (if_neg (show ¬ k = 7 by omega))) hV hR1 (g1) (⟨g2.cg (fun _ _ => rfl) (fun r9 hr9 c9 hc9 => fil_ap (by omega)), Wf_ap (s := sz c) (f := (fun y9 => (p * ce y9 c + q * ce y9 b) % sz c)) hW (by omega) (by omega) (fun r9 _ => Nat.mod_lt _ (by omega))⟩)
                      · skip
                        have w3 := hW.2.2.2 r (by omega) c (by omega)
                        have w4 := hW.2.2.2 r (by omega) b (by omega)
                        have w5 : p * ce r c ≤ 5 * 6 := Nat.mul_le_mul (by omega) (by omega)
                        have w6 : q * ce r b ≤ 5 * 6 := Nat.mul_le_mul (by omega) (by omega)
                        have w7 : (p * ce r c + q * ce r b) % sz c < sz c := Nat.mod_lt _ (by omega)
                        refine WP.aload_n dX7_addSum_124 rfl ?_
                        refine WP.getR (y := 0) dX7_addSum_125 fl_X7_10 (rfl) (by decide) (rfl) ?_
                        refine WP.iload dX7_addSum_128 rfl ?_
                        refine WP.iload dX7_addSum_130 rfl ?_
                        refine WP.iload_n dX7_addSum_132 rfl ?_
                        refine WP.aload_n dX7_addSum_133 rfl ?_
                        refine WP.getR (y := 0) dX7_addSum_134 fl_X7_10 (rfl) (by decide) (rfl) ?_
                        refine WP.iload dX7_addSum_137 rfl ?_
                        refine WP.iload_n dX7_addSum_139 rfl ?_
                        refine WP.callVp (as := [vI ((r : Nat) : Int), vI ((c : Nat) : Int)]) dX7_addSum_140 mv_X7_108 rfl (rfl) (by decide) rfl rfl (c_T_at (r := r) (c := c) t0 (by omega) (by omega) (by rw [g2.2.2.2 r (by omega) c (by omega), fil, if_neg (by omega), apC, if_neg (by omega)])) rfl (Nat.le_of_ble_eq_true rfl) (by omega) ?_
                        refine WP.imul dX7_addSum_143 ?_
                        refine WP.iload dX7_addSum_144 rfl ?_
                        refine WP.aload_n dX7_addSum_146 rfl ?_
                        refine WP.getR (y := 0) dX7_addSum_147 fl_X7_10 (rfl) (by decide) (rfl) ?_
                        refine WP.iload dX7_addSum_150 rfl ?_
                        refine WP.iload_n dX7_addSum_152 rfl ?_
                        refine WP.callVp (as := [vI ((r : Nat) : Int), vI ((b : Nat) : Int)]) dX7_addSum_153 mv_X7_108 rfl (rfl) (by decide) rfl rfl (c_T_at (r := r) (c := b) t0 (by omega) (by omega) (by rw [g2.2.2.2 r (by omega) b (by omega), fil, if_neg (by omega), apC, if_neg (by omega)])) rfl (Nat.le_of_ble_eq_true rfl) (by omega) ?_
                        refine WP.imul dX7_addSum_156 ?_
                        refine WP.iadd dX7_addSum_157 ?_
                        refine WP.eqs (st' := [vI ((p * ce r c + q * ce r b : Nat) : Int), vI ((k : Nat) : Int), vI ((r : Nat) : Int), vR 0]) rfl (lc (congrArg vI (by rw [Int.natCast_add, Int.natCast_mul, Int.natCast_mul])) rfl) ?_
                        refine WP.iload dX7_addSum_158 rfl ?_
                        refine WP.irem dX7_addSum_160 (by omega) (by omega) ?_
                        refine WP.eqs (st' := [vI (((p * ce r c + q * ce r b) % sz c : Nat) : Int), vI ((k : Nat) : Int), vI ((r : Nat) : Int), vR 0]) rfl (lc (congrArg vI (by rw [Int.natCast_emod])) rfl) ?_
                        refine WP.callV (as := [vI ((r : Nat) : Int), vI ((k : Nat) : Int), vI (((p * ce r c + q * ce r b) % sz c : Nat) : Int)]) dX7_addSum_161 mv_X7_112 rfl (rfl) (by decide) rfl rfl (c_T_setX (r := r) (c := k) (v := (p * ce r c + q * ce r b) % sz c) t0 g2 (by omega) (by omega) (by omega)) rfl (Nat.le_of_ble_eq_true rfl) (by omega) (fun r9 M4 h9 => ?_)
                        obtain ⟨rfl, j1, j2⟩ := h9
                        show WP sc0 40 m_X7_addSum 164 [vR 42, vI ((c : Nat) : Int), vI ((p : Nat) : Int), vI ((b : Nat) : Int), vI ((q : Nat) : Int), vI ((sz c : Nat) : Int), vI ((k : Nat) : Int), vI ((r : Nat) : Int)] [] M4 (PX M (o_addSum (mkS n k sz ce h hs im len tx) x y z w))
                        refine WP.iinc (lt := [vR 42, vI ((c : Nat) : Int), vI ((p : Nat) : Int), vI ((b : Nat) : Int), vI ((q : Nat) : Int), vI ((sz c : Nat) : Int), vI ((k : Nat) : Int), vI (((r : Nat) : Int) + 1)]) dX7_addSum_164 rfl (by decide) rfl ?_
                        refine WP.goto (tgt := 112) dX7_addSum_167 (by decide) ?_
                        refine WP.fgt (lt := [vR 42, vI ((c : Nat) : Int), vI ((p : Nat) : Int), vI ((b : Nat) : Int), vI ((q : Nat) : Int), vI ((sz c : Nat) : Int), vI ((k : Nat) : Int), vI (((r + 1) : Nat) : Int)]) ⟨Or.inr rfl, Or.inr rfl, Or.inr rfl, Or.inr rfl, Or.inr rfl, Or.inr rfl, Or.inr rfl, Or.inr (congrArg vI (by omega)), trivial⟩ ?_
                        exact ih112 (r + 1) (M4) (by omega) (fun a ha => (j1 a (by omega)).trans (g1 a ha)) (j2.cg (fun _ _ => rfl) (fun q9 _ b9 _ => fil_s (f := (fun y9 => (p * ce y9 c + q * ce y9 b) % sz c)) rfl q9 b9)) (by omega)
                  refine WP.fgt (lt := [vR 42, vI ((c : Nat) : Int), vI ((p : Nat) : Int), vI ((b : Nat) : Int), vI ((q : Nat) : Int), vI ((sz c : Nat) : Int), vI ((k : Nat) : Int), vI ((0 : Nat) : Int)]) ⟨Or.inr rfl, Or.inr rfl, Or.inr rfl, Or.inr rfl, Or.inr rfl, Or.inr rfl, Or.inr rfl, Or.inr (congrArg vI (by omega)), trivial⟩ ?_
                  exact L112 _ (0) (M2) (Nat.zero_le _) (fun a ha => e1 a (by omega) (by omega) (by omega)) (e2.cg (fun _ _ => rfl) (fun q _ b _ => (if_neg (by omega)).symm)) (Nat.lt_succ_self _)
                · skip
                  refine WP.bipush dX7_addSum_79 (by decide) ?_
                  refine WP.iret dX7_addSum_81 rfl ?_
                  exact PX.same (by subst hc0; subst hb0; exact (cif_t (show hC (mkS n k sz ce h hs im len tx) x ∧ hC (mkS n k sz ce h hs im len tx) z ∧ sz x.toNat = sz z.toNat ∧ (0 ≤ y ∧ y ≤ 5) ∧ 0 ≤ w ∧ w ≤ 5 from ⟨q8, q19, by omega, by omega, by omega⟩)).trans (if_pos (show k = 7 by omega))) hV
              · skip
                refine WP.iconst dX7_addSum_65 ?_
                refine WP.iret dX7_addSum_66 rfl ?_
                exact PX.same (cif_f (fun z => by have z1 := z.2.2.2; omega)) hV
      · skip
        refine WP.iconst dX7_addSum_43 ?_
        refine WP.iret dX7_addSum_44 rfl ?_
        exact PX.same (by subst hc0; subst hb0; exact cif_f (fun z8 => by have z1 : sz x.toNat = sz z.toNat := z8.2.2.1; omega)) hV
