theorem ldA_ok2 {len : Nat} {tx : Nat → Nat} (h : flt len tx = -9) : ∀ r, r < (ldA len tx).1 → ∀ c, c < hd0 len tx → 48 ≤ tx (hd0 len tx + r * (hd0 len tx + 1) + 1 + c) := by
  by_cases e : hd0 len tx = 0
  · rw [flt, cif_t e] at h
    exact absurd h (by decide)
  · rw [flt, cif_f e] at h
    obtain ⟨n, g1, g2, g3, g4⟩ := fo_ok 38 0 (by omega) (by rw [Nat.zero_mul]; exact (hd0_spec len tx).2.1) h
    have hn : (ldA len tx).1 = n := by
      show (len - hd0 len tx) / (hd0 len tx + 1) = n
      generalize hd0 len tx = k at *
      rw [g3, Nat.add_sub_cancel_left, Nat.mul_div_cancel _ (by omega)]
    intro r hr c hc
    exact (g4 r (by omega) (by omega) c hc).1
theorem SX.fr {M M' : Mem} {len : Nat} {tx : Nat → Nat} (h : SX M len tx) (h0 : M' 47 = M 47) (h1 : M' 48 = M 48) : SX M' len tx := ⟨h.1, by rw [h0]; exact h.2.1, fun j hj => by rw [h1]; exact h.2.2 j hj⟩
set_option maxHeartbeats 4000000 in
set_option maxRecDepth 20000 in
theorem c_S_readIntoG {M : Mem} {len n k : Nat} {tx : Nat → Nat} (hS : SX M len tx) (hkk : hd0 len tx = k) (hk : 0 < k ∧ k ≤ 7) (hn36 : n ≤ 36) (hlen : len = k + n * (k + 1)) (h50 : ∀ c, c < k → 50 ≤ tx c) (h48 : ∀ r, r < n → ∀ c, c < k → 48 ≤ tx (k + r * (k + 1) + 1 + c)) : CT 3 m_X4_readInto [vR 47, vR 0] M (fun z M' => z = none ∧ (∀ a, 3 ≤ a → M' a = M a) ∧ TX M' 0 n k (fun c => tx c - 48) (fun r c => tx (k + r * (k + 1) + 1 + c) - 48)) := by
  have h300 := hS.1
  have hT0 : isT 0 := ⟨rfl, by decide⟩
  have hidx : ∀ r, r < n → ∀ c, c < k → k + r * (k + 1) + 1 + c < len := fun r hr c hc => by
    have h1 : (r + 1) * (k + 1) ≤ n * (k + 1) := Nat.mul_le_mul_right _ hr
    rw [Nat.succ_mul] at h1
    omega
  refine CT.ofWP (by decide +kernel) (Nat.le_of_ble_eq_true rfl) ?_
  show WP sc0 3 m_X4_readInto 0 [vR 47, vR 0, vU, vU, vU] [] M (fun z M' => z = none ∧ (∀ a, 3 ≤ a → M' a = M a) ∧ TX M' 0 n k (fun c => tx c - 48) (fun r c => tx (k + r * (k + 1) + 1 + c) - 48))
  refine WP.aload_n dX4_readInto_0 rfl ?_
  refine WP.callVp (as := []) dX4_readInto_1 mv_X4_19 rfl (rfl) (by decide) rfl rfl (hkk ▸ c_S_headLength hS) rfl (Nat.le_of_ble_eq_true rfl) (by omega) ?_
  refine WP.istore_n (lt := [vR 47, vR 0, vI ((k : Nat) : Int), vU, vU]) dX4_readInto_4 (by decide) rfl ?_
  refine WP.aload_n dX4_readInto_5 rfl ?_
  refine WP.aload_n dX4_readInto_6 rfl ?_
  refine WP.getI (x := ((len : Nat) : Int)) dX4_readInto_7 fl_X4_9 (rfl) (by decide) (hS.2.1) ?_
  refine WP.iload_n dX4_readInto_10 rfl ?_
  refine WP.isub dX4_readInto_11 ?_
  refine WP.iload_n dX4_readInto_12 rfl ?_
  refine WP.iconst dX4_readInto_13 ?_
  refine WP.iadd dX4_readInto_14 ?_
  refine WP.idiv dX4_readInto_15 (by omega) (by omega) ?_
  refine WP.eqs (st' := [vI ((n : Nat) : Int), vR 0]) rfl (lc (congrArg vI (by rw [show ((len : Nat) : Int) - ((k : Nat) : Int) = ((n : Nat) : Int) * (((k : Nat) : Int) + 1) by rw [hlen, Int.natCast_add, Int.natCast_mul]; show _ + _ * (((k : Nat) : Int) + 1) - _ = _; omega, Int.mul_ediv_cancel _ (by omega)])) rfl) ?_
  refine WP.callV (as := [vI ((n : Nat) : Int)]) dX4_readInto_16 mv_X4_31 rfl (rfl) (by decide) rfl rfl (c_T_reset hT0) rfl (Nat.le_of_ble_eq_true rfl) (by omega) (fun r9 M1 h9 => ?_)
  obtain ⟨rfl, f1, f2, f3⟩ := h9
  show WP sc0 3 m_X4_readInto 19 [vR 47, vR 0, vI ((k : Nat) : Int), vU, vU] [] M1 (fun z M' => z = none ∧ (∀ a, 3 ≤ a → M' a = M a) ∧ TX M' 0 n k (fun c => tx c - 48) (fun r c => tx (k + r * (k + 1) + 1 + c) - 48))
  refine WP.iconst dX4_readInto_19 ?_
  refine WP.istore_n (lt := [vR 47, vR 0, vI ((k : Nat) : Int), vI (0 : Int), vU]) dX4_readInto_20 (by decide) rfl ?_
  have L21 : ∀ (n9 : Nat) (c : Nat) (M2 : Mem) (hc : c ≤ k) (g1 : ∀ a, 3 ≤ a → M2 a = M a) (g2 : TX M2 0 n c (fun c => tx c - 48) (fun r c => tx (k + r * (k + 1) + 1 + c) - 48)), k - c < n9 → WP sc0 3 m_X4_readInto 21 [vR 47, vR 0, vI ((k : Nat) : Int), vI ((c : Nat) : Int), vU] [] M2 (fun z M' => z = none ∧ (∀ a, 3 ≤ a → M' a = M a) ∧ TX M' 0 n k (fun c => tx c - 48) (fun r c => tx (k + r * (k + 1) + 1 + c) - 48)) := by
    intro n9
    induction n9 with
    | zero =>
      intro c M2 hc g1 g2 hm9
      exact absurd hm9 (Nat.not_lt_zero _)
    | succ n9 ih21 =>
      intro c M2 hc g1 g2 hm9
      have hS2 : SX M2 len tx := hS.fr (g1 47 (by decide)) (g1 48 (by decide))
      refine WP.iload_n dX4_readInto_21 rfl ?_
      refine WP.iload_n dX4_readInto_22 rfl ?_
      refine WP.icmp_ge (tgt := 83) dX4_readInto_23 (by decide) (by omega) (by omega) (fun h23 => ?_) (fun h23 => ?_)
      · skip
        refine WP.vret dX4_readInto_83 rfl ?_
        refine ⟨rfl, g1, ?_⟩
        have e : c = k := by omega
        rw [e] at g2
        exact g2
      · skip
        refine WP.aload_n dX4_readInto_26 rfl ?_
        refine WP.aload_n dX4_readInto_27 rfl ?_
        refine WP.iload_n dX4_readInto_28 rfl ?_
        refine WP.callVp (as := [vI ((c : Nat) : Int)]) dX4_readInto_29 mv_X4_23 rfl rfl (by decide) rfl rfl (c_S_digit hS2 (j := c) (by omega)) rfl (Nat.le_of_ble_eq_true rfl) (by omega) ?_
        have w29 : 48 ≤ tx (c) := by have := h50 c (by omega); omega
        refine WP.eqs (st' := [vI ((tx c - 48 : Nat) : Int), vR 0]) rfl (lc (congrArg vI (by omega)) rfl) ?_
        refine WP.callV (as := [vI ((tx c - 48 : Nat) : Int)]) dX4_readInto_32 mv_X4_37 rfl (rfl) (by decide) rfl rfl (c_T_append (s := tx c - 48) hT0 g2 hn36 (by omega)) rfl (Nat.le_of_ble_eq_true rfl) (by omega) (fun r9 M3 h9 => ?_)
        obtain ⟨rfl, e1, e2⟩ := h9
        show WP sc0 3 m_X4_readInto 35 [vR 47, vR 0, vI ((k : Nat) : Int), vI ((c : Nat) : Int), vU] [vI ((c : Nat) : Int)] M3 (fun z M' => z = none ∧ (∀ a, 3 ≤ a → M' a = M a) ∧ TX M' 0 n k (fun c => tx c - 48) (fun r c => tx (k + r * (k + 1) + 1 + c) - 48))
        refine WP.pop dX4_readInto_35 rfl ?_
        refine WP.iconst dX4_readInto_36 ?_
        refine WP.istore (lt := [vR 47, vR 0, vI ((k : Nat) : Int), vI ((c : Nat) : Int), vI (0 : Int)]) dX4_readInto_37 (by decide) rfl ?_
        have L39 : ∀ (n9 : Nat) (r : Nat) (M4 : Mem) (hr : r ≤ n) (q1 : ∀ a, 3 ≤ a → M4 a = M a) (q2 : TX M4 0 n (c + 1) (apS (fun c => tx c - 48) c (tx c - 48)) (fil (apC (fun r c => tx (k + r * (k + 1) + 1 + c) - 48) c (fun _ => 0)) c (fun r => tx (k + r * (k + 1) + 1 + c) - 48) r)), n - r < n9 → WP sc0 3 m_X4_readInto 39 [vR 47, vR 0, vI ((k : Nat) : Int), vI ((c : Nat) : Int), vI ((r : Nat) : Int)] [] M4 (fun z M' => z = none ∧ (∀ a, 3 ≤ a → M' a = M a) ∧ TX M' 0 n k (fun c => tx c - 48) (fun r c => tx (k + r * (k + 1) + 1 + c) - 48)) := by
          intro n9
          induction n9 with
          | zero =>
            intro r M4 hr q1 q2 hm9
            exact absurd hm9 (Nat.not_lt_zero _)
          | succ n9 ih39 =>
            intro r M4 hr q1 q2 hm9
            have hS4 : SX M4 len tx := hS.fr (q1 47 (by decide)) (q1 48 (by decide))
            refine WP.iload dX4_readInto_39 rfl ?_
            refine WP.aload_n dX4_readInto_41 rfl ?_
            refine WP.getI (x := ((n : Nat) : Int)) dX4_readInto_42 fl_X4_40 (rfl) (by decide) (q2.1) ?_
            refine WP.icmp_ge (tgt := 77) dX4_readInto_45 (by decide) (by omega) (by omega) (fun h45 => ?_) (fun h45 => ?_)
            · skip
              refine WP.iinc (lt := [vR 47, vR 0, vI ((k : Nat) : Int), vI (((c : Nat) : Int) + 1), vI ((r : Nat) : Int)]) dX4_readInto_77 rfl (by decide) rfl ?_
              refine WP.goto (tgt := 21) dX4_readInto_80 (by decide) ?_
              refine WP.fgt (lt := [vR 47, vR 0, vI ((k : Nat) : Int), vI (((c + 1) : Nat) : Int), vU]) ⟨Or.inr rfl, Or.inr rfl, Or.inr rfl, Or.inr (congrArg vI (by omega)), Or.inl rfl, trivial⟩ ?_
              exact ih21 (c + 1) (M4) (by omega) (q1) (q2.cg (fun b hb => by
                unfold apS
                by_cases e : b = c
                · rw [if_pos e, e]
                · rw [if_neg e]) (fun r hr b hb => by
                unfold fil apC
                by_cases e : b = c
                · rw [if_pos (by omega), e]
                · rw [if_neg (by omega), if_neg e])) (by omega)
            · skip
              refine WP.aload_n dX4_readInto_48 rfl ?_
              refine WP.iload dX4_readInto_49 rfl ?_
              refine WP.iload_n dX4_readInto_51 rfl ?_
              refine WP.aload_n dX4_readInto_52 rfl ?_
              refine WP.iload_n dX4_readInto_53 rfl ?_
              refine WP.iload dX4_readInto_54 rfl ?_
              refine WP.iload_n dX4_readInto_56 rfl ?_
              refine WP.iconst dX4_readInto_57 ?_
              refine WP.iadd dX4_readInto_58 ?_
              refine WP.imul dX4_readInto_59 ?_
              refine WP.eqs (st' := [vI ((r * (k + 1) : Nat) : Int), vI ((k : Nat) : Int), vR 47, vI ((c : Nat) : Int), vI ((r : Nat) : Int), vR 0]) rfl (lc (congrArg vI (by rw [Int.natCast_mul]; rfl)) rfl) ?_
              refine WP.iadd dX4_readInto_60 ?_
              refine WP.iconst dX4_readInto_61 ?_
              refine WP.iadd dX4_readInto_62 ?_
              refine WP.iload_n dX4_readInto_63 rfl ?_
              refine WP.iadd dX4_readInto_64 ?_
              refine WP.eqs (st' := [vI ((k + r * (k + 1) + 1 + c : Nat) : Int), vR 47, vI ((c : Nat) : Int), vI ((r : Nat) : Int), vR 0]) rfl (lc (congrArg vI (by omega)) rfl) ?_
              refine WP.callVp (as := [vI ((k + r * (k + 1) + 1 + c : Nat) : Int)]) dX4_readInto_65 mv_X4_23 rfl rfl (by decide) rfl rfl (c_S_digit hS4 (j := k + r * (k + 1) + 1 + c) (hidx r (by omega) c (by omega))) rfl (Nat.le_of_ble_eq_true rfl) (by omega) ?_
              have w65 : 48 ≤ tx (k + r * (k + 1) + 1 + c) := h48 r (by omega) c (by omega)
              refine WP.eqs (st' := [vI ((tx (k + r * (k + 1) + 1 + c) - 48 : Nat) : Int), vI ((c : Nat) : Int), vI ((r : Nat) : Int), vR 0]) rfl (lc (congrArg vI (by omega)) rfl) ?_
              refine WP.callV (as := [vI ((r : Nat) : Int), vI ((c : Nat) : Int), vI ((tx (k + r * (k + 1) + 1 + c) - 48 : Nat) : Int)]) dX4_readInto_68 mv_X4_43 rfl (rfl) (by decide) rfl rfl (c_T_setX (r := r) (c := c) (v := tx (k + r * (k + 1) + 1 + c) - 48) hT0 q2 (by omega) (by omega) (by omega)) rfl (Nat.le_of_ble_eq_true rfl) (by omega) (fun r9 M5 h9 => ?_)
              obtain ⟨rfl, j1, j2⟩ := h9
              show WP sc0 3 m_X4_readInto 71 [vR 47, vR 0, vI ((k : Nat) : Int), vI ((c : Nat) : Int), vI ((r : Nat) : Int)] [] M5 (fun z M' => z = none ∧ (∀ a, 3 ≤ a → M' a = M a) ∧ TX M' 0 n k (fun c => tx c - 48) (fun r c => tx (k + r * (k + 1) + 1 + c) - 48))
              refine WP.iinc (lt := [vR 47, vR 0, vI ((k : Nat) : Int), vI ((c : Nat) : Int), vI (((r : Nat) : Int) + 1)]) dX4_readInto_71 rfl (by decide) rfl ?_
              refine WP.goto (tgt := 39) dX4_readInto_74 (by decide) ?_
              refine WP.fgt (lt := [vR 47, vR 0, vI ((k : Nat) : Int), vI ((c : Nat) : Int), vI (((r + 1) : Nat) : Int)]) ⟨Or.inr rfl, Or.inr rfl, Or.inr rfl, Or.inr rfl, Or.inr (congrArg vI (by omega)), trivial⟩ ?_
              exact ih39 (r + 1) (M5) (by omega) (fun a ha => (j1 a (by omega)).trans (q1 a ha)) (j2.cg (fun _ _ => rfl) (fun q _ b _ => fil_s (f := fun r => tx (k + r * (k + 1) + 1 + c) - 48) rfl q b)) (by omega)
        refine WP.fgt (lt := [vR 47, vR 0, vI ((k : Nat) : Int), vI ((c : Nat) : Int), vI ((0 : Nat) : Int)]) ⟨Or.inr rfl, Or.inr rfl, Or.inr rfl, Or.inr rfl, Or.inr (congrArg vI (by omega)), trivial⟩ ?_
        exact L39 _ (0) (M3) (Nat.zero_le _) (fun a ha => (e1 a (by omega) (by omega) (by omega)).trans (g1 a ha)) (e2.cg (fun _ _ => rfl) (fun q _ b _ => (if_neg (by omega)).symm)) (Nat.lt_succ_self _)
  refine WP.fgt (lt := [vR 47, vR 0, vI ((k : Nat) : Int), vI ((0 : Nat) : Int), vU]) ⟨Or.inr rfl, Or.inr rfl, Or.inr rfl, Or.inr (congrArg vI (by omega)), Or.inl rfl, trivial⟩ ?_
  exact L21 _ (0) (M1) (by omega) (fun a ha => f1 a (by omega)) (⟨f2, f3, fun c hc => absurd hc (by omega), fun r hr c hc => absurd hc (by omega)⟩) (Nat.lt_succ_self _)
theorem c_S_readInto {M : Mem} {len : Nat} {tx : Nat → Nat} (hS : SX M len tx) (hf : flt len tx = -9) : CT 3 m_X4_readInto [vR 47, vR 0] M (fun z M' => z = none ∧ (∀ a, 3 ≤ a → M' a = M a) ∧ TA M' 0 (ldA len tx)) := by
  obtain ⟨h1, h2, h3, h4⟩ := ldA_ok hf
  have hs := hd0_spec len tx
  refine CT.mono (fun z M' h => ⟨h.1, h.2.1, h.2.2, h4⟩) (c_S_readIntoG hS rfl ⟨h1, hs.1⟩ h2 h3 (fun c hc => (hs.2.2 c hc).1) (ldA_ok2 hf))
set_option maxHeartbeats 4000000 in
set_option maxRecDepth 20000 in
theorem c_X_forget {M : Mem} : CT 1 m_X7_forgetResults [vR 42] M (Rt none (mset (mset M 42 8 0) 42 10 (-1))) := by
  refine CT.ofWP (by decide +kernel) (Nat.le_of_ble_eq_true rfl) ?_
  show WP sc0 1 m_X7_forgetResults 0 [vR 42] [] M (Rt none (mset (mset M 42 8 0) 42 10 (-1)))
  refine WP.aload_n dX7_forgetResults_0 rfl ?_
  refine WP.iconst dX7_forgetResults_1 ?_
  refine WP.putI dX7_forgetResults_2 fl_X7_59 (rfl) (by decide) rfl ?_
  refine WP.aload_n dX7_forgetResults_5 rfl ?_
  refine WP.iconst dX7_forgetResults_6 ?_
  refine WP.putI dX7_forgetResults_7 fl_X7_67 (rfl) (by decide) rfl ?_
  refine WP.vret dX7_forgetResults_10 rfl ?_
  exact ⟨rfl, rfl⟩
/-- what record() leaves -/
def RC (M M' : Mem) (h : Nat) (hs : Nat → AR) (A : AR) : Prop := (∀ a, a ≠ 42 → a ≠ 43 → (a < 9 ∨ 33 ≤ a) → M' a = M a) ∧ M' 42 8 = 0 ∧ M' 42 10 = -1 ∧ HX M' (hpush h hs A).1 (hpush h hs A).2
set_option maxHeartbeats 4000000 in
set_option maxRecDepth 20000 in
theorem c_X_record {M : Mem} {h : Nat} {hs : Nat → AR} {A : AR} (hH : HX M h hs) (hA : TA M 0 A) : CT 3 m_X7_record [vR 42] M (fun z M' => ∃ y, z = some (vR y) ∧ (∃ i, i < 8 ∧ y = 9 + 3 * i) ∧ RC M M' h hs A ∧ TA M' y A) := by
  refine CT.ofWP (by decide +kernel) (Nat.le_of_ble_eq_true rfl) ?_
  show WP sc0 3 m_X7_record 0 [vR 42] [] M (fun z M' => ∃ y, z = some (vR y) ∧ (∃ i, i < 8 ∧ y = 9 + 3 * i) ∧ RC M M' h hs A ∧ TA M' y A)
  refine WP.aload_n dX7_record_0 rfl ?_
  refine WP.callV (as := []) dX7_record_1 mv_X7_156 rfl (rfl) (by decide) rfl rfl (c_X_forget) rfl (Nat.le_of_ble_eq_true rfl) (by omega) (fun r9 M1 h9 => ?_)
  obtain ⟨rfl, hM1⟩ := h9
  have hO1 : ∀ a, a ≠ 42 → M1 a = M a := fun a ha => by rw [hM1, mset_o a ha, mset_o a ha]
  have e8 : M1 42 8 = 0 := by rw [hM1, mset_n (Or.inr (by decide)), mset_s]
  have e10 : M1 42 10 = -1 := by rw [hM1, mset_s]
  show WP sc0 3 m_X7_record 4 [vR 42] [] M1 (fun z M' => ∃ y, z = some (vR y) ∧ (∃ i, i < 8 ∧ y = 9 + 3 * i) ∧ RC M M' h hs A ∧ TA M' y A)
  refine WP.aload_n dX7_record_4 rfl ?_
  refine WP.getR (y := 43) dX7_record_5 fl_X7_19 (rfl) (by decide) (rfl) ?_
  refine WP.aload_n dX7_record_8 rfl ?_
  refine WP.getR (y := 0) dX7_record_9 fl_X7_10 (rfl) (by decide) (rfl) ?_
  refine WP.callV (as := [vR 0]) dX7_record_12 mv_X7_233 rfl (rfl) (by decide) rfl rfl (c_H_push (hH.fr (hO1 43 (by decide)) (fun a _ _ => hO1 a (by omega))) (hA.fr (hO1 0 (by decide)) (hO1 1 (by decide)) (hO1 2 (by decide)))) rfl (Nat.le_of_ble_eq_true rfl) (by omega) (fun r9 M2 h9 => ?_)
  obtain ⟨y, rfl, hy, f1, f2, f3⟩ := h9
  show WP sc0 3 m_X7_record 15 [vR 42] [vR y] M2 (fun z M' => ∃ y, z = some (vR y) ∧ (∃ i, i < 8 ∧ y = 9 + 3 * i) ∧ RC M M' h hs A ∧ TA M' y A)
  refine WP.aret dX7_record_15 rfl ?_
  exact ⟨y, rfl, hy, ⟨fun a i1 i2 i3 => by rw [f1 a i2 i3, hO1 a i1], by rw [f1 42 (by decide) (by omega)]; exact e8, by rw [f1 42 (by decide) (by omega)]; exact e10, f2⟩, f3⟩
