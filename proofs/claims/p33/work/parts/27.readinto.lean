theorem ldA_ok2 {len : Nat} {tx : Nat → Nat} (h : flt len tx = -9) : ∀ r, r < (ldA len tx).1 → ∀ c, c < hd0 len tx → 48 ≤ tx (hd0 len tx + r * (hd0 len tx + 1) + 1 + c) := by
  by_cases e : hd0 len tx = 0
  · rw [flt, cif_t e] at h
    exact absurd h (by decide)
  · rw [flt, cif_f e] at h
    obtain ⟨n, g1, g2, g3, g4⟩ := fo_ok 38 0 (by omega) (by rw [Nat.zero_mul]; exact (hd0_spec len tx).2.1) h
    have hn : (ldA len tx).1 = n := by
      show (len - hd0 len tx) / (hd0 len tx + 1) = n
      generalize hd0 len tx = k at *
      rw [g3, Nat.add_sub_cancel_left, Nat.mul_div_cancel _ (by omega)]
    intro r hr c hc
    exact (g4 r (by omega) (by omega) c hc).1
theorem SX.fr {M M' : Mem} {len : Nat} {tx : Nat → Nat} (h : SX M len tx) (h0 : M' 47 = M 47) (h1 : M' 48 = M 48) : SX M' len tx := ⟨h.1, by rw [h0]; exact h.2.1, fun j hj => by rw [h1]; exact h.2.2 j hj⟩

set_option maxHeartbeats 4000000 in
set_option maxRecDepth 20000 in
theorem c_X_forget {M : Mem} : CT 1 m_X7_forgetResults [vR 42] M (Rt none (mset (mset M 42 8 0) 42 10 (-1))) := by
  refine CT.ofWP (by decide +kernel) (Nat.le_of_ble_eq_true rfl) ?_
  show WP sc0 1 m_X7_forgetResults 0 [vR 42] [] M (Rt none (mset (mset M 42 8 0) 42 10 (-1)))
  refine WP.aload_n dX7_forgetResults_0 rfl ?_
  refine WP.iconst dX7_forgetResults_1 ?_
  refine WP.putI dX7_forgetResults_2 fl_X7_59 (rfl) (by decide) rfl ?_
  refine WP.aload_n dX7_forgetResults_5 rfl ?_
  refine WP.iconst dX7_forgetResults_6 ?_
  refine WP.putI dX7_forgetResults_7 fl_X7_67 (rfl) (by decide) rfl ?_
  refine WP.vret dX7_forgetResults_10 rfl ?_
  exact ⟨rfl, rfl⟩
/-- what record() leaves -/
def RC (M M' : Mem) (h : Nat) (hs : Nat → AR) (A : AR) : Prop := (∀ a, a ≠ 42 → a ≠ 43 → (a < 9 ∨ 33 ≤ a) → M' a = M a) ∧ M' 42 8 = 0 ∧ M' 42 10 = -1 ∧ HX M' (hpush h hs A).1 (hpush h hs A).2
set_option maxHeartbeats 4000000 in
set_option maxRecDepth 20000 in
theorem c_X_record {M : Mem} {h : Nat} {hs : Nat → AR} {A : AR} (hH : HX M h hs) (hA : TA M 0 A) : CT 3 m_X7_record [vR 42] M (fun z M' => ∃ y, z = some (vR y) ∧ (∃ i, i < 8 ∧ y = 9 + 3 * i) ∧ RC M M' h hs A ∧ TA M' y A) := by
  refine CT.ofWP (by decide +kernel) (Nat.le_of_ble_eq_true rfl) ?_
  show WP sc0 3 m_X7_record 0 [vR 42] [] M (fun z M' => ∃ y, z = some (vR y) ∧ (∃ i, i < 8 ∧ y = 9 + 3 * i) ∧ RC M M' h hs A ∧ TA M' y A)
  refine WP.aload_n dX7_record_0 rfl ?_
  refine WP.callV (as := []) dX7_record_1 mv_X7_156 rfl (rfl) (by decide) rfl rfl (c_X_forget) rfl (Nat.le_of_ble_eq_true rfl) (by omega) (fun r9 M1 h9 => ?_)
  obtain ⟨rfl, hM1⟩ := h9
  have hO1 : ∀ a, a ≠ 42 → M1 a = M a := fun a ha => by rw [hM1, mset_o a ha, mset_o a ha]
  have e8 : M1 42 8 = 0 := by rw [hM1, mset_n (Or.inr (by decide)), mset_s]
  have e10 : M1 42 10 = -1 := by rw [hM1, mset_s]
  show WP sc0 3 m_X7_record 4 [vR 42] [] M1 (fun z M' => ∃ y, z = some (vR y) ∧ (∃ i, i < 8 ∧ y = 9 + 3 * i) ∧ RC M M' h hs A ∧ TA M' y A)
  refine WP.aload_n dX7_record_4 rfl ?_
  refine WP.getR (y := 43) dX7_record_5 fl_X7_19 (rfl) (by decide) (rfl) ?_
  refine WP.aload_n dX7_record_8 rfl ?_
  refine WP.getR (y := 0) dX7_record_9 fl_X7_10 (rfl) (by decide) (rfl) ?_
  refine WP.callV (as := [vR 0]) dX7_record_12 mv_X7_233 rfl (rfl) (by decide) rfl rfl (c_H_push (hH.fr (hO1 43 (by decide)) (fun a _ _ => hO1 a (by omega))) (hA.fr (hO1 0 (by decide)) (hO1 1 (by decide)) (hO1 2 (by decide)))) rfl (Nat.le_of_ble_eq_true rfl) (by omega) (fun r9 M2 h9 => ?_)
  obtain ⟨y, rfl, hy, f1, f2, f3⟩ := h9
  show WP sc0 3 m_X7_record 15 [vR 42] [vR y] M2 (fun z M' => ∃ y, z = some (vR y) ∧ (∃ i, i < 8 ∧ y = 9 + 3 * i) ∧ RC M M' h hs A ∧ TA M' y A)
  refine WP.aret dX7_record_15 rfl ?_
  exact ⟨y, rfl, hy, ⟨fun a i1 i2 i3 => by rw [f1 a i2 i3, hO1 a i1], by rw [f1 42 (by decide) (by omega)]; exact e8, by rw [f1 42 (by decide) (by omega)]; exact e10, f2⟩, f3⟩
