/-! the text -/
def SX (M : Mem) (len : Nat) (tx : Nat → Nat) : Prop := len ≤ 300 ∧ M 47 0 = (len : Int) ∧ ∀ j, j < len → M 48 j = (tx j : Int) ∧ 32 ≤ tx j ∧ tx j ≤ 126
def lvc (x : Nat) : Prop := 50 ≤ x ∧ x ≤ 54
/-- the number of columns that the text begins with -/
noncomputable def hdF (len : Nat) (tx : Nat → Nat) : Nat → Nat → Nat
  | 0, i => i
  | f + 1, i => cif (i < len ∧ i < 7 ∧ lvc (tx i)) (hdF len tx f (i + 1)) i
noncomputable def hd0 (len : Nat) (tx : Nat → Nat) : Nat := hdF len tx 7 0
theorem hdF_t {len : Nat} {tx : Nat → Nat} {f i : Nat} (h : i < len ∧ i < 7 ∧ lvc (tx i)) : hdF len tx (f + 1) i = hdF len tx f (i + 1) := by rw [hdF, cif_t h]
theorem hdF_f {len : Nat} {tx : Nat → Nat} {f i : Nat} (h : ¬ (i < len ∧ i < 7 ∧ lvc (tx i))) : hdF len tx (f + 1) i = i := by rw [hdF, cif_f h]
theorem hdF_7 {len : Nat} {tx : Nat → Nat} (f : Nat) : hdF len tx f 7 = 7 := by
  cases f with
  | zero => rfl
  | succ f => exact hdF_f (by omega)
theorem hdF_spec {len : Nat} {tx : Nat → Nat} : ∀ (f i : Nat), i ≤ 7 → i ≤ len → (∀ j, j < i → lvc (tx j)) → hdF len tx f i ≤ 7 ∧ hdF len tx f i ≤ len ∧ ∀ j, j < hdF len tx f i → lvc (tx j)
  | 0, i, h1, h2, h3 => ⟨h1, h2, h3⟩
  | f + 1, i, h1, h2, h3 => by
    by_cases e : i < len ∧ i < 7 ∧ lvc (tx i)
    · rw [hdF_t e]
      exact hdF_spec f (i + 1) (by omega) (by omega) (fun j hj => by
        by_cases e2 : j = i
        · rw [e2]; exact e.2.2
        · exact h3 j (by omega))
    · rw [hdF_f e]
      exact ⟨h1, h2, h3⟩
theorem hd0_spec (len : Nat) (tx : Nat → Nat) : hd0 len tx ≤ 7 ∧ hd0 len tx ≤ len ∧ ∀ j, j < hd0 len tx → lvc (tx j) := hdF_spec 7 0 (by omega) (by omega) (fun j hj => absurd hj (Nat.not_lt_zero j))
/-- the first wrong level of a row that begins at p -/
noncomputable def rb (len : Nat) (tx : Nat → Nat) (p : Nat) : Nat → Nat → Nat
  | 0, c => c
  | f + 1, c => cif (p + c < len ∧ 48 ≤ tx (p + c) ∧ tx (p + c) < tx c) (rb len tx p f (c + 1)) c
theorem rb_t {len : Nat} {tx : Nat → Nat} {p f c : Nat} (h : p + c < len ∧ 48 ≤ tx (p + c) ∧ tx (p + c) < tx c) : rb len tx p (f + 1) c = rb len tx p f (c + 1) := by rw [rb, cif_t h]
theorem rb_f {len : Nat} {tx : Nat → Nat} {p f c : Nat} (h : ¬ (p + c < len ∧ 48 ≤ tx (p + c) ∧ tx (p + c) < tx c)) : rb len tx p (f + 1) c = c := by rw [rb, cif_f h]
theorem rb_le {len : Nat} {tx : Nat → Nat} {p : Nat} : ∀ (f c : Nat), c ≤ rb len tx p f c ∧ rb len tx p f c ≤ c + f
  | 0, c => ⟨Nat.le_refl _, Nat.le_refl _⟩
  | f + 1, c => by
    by_cases e : p + c < len ∧ 48 ≤ tx (p + c) ∧ tx (p + c) < tx c
    · rw [rb_t e]
      have := rb_le (len := len) (tx := tx) (p := p) f (c + 1)
      omega
    · rw [rb_f e]; omega
theorem rb_ok {len : Nat} {tx : Nat → Nat} {p : Nat} : ∀ (f c : Nat), rb len tx p f c = c + f → ∀ j, c ≤ j → j < c + f → p + j < len ∧ 48 ≤ tx (p + j) ∧ tx (p + j) < tx j
  | 0, c, _, j, h1, h2 => by omega
  | f + 1, c, h, j, h1, h2 => by
    by_cases e : p + c < len ∧ 48 ≤ tx (p + c) ∧ tx (p + c) < tx c
    · rw [rb_t e] at h
      by_cases e2 : j = c
      · rw [e2]; exact e
      · exact rb_ok f (c + 1) (by omega) j (by omega) (by omega)
    · rw [rb_f e] at h
      omega
/-- the text's fault: from a row on -/
noncomputable def fo (len : Nat) (tx : Nat → Nat) (k : Nat) : Nat → Nat → Int
  | 0, _ => 0
  | f + 1, row => cif (k + row * (k + 1) < len)
      (cif (row = 36 ∨ tx (k + row * (k + 1)) ≠ 47) ((k + row * (k + 1) : Nat) : Int)
        (cif (rb len tx (k + row * (k + 1) + 1) k 0 < k) ((k + row * (k + 1) + 1 + rb len tx (k + row * (k + 1) + 1) k 0 : Nat) : Int) (fo len tx k f (row + 1))))
      (-9)
noncomputable def flt (len : Nat) (tx : Nat → Nat) : Int := cif (hd0 len tx = 0) 0 (fo len tx (hd0 len tx) 38 0)
theorem fo_end {len : Nat} {tx : Nat → Nat} {k f row : Nat} (h : ¬ k + row * (k + 1) < len) : fo len tx k (f + 1) row = -9 := by rw [fo, cif_f h]
theorem fo_sl {len : Nat} {tx : Nat → Nat} {k f row : Nat} (h : k + row * (k + 1) < len) (h2 : row = 36 ∨ tx (k + row * (k + 1)) ≠ 47) : fo len tx k (f + 1) row = ((k + row * (k + 1) : Nat) : Int) := by rw [fo, cif_t h, cif_t h2]
theorem fo_row {len : Nat} {tx : Nat → Nat} {k f row : Nat} (h : k + row * (k + 1) < len) (h2 : ¬ (row = 36 ∨ tx (k + row * (k + 1)) ≠ 47)) (h3 : rb len tx (k + row * (k + 1) + 1) k 0 < k) : fo len tx k (f + 1) row = ((k + row * (k + 1) + 1 + rb len tx (k + row * (k + 1) + 1) k 0 : Nat) : Int) := by rw [fo, cif_t h, cif_f h2, cif_t h3]
theorem fo_on {len : Nat} {tx : Nat → Nat} {k f row : Nat} (h : k + row * (k + 1) < len) (h2 : ¬ (row = 36 ∨ tx (k + row * (k + 1)) ≠ 47)) (h3 : ¬ rb len tx (k + row * (k + 1) + 1) k 0 < k) : fo len tx k (f + 1) row = fo len tx k f (row + 1) := by rw [fo, cif_t h, cif_f h2, cif_f h3]
/-- the array of a text without a fault -/
noncomputable def ldA (len : Nat) (tx : Nat → Nat) : AR := ((len - hd0 len tx) / (hd0 len tx + 1), hd0 len tx, fun c => tx c - 48, fun r c => tx (hd0 len tx + r * (hd0 len tx + 1) + 1 + c) - 48)
theorem fo_ok {len : Nat} {tx : Nat → Nat} {k : Nat} : ∀ (f row : Nat), row ≤ 36 → k + row * (k + 1) ≤ len → fo len tx k f row = -9 → ∃ n, row ≤ n ∧ n ≤ 36 ∧ len = k + n * (k + 1) ∧ ∀ r, row ≤ r → r < n → ∀ c, c < k → 48 ≤ tx (k + r * (k + 1) + 1 + c) ∧ tx (k + r * (k + 1) + 1 + c) < tx c
  | 0, row, _, _, h => by
    exact absurd (show (0 : Int) = -9 from h) (by decide)
  | f + 1, row, hr, hl, h => by
    by_cases h1 : k + row * (k + 1) < len
    · by_cases h2 : row = 36 ∨ tx (k + row * (k + 1)) ≠ 47
      · rw [fo_sl h1 h2] at h
        omega
      · by_cases h3 : rb len tx (k + row * (k + 1) + 1) k 0 < k
        · rw [fo_row h1 h2 h3] at h
          omega
        · rw [fo_on h1 h2 h3] at h
          have hb := rb_le (len := len) (tx := tx) (p := k + row * (k + 1) + 1) k 0
          have hok := rb_ok (len := len) (tx := tx) (p := k + row * (k + 1) + 1) k 0 (by omega)
          have hm : (row + 1) * (k + 1) = row * (k + 1) + (k + 1) := Nat.succ_mul _ _
          have hle : k + (row + 1) * (k + 1) ≤ len := by
            rw [hm]
            by_cases e : k = 0
            · subst e; omega
            · have := (hok (k - 1) (by omega) (by omega)).1
              omega
          obtain ⟨n, g1, g2, g3, g4⟩ := fo_ok f (row + 1) (by omega) hle h
          refine ⟨n, by omega, g2, g3, fun r hr1 hr2 c hc => ?_⟩
          by_cases e : r = row
          · subst e
            exact (hok c (by omega) (by omega)).2
          · exact g4 r (by omega) hr2 c hc
    · exact ⟨row, Nat.le_refl _, hr, by omega, fun r h1 h2 => by omega⟩
theorem ldA_ok {len : Nat} {tx : Nat → Nat} (h : flt len tx = -9) : 0 < hd0 len tx ∧ (ldA len tx).1 ≤ 36 ∧ len = hd0 len tx + (ldA len tx).1 * (hd0 len tx + 1) ∧ Wf (ldA len tx).1 (ldA len tx).2.1 (ldA len tx).2.2.1 (ldA len tx).2.2.2 := by
  obtain ⟨a1, a2, a3⟩ := hd0_spec len tx
  by_cases e : hd0 len tx = 0
  · rw [flt, cif_t e] at h
    exact absurd h (by decide)
  · rw [flt, cif_f e] at h
    obtain ⟨n, g1, g2, g3, g4⟩ := fo_ok 38 0 (by omega) (by omega) h
    have hn : (ldA len tx).1 = n := by
      show (len - hd0 len tx) / (hd0 len tx + 1) = n
      generalize hd0 len tx = k at *
      rw [g3, Nat.add_sub_cancel_left, Nat.mul_div_cancel _ (by omega)]
    rw [hn]
    refine ⟨by omega, g2, g3, g2, a1, fun c hc => ?_, fun r hr c hc => ?_⟩
    · have := a3 c hc
      unfold lvc at this
      show 2 ≤ tx c - 48 ∧ tx c - 48 ≤ 6
      omega
    · have := g4 r (by omega) hr c hc
      have h2 := a3 c hc
      unfold lvc at h2
      show tx (hd0 len tx + r * (hd0 len tx + 1) + 1 + c) - 48 < tx c - 48
      omega
set_option maxHeartbeats 4000000 in
set_option maxRecDepth 20000 in
theorem c_S_append {M : Mem} {len : Nat} {tx : Nat → Nat} (hS : SX M len tx) {x : Nat} (hl : len < 300) (hx : 32 ≤ x ∧ x ≤ 126) : CT 1 m_X4_append [vR 47, vI ((x : Nat) : Int)] M (fun z M' => z = some (vI (len + 1 : Nat)) ∧ (∀ a, a ≠ 47 → a ≠ 48 → M' a = M a) ∧ SX M' (len + 1) (fun j => if j = len then x else tx j)) := by
  obtain ⟨h0, h1, h2⟩ := hS
  refine CT.ofWP (by decide +kernel) (Nat.le_of_ble_eq_true rfl) ?_
  show WP sc0 1 m_X4_append 0 [vR 47, vI ((x : Nat) : Int)] [] M (fun z M' => z = some (vI (len + 1 : Nat)) ∧ (∀ a, a ≠ 47 → a ≠ 48 → M' a = M a) ∧ SX M' (len + 1) (fun j => if j = len then x else tx j))
  refine WP.aload_n dX4_append_0 rfl ?_
  refine WP.getR (y := 48) dX4_append_1 fl_X4_15 (rfl) (by decide) (rfl) ?_
  refine WP.aload_n dX4_append_4 rfl ?_
  refine WP.getI (x := ((len : Nat) : Int)) dX4_append_5 fl_X4_9 (rfl) (by decide) (h1) ?_
  refine WP.iload_n dX4_append_8 rfl ?_
  refine WP.iastore (y := len) dX4_append_9 (rfl) (by omega) (by omega) rfl ?_
  obtain ⟨M1, hM1⟩ : ∃ z, z = mset M 48 len ((x : Nat) : Int) := ⟨_, rfl⟩
  refine WP.eqM hM1.symm ?_
  refine WP.aload_n dX4_append_10 rfl ?_
  refine WP.dup dX4_append_11 rfl ?_
  refine WP.getI (x := ((len : Nat) : Int)) dX4_append_12 fl_X4_9 (rfl) (by decide) (by rw [hM1, mset_o 47 (by decide)]; exact h1) ?_
  refine WP.iconst dX4_append_15 ?_
  refine WP.iadd dX4_append_16 ?_
  refine WP.putI dX4_append_17 fl_X4_9 (rfl) (by decide) rfl ?_
  obtain ⟨M2, hM2⟩ : ∃ z, z = mset M1 47 0 (((len : Nat) : Int) + 1) := ⟨_, rfl⟩
  refine WP.eqM hM2.symm ?_
  refine WP.aload_n dX4_append_20 rfl ?_
  refine WP.getI (x := ((len + 1 : Nat) : Int)) dX4_append_21 fl_X4_9 (rfl) (by decide) (by rw [hM2, mset_s]; omega) ?_
  refine WP.iret dX4_append_24 rfl ?_
  refine ⟨rfl, fun a i1 i2 => by rw [hM2, mset_o a i1, hM1, mset_o a i2], by omega, by rw [hM2, mset_s]; omega, fun j hj => ?_⟩
  rw [hM2, mset_o 48 (by decide), hM1]
  unfold mset
  dsimp only
  by_cases e : j = len
  · rw [if_pos ⟨rfl, e⟩, if_pos e]
    exact ⟨rfl, hx⟩
  · rw [if_neg (by omega), if_neg e]
    exact h2 j (by omega)
set_option maxHeartbeats 4000000 in
set_option maxRecDepth 20000 in
theorem c_S_digit {M : Mem} {len : Nat} {tx : Nat → Nat} (hS : SX M len tx) {j : Nat} (hj : j < len) : CT 1 m_X4_digit [vR 47, vI ((j : Nat) : Int)] M (Rt (some (vI ((tx j : Int) - 48))) M) := by
  have h0 := hS.1
  refine CT.ofWP (by decide +kernel) (Nat.le_of_ble_eq_true rfl) ?_
  show WP sc0 1 m_X4_digit 0 [vR 47, vI ((j : Nat) : Int)] [] M (Rt (some (vI ((tx j : Int) - 48))) M)
  refine WP.aload_n dX4_digit_0 rfl ?_
  refine WP.getR (y := 48) dX4_digit_1 fl_X4_15 (rfl) (by decide) (rfl) ?_
  refine WP.iload_n dX4_digit_4 rfl ?_
  refine WP.iaload (y := j) (x := ((tx j : Nat) : Int)) dX4_digit_5 (rfl) (by omega) (by omega) ((hS.2.2 j hj).1) ?_
  refine WP.bipush dX4_digit_6 (by decide) ?_
  refine WP.isub dX4_digit_8 ?_
  refine WP.iret dX4_digit_9 rfl ?_
  exact ⟨rfl, rfl⟩
set_option maxHeartbeats 4000000 in
set_option maxRecDepth 20000 in
theorem c_S_headLength {M : Mem} {len : Nat} {tx : Nat → Nat} (hS : SX M len tx) : CT 2 m_X4_headLength [vR 47] M (Rt (some (vI (hd0 len tx : Nat))) M) := by
  have h0 := hS.1
  refine CT.ofWP (by decide +kernel) (Nat.le_of_ble_eq_true rfl) ?_
  show WP sc0 2 m_X4_headLength 0 [vR 47, vU] [] M (Rt (some (vI (hd0 len tx : Nat))) M)
  refine WP.iconst dX4_headLength_0 ?_
  refine WP.istore_n (lt := [vR 47, vI (0 : Int)]) dX4_headLength_1 (by decide) rfl ?_
  have L2 : ∀ (n9 : Nat) (i : Nat) (hi : i ≤ 7 ∧ i ≤ len) (he : hdF len tx (7 - i) i = hd0 len tx), 8 - i < n9 → WP sc0 2 m_X4_headLength 2 [vR 47, vI ((i : Nat) : Int)] [] M (Rt (some (vI (hd0 len tx : Nat))) M) := by
    intro n9
    induction n9 with
    | zero =>
      intro i hi he hm9
      exact absurd hm9 (Nat.not_lt_zero _)
    | succ n9 ih2 =>
      intro i hi he hm9
      have h0 := hS.1
      refine WP.iload_n dX4_headLength_2 rfl ?_
      refine WP.aload_n dX4_headLength_3 rfl ?_
      refine WP.getI (x := ((len : Nat) : Int)) dX4_headLength_4 fl_X4_9 (rfl) (by decide) (hS.2.1) ?_
      refine WP.icmp_ge (tgt := 33) dX4_headLength_7 (by decide) (by omega) (by omega) (fun h7 => ?_) (fun h7 => ?_)
      · skip
        have hst : ¬ (i < len ∧ i < 7 ∧ lvc (tx i)) := by omega
        refine WP.iload_n dX4_headLength_33 rfl ?_
        refine WP.iret dX4_headLength_34 rfl ?_
        refine ⟨congrArg some (congrArg vI (congrArg Int.ofNat ?_)), rfl⟩
        rw [← he]
        by_cases e : i = 7
        · rw [e]; exact (hdF_7 _).symm
        · rw [show 7 - i = 7 - (i + 1) + 1 by omega]
          exact (hdF_f hst).symm
      · skip
        refine WP.iload_n dX4_headLength_10 rfl ?_
        refine WP.bipush dX4_headLength_11 (by decide) ?_
        refine WP.icmp_ge (tgt := 33) dX4_headLength_13 (by decide) (by omega) (by omega) (fun h13 => ?_) (fun h13 => ?_)
        · skip
          have hst : ¬ (i < len ∧ i < 7 ∧ lvc (tx i)) := by omega
          refine WP.iload_n dX4_headLength_33 rfl ?_
          refine WP.iret dX4_headLength_34 rfl ?_
          refine ⟨congrArg some (congrArg vI (congrArg Int.ofNat ?_)), rfl⟩
          rw [← he]
          by_cases e : i = 7
          · rw [e]; exact (hdF_7 _).symm
          · rw [show 7 - i = 7 - (i + 1) + 1 by omega]
            exact (hdF_f hst).symm
        · skip
          refine WP.aload_n dX4_headLength_16 rfl ?_
          refine WP.iload_n dX4_headLength_17 rfl ?_
          refine WP.callVp (as := [vI ((i : Nat) : Int)]) dX4_headLength_18 mv_X4_23 rfl (rfl) (by decide) rfl rfl (c_S_digit hS (j := i) (by omega)) rfl (Nat.le_of_ble_eq_true rfl) (by omega) ?_
          have w1 := hS.2.2 i (by omega)
          refine WP.callSN (as := [vI (((tx i : Nat) : Int) - 48)]) dX4_headLength_21 rfl rfl (c_X_isLevelCount (by omega)) rfl (Nat.le_of_ble_eq_true rfl) (by omega) ?_
          refine WP.if_eq (tgt := 33) dX4_headLength_24 (by decide) (bi_rng) (fun h24 => ?_) (fun h24 => ?_)
          · skip
            have hst : ¬ (i < len ∧ i < 7 ∧ lvc (tx i)) := fun z => bi_0 h24 (by have := z.2.2; unfold lvc at this; omega)
            refine WP.iload_n dX4_headLength_33 rfl ?_
            refine WP.iret dX4_headLength_34 rfl ?_
            refine ⟨congrArg some (congrArg vI (congrArg Int.ofNat ?_)), rfl⟩
            rw [← he]
            by_cases e : i = 7
            · rw [e]; exact (hdF_7 _).symm
            · rw [show 7 - i = 7 - (i + 1) + 1 by omega]
              exact (hdF_f hst).symm
          · skip
            have hgo : i < len ∧ i < 7 ∧ lvc (tx i) := ⟨by omega, by omega, by have := bi_1 h24; unfold lvc; omega⟩
            refine WP.iinc (lt := [vR 47, vI (((i : Nat) : Int) + 1)]) dX4_headLength_27 rfl (by decide) rfl ?_
            refine WP.goto (tgt := 2) dX4_headLength_30 (by decide) ?_
            refine WP.fgt (lt := [vR 47, vI (((i + 1) : Nat) : Int)]) ⟨Or.inr rfl, Or.inr (congrArg vI (by omega)), trivial⟩ ?_
            exact ih2 (i + 1) (by omega) (by rw [← he, show 7 - i = 7 - (i + 1) + 1 by omega]; exact (hdF_t hgo).symm) (by omega)
  refine WP.fgt (lt := [vR 47, vI ((0 : Nat) : Int)]) ⟨Or.inr rfl, Or.inr (congrArg vI (by omega)), trivial⟩ ?_
  exact L2 _ (0) (by omega) (rfl) (Nat.lt_succ_self _)
set_option maxHeartbeats 4000000 in
set_option maxRecDepth 20000 in
theorem c_S_firstFault {M : Mem} {len : Nat} {tx : Nat → Nat} (hS : SX M len tx) : CT 3 m_X4_firstFault [vR 47] M (Rt (some (vI (flt len tx))) M) := by
  have h0 := hS.1
  obtain ⟨k, hkk⟩ : ∃ k, hd0 len tx = k := ⟨_, rfl⟩
  have hk7 : k ≤ 7 ∧ k ≤ len := hkk ▸ ⟨(hd0_spec len tx).1, (hd0_spec len tx).2.1⟩
  have c_S_headLength : CT 2 m_X4_headLength [vR 47] M (Rt (some (vI (k : Nat))) M) := hkk ▸ c_S_headLength hS
  refine CT.ofWP (by decide +kernel) (Nat.le_of_ble_eq_true rfl) ?_
  show WP sc0 3 m_X4_firstFault 0 [vR 47, vU, vU, vU, vU] [] M (Rt (some (vI (flt len tx))) M)
  refine WP.aload_n dX4_firstFault_0 rfl ?_
  refine WP.callVp (as := []) dX4_firstFault_1 mv_X4_19 rfl (rfl) (by decide) rfl rfl (c_S_headLength) rfl (Nat.le_of_ble_eq_true rfl) (by omega) ?_
  refine WP.istore_n (lt := [vR 47, vI ((k : Nat) : Int), vU, vU, vU]) dX4_firstFault_4 (by decide) rfl ?_
  refine WP.iload_n dX4_firstFault_5 rfl ?_
  refine WP.if_ne (tgt := 11) dX4_firstFault_6 (by decide) (by omega) (fun h6 => ?_) (fun h6 => ?_)
  · skip
    refine WP.iload_n dX4_firstFault_11 rfl ?_
    refine WP.istore_n (lt := [vR 47, vI ((k : Nat) : Int), vI ((k : Nat) : Int), vU, vU]) dX4_firstFault_12 (by decide) rfl ?_
    refine WP.iconst dX4_firstFault_13 ?_
    refine WP.istore_n (lt := [vR 47, vI ((k : Nat) : Int), vI ((k : Nat) : Int), vI (0 : Int), vU]) dX4_firstFault_14 (by decide) rfl ?_
    have L15 : ∀ (n9 : Nat) (row p : Nat) (hrow : row ≤ 36) (hp : p = k + row * (k + 1)) (hpl : p ≤ len) (he : fo len tx k (38 - row) row = flt len tx), len + 1 - p < n9 → WP sc0 3 m_X4_firstFault 15 [vR 47, vI ((k : Nat) : Int), vI ((p : Nat) : Int), vI ((row : Nat) : Int), vU] [] M (Rt (some (vI (flt len tx))) M) := by
      intro n9
      induction n9 with
      | zero =>
        intro row p hrow hp hpl he hm9
        exact absurd hm9 (Nat.not_lt_zero _)
      | succ n9 ih15 =>
        intro row p hrow hp hpl he hm9
        have h0 := hS.1
        have hfu : 38 - row = 38 - (row + 1) + 1 := by omega
        rw [hfu] at he
        refine WP.iload_n dX4_firstFault_15 rfl ?_
        refine WP.aload_n dX4_firstFault_16 rfl ?_
        refine WP.getI (x := ((len : Nat) : Int)) dX4_firstFault_17 fl_X4_9 (rfl) (by decide) (hS.2.1) ?_
        refine WP.icmp_ge (tgt := 101) dX4_firstFault_20 (by decide) (by omega) (by omega) (fun h20 => ?_) (fun h20 => ?_)
        · skip
          refine WP.bipush dX4_firstFault_101 (by decide) ?_
          refine WP.iret dX4_firstFault_103 rfl ?_
          refine ⟨congrArg some (congrArg vI ?_), rfl⟩
          rw [← he, fo_end (by rw [← hp]; omega)]
        · skip
          refine WP.iload_n dX4_firstFault_23 rfl ?_
          refine WP.bipush dX4_firstFault_24 (by decide) ?_
          refine WP.icmp_eq (tgt := 40) dX4_firstFault_26 (by decide) (by omega) (by omega) (fun h26 => ?_) (fun h26 => ?_)
          · skip
            refine WP.iload_n dX4_firstFault_40 rfl ?_
            refine WP.iret dX4_firstFault_41 rfl ?_
            refine ⟨congrArg some (congrArg vI ?_), rfl⟩
            rw [← he, fo_sl (by rw [← hp]; omega) (by rw [← hp]; omega), ← hp]
          · skip
            refine WP.aload_n dX4_firstFault_29 rfl ?_
            refine WP.getR (y := 48) dX4_firstFault_30 fl_X4_15 (rfl) (by decide) (rfl) ?_
            refine WP.iload_n dX4_firstFault_33 rfl ?_
            refine WP.iaload (y := p) (x := ((tx p : Nat) : Int)) dX4_firstFault_34 (rfl) (by omega) (by omega) ((hS.2.2 p (by omega)).1) ?_
            refine WP.bipush dX4_firstFault_35 (by decide) ?_
            refine WP.icmp_eq (tgt := 42) dX4_firstFault_37 (by decide) (by have := hS.2.2 p (by omega); omega) (by omega) (fun h37 => ?_) (fun h37 => ?_)
            · skip
              have hns : ¬ (row = 36 ∨ tx (k + row * (k + 1)) ≠ 47) := by rw [← hp]; omega
              obtain ⟨q, hq⟩ : ∃ z, z = p + 1 := ⟨_, rfl⟩
              refine WP.iinc (lt := [vR 47, vI ((k : Nat) : Int), vI (((p : Nat) : Int) + 1), vI ((row : Nat) : Int), vU]) dX4_firstFault_42 rfl (by decide) rfl ?_
              refine WP.iconst dX4_firstFault_45 ?_
              refine WP.istore (lt := [vR 47, vI ((k : Nat) : Int), vI (((p : Nat) : Int) + 1), vI ((row : Nat) : Int), vI (0 : Int)]) dX4_firstFault_46 (by decide) rfl ?_
              have L48 : ∀ (n9 : Nat) (c : Nat) (hc : c ≤ k) (hpc : q + c ≤ len) (hr : rb len tx q (k - c) c = rb len tx q k 0), k - c < n9 → WP sc0 3 m_X4_firstFault 48 [vR 47, vI ((k : Nat) : Int), vI ((q + c : Nat) : Int), vI ((row : Nat) : Int), vI ((c : Nat) : Int)] [] M (Rt (some (vI (flt len tx))) M) := by
                intro n9
                induction n9 with
                | zero =>
                  intro c hc hpc hr hm9
                  exact absurd hm9 (Nat.not_lt_zero _)
                | succ n9 ih48 =>
                  intro c hc hpc hr hm9
                  refine WP.iload dX4_firstFault_48 rfl ?_
                  refine WP.iload_n dX4_firstFault_50 rfl ?_
                  refine WP.icmp_ge (tgt := 95) dX4_firstFault_51 (by decide) (by omega) (by omega) (fun h51 => ?_) (fun h51 => ?_)
                  · skip
                    have hrb : rb len tx q k 0 = c := by rw [← hr, show k - c = 0 by omega]; rfl
                    refine WP.iinc (lt := [vR 47, vI ((k : Nat) : Int), vI ((q + c : Nat) : Int), vI (((row : Nat) : Int) + 1), vI ((c : Nat) : Int)]) dX4_firstFault_95 rfl (by decide) rfl ?_
                    refine WP.goto (tgt := 15) dX4_firstFault_98 (by decide) ?_
                    refine WP.fgt (lt := [vR 47, vI ((k : Nat) : Int), vI (((q + c) : Nat) : Int), vI (((row + 1) : Nat) : Int), vU]) ⟨Or.inr rfl, Or.inr rfl, Or.inr (congrArg vI (by omega)), Or.inr (congrArg vI (by omega)), Or.inl rfl, trivial⟩ ?_
                    exact ih15 (row + 1) (q + c) (by omega) (by rw [hq, hp, Nat.succ_mul]; omega) (by omega) (by rw [← he]; exact (fo_on (by rw [← hp]; omega) hns (by rw [← hp, ← hq]; omega)).symm) (by omega)
                  · skip
                    refine WP.iload_n dX4_firstFault_54 rfl ?_
                    refine WP.aload_n dX4_firstFault_55 rfl ?_
                    refine WP.getI (x := ((len : Nat) : Int)) dX4_firstFault_56 fl_X4_9 (rfl) (by decide) (hS.2.1) ?_
                    refine WP.icmp_ge (tgt := 84) dX4_firstFault_59 (by decide) (by omega) (by omega) (fun h59 => ?_) (fun h59 => ?_)
                    · skip
                      have hrb : rb len tx q k 0 = c := by rw [← hr, show k - c = k - (c + 1) + 1 by omega]; exact rb_f (by omega)
                      refine WP.iload_n dX4_firstFault_84 rfl ?_
                      refine WP.iret dX4_firstFault_85 rfl ?_
                      refine ⟨congrArg some (congrArg vI ?_), rfl⟩
                      rw [← he, fo_row (by rw [← hp]; omega) hns (by rw [← hp, ← hq]; omega), ← hp, ← hq, hrb]
                    · skip
                      refine WP.aload_n dX4_firstFault_62 rfl ?_
                      refine WP.iload_n dX4_firstFault_63 rfl ?_
                      refine WP.eqs (st' := [vI ((q + c : Nat) : Int), vR 47]) rfl (lc (rfl) (rfl)) ?_
                      refine WP.callVp (as := [vI ((q + c : Nat) : Int)]) dX4_firstFault_64 mv_X4_23 rfl (rfl) (by decide) rfl rfl (c_S_digit hS (j := q + c) (by omega)) rfl (Nat.le_of_ble_eq_true rfl) (by omega) ?_
                      have w64 := hS.2.2 (q + c) (by omega)
                      refine WP.if_lt (tgt := 84) dX4_firstFault_67 (by decide) (by omega) (fun h67 => ?_) (fun h67 => ?_)
                      · skip
                        have hrb : rb len tx q k 0 = c := by rw [← hr, show k - c = k - (c + 1) + 1 by omega]; exact rb_f (by omega)
                        refine WP.iload_n dX4_firstFault_84 rfl ?_
                        refine WP.iret dX4_firstFault_85 rfl ?_
                        refine ⟨congrArg some (congrArg vI ?_), rfl⟩
                        rw [← he, fo_row (by rw [← hp]; omega) hns (by rw [← hp, ← hq]; omega), ← hp, ← hq, hrb]
                      · skip
                        refine WP.aload_n dX4_firstFault_70 rfl ?_
                        refine WP.iload_n dX4_firstFault_71 rfl ?_
                        refine WP.eqs (st' := [vI ((q + c : Nat) : Int), vR 47]) rfl (lc (rfl) (rfl)) ?_
                        refine WP.callVp (as := [vI ((q + c : Nat) : Int)]) dX4_firstFault_72 mv_X4_23 rfl (rfl) (by decide) rfl rfl (c_S_digit hS (j := q + c) (by omega)) rfl (Nat.le_of_ble_eq_true rfl) (by omega) ?_
                        have w72 := hS.2.2 (q + c) (by omega)
                        refine WP.aload_n dX4_firstFault_75 rfl ?_
                        refine WP.iload dX4_firstFault_76 rfl ?_
                        refine WP.eqs (st' := [vI ((c : Nat) : Int), vR 47, vI (((tx (q + c) : Nat) : Int) - 48)]) rfl (lc (rfl) (rfl)) ?_
                        refine WP.callVp (as := [vI ((c : Nat) : Int)]) dX4_firstFault_78 mv_X4_23 rfl (rfl) (by decide) rfl rfl (c_S_digit hS (j := c) (by omega)) rfl (Nat.le_of_ble_eq_true rfl) (by omega) ?_
                        have w78 := hS.2.2 c (by omega)
                        refine WP.icmp_lt (tgt := 86) dX4_firstFault_81 (by decide) (by omega) (by omega) (fun h81 => ?_) (fun h81 => ?_)
                        · skip
                          refine WP.iinc (lt := [vR 47, vI ((k : Nat) : Int), vI (((q + c : Nat) : Int) + 1), vI ((row : Nat) : Int), vI ((c : Nat) : Int)]) dX4_firstFault_86 rfl (by decide) rfl ?_
                          refine WP.iinc (lt := [vR 47, vI ((k : Nat) : Int), vI (((q + c : Nat) : Int) + 1), vI ((row : Nat) : Int), vI (((c : Nat) : Int) + 1)]) dX4_firstFault_89 rfl (by decide) rfl ?_
                          refine WP.goto (tgt := 48) dX4_firstFault_92 (by decide) ?_
                          refine WP.fgt (lt := [vR 47, vI ((k : Nat) : Int), vI ((q + (c + 1) : Nat) : Int), vI ((row : Nat) : Int), vI (((c + 1) : Nat) : Int)]) ⟨Or.inr rfl, Or.inr rfl, Or.inr (congrArg vI (by omega)), Or.inr rfl, Or.inr (congrArg vI (by omega)), trivial⟩ ?_
                          exact ih48 (c + 1) (by omega) (by omega) (by rw [← hr, show k - c = k - (c + 1) + 1 by omega]; exact (rb_t (by omega)).symm) (by omega)
                        · skip
                          have hrb : rb len tx q k 0 = c := by rw [← hr, show k - c = k - (c + 1) + 1 by omega]; exact rb_f (by omega)
                          refine WP.iload_n dX4_firstFault_84 rfl ?_
                          refine WP.iret dX4_firstFault_85 rfl ?_
                          refine ⟨congrArg some (congrArg vI ?_), rfl⟩
                          rw [← he, fo_row (by rw [← hp]; omega) hns (by rw [← hp, ← hq]; omega), ← hp, ← hq, hrb]
              refine WP.fgt (lt := [vR 47, vI ((k : Nat) : Int), vI ((q + 0 : Nat) : Int), vI ((row : Nat) : Int), vI ((0 : Nat) : Int)]) ⟨Or.inr rfl, Or.inr rfl, Or.inr (congrArg vI (by omega)), Or.inr rfl, Or.inr (congrArg vI (by omega)), trivial⟩ ?_
              exact L48 _ (0) (by omega) (by omega) (rfl) (Nat.lt_succ_self _)
            · skip
              refine WP.iload_n dX4_firstFault_40 rfl ?_
              refine WP.iret dX4_firstFault_41 rfl ?_
              refine ⟨congrArg some (congrArg vI ?_), rfl⟩
              rw [← he, fo_sl (by rw [← hp]; omega) (by rw [← hp]; omega), ← hp]
    refine WP.fgt (lt := [vR 47, vI ((k : Nat) : Int), vI ((k : Nat) : Int), vI ((0 : Nat) : Int), vU]) ⟨Or.inr rfl, Or.inr rfl, Or.inr rfl, Or.inr (congrArg vI (by omega)), Or.inl rfl, trivial⟩ ?_
    exact L15 _ (0) (k) (by omega) (by omega) (by omega) (by rw [flt, cif_f (by omega), hkk]) (Nat.lt_succ_self _)
  · skip
    have hk0 : k = 0 := by omega
    refine WP.iconst dX4_firstFault_9 ?_
    refine WP.iret dX4_firstFault_10 rfl ?_
    refine ⟨congrArg some (congrArg vI ?_), rfl⟩
    rw [flt, cif_t (by omega)]
