/-! the text -/
def SX (M : Mem) (len : Nat) (tx : Nat → Nat) : Prop := len ≤ 300 ∧ M 47 0 = (len : Int) ∧ ∀ j, j < len → M 48 j = (tx j : Int) ∧ 32 ≤ tx j ∧ tx j ≤ 126
def lvc (x : Nat) : Prop := 50 ≤ x ∧ x ≤ 54
/-- the number of columns that the text begins with -/
noncomputable def hdF (len : Nat) (tx : Nat → Nat) : Nat → Nat → Nat
  | 0, i => i
  | f + 1, i => cif (i < len ∧ i < 7 ∧ lvc (tx i)) (hdF len tx f (i + 1)) i
noncomputable def hd0 (len : Nat) (tx : Nat → Nat) : Nat := hdF len tx 7 0
theorem hdF_t {len : Nat} {tx : Nat → Nat} {f i : Nat} (h : i < len ∧ i < 7 ∧ lvc (tx i)) : hdF len tx (f + 1) i = hdF len tx f (i + 1) := by rw [hdF, cif_t h]
theorem hdF_f {len : Nat} {tx : Nat → Nat} {f i : Nat} (h : ¬ (i < len ∧ i < 7 ∧ lvc (tx i))) : hdF len tx (f + 1) i = i := by rw [hdF, cif_f h]
theorem hdF_7 {len : Nat} {tx : Nat → Nat} (f : Nat) : hdF len tx f 7 = 7 := by
  cases f with
  | zero => rfl
  | succ f => exact hdF_f (by omega)
theorem hdF_spec {len : Nat} {tx : Nat → Nat} : ∀ (f i : Nat), i ≤ 7 → i ≤ len → (∀ j, j < i → lvc (tx j)) → hdF len tx f i ≤ 7 ∧ hdF len tx f i ≤ len ∧ ∀ j, j < hdF len tx f i → lvc (tx j)
  | 0, i, h1, h2, h3 => ⟨h1, h2, h3⟩
  | f + 1, i, h1, h2, h3 => by
    by_cases e : i < len ∧ i < 7 ∧ lvc (tx i)
    · rw [hdF_t e]
      exact hdF_spec f (i + 1) (by omega) (by omega) (fun j hj => by
        by_cases e2 : j = i
        · rw [e2]; exact e.2.2
        · exact h3 j (by omega))
    · rw [hdF_f e]
      exact ⟨h1, h2, h3⟩
theorem hd0_spec (len : Nat) (tx : Nat → Nat) : hd0 len tx ≤ 7 ∧ hd0 len tx ≤ len ∧ ∀ j, j < hd0 len tx → lvc (tx j) := hdF_spec 7 0 (by omega) (by omega) (fun j hj => absurd hj (Nat.not_lt_zero j))
/-- the first wrong level of a row that begins at p -/
noncomputable def rb (len : Nat) (tx : Nat → Nat) (p : Nat) : Nat → Nat → Nat
  | 0, c => c
  | f + 1, c => cif (p + c < len ∧ 48 ≤ tx (p + c) ∧ tx (p + c) < tx c) (rb len tx p f (c + 1)) c
theorem rb_t {len : Nat} {tx : Nat → Nat} {p f c : Nat} (h : p + c < len ∧ 48 ≤ tx (p + c) ∧ tx (p + c) < tx c) : rb len tx p (f + 1) c = rb len tx p f (c + 1) := by rw [rb, cif_t h]
theorem rb_f {len : Nat} {tx : Nat → Nat} {p f c : Nat} (h : ¬ (p + c < len ∧ 48 ≤ tx (p + c) ∧ tx (p + c) < tx c)) : rb len tx p (f + 1) c = c := by rw [rb, cif_f h]
theorem rb_le {len : Nat} {tx : Nat → Nat} {p : Nat} : ∀ (f c : Nat), c ≤ rb len tx p f c ∧ rb len tx p f c ≤ c + f
  | 0, c => ⟨Nat.le_refl _, Nat.le_refl _⟩
  | f + 1, c => by
    by_cases e : p + c < len ∧ 48 ≤ tx (p + c) ∧ tx (p + c) < tx c
    · rw [rb_t e]
      have := rb_le (len := len) (tx := tx) (p := p) f (c + 1)
      omega
    · rw [rb_f e]; omega
theorem rb_ok {len : Nat} {tx : Nat → Nat} {p : Nat} : ∀ (f c : Nat), rb len tx p f c = c + f → ∀ j, c ≤ j → j < c + f → p + j < len ∧ 48 ≤ tx (p + j) ∧ tx (p + j) < tx j
  | 0, c, _, j, h1, h2 => by omega
  | f + 1, c, h, j, h1, h2 => by
    by_cases e : p + c < len ∧ 48 ≤ tx (p + c) ∧ tx (p + c) < tx c
    · rw [rb_t e] at h
      by_cases e2 : j = c
      · rw [e2]; exact e
      · exact rb_ok f (c + 1) (by omega) j (by omega) (by omega)
    · rw [rb_f e] at h
      omega
/-- the text's fault: from a row on -/
noncomputable def fo (len : Nat) (tx : Nat → Nat) (k : Nat) : Nat → Nat → Int
  | 0, _ => 0
  | f + 1, row => cif (k + row * (k + 1) < len)
      (cif (row = 36 ∨ tx (k + row * (k + 1)) ≠ 47) ((k + row * (k + 1) : Nat) : Int)
        (cif (rb len tx (k + row * (k + 1) + 1) k 0 < k) ((k + row * (k + 1) + 1 + rb len tx (k + row * (k + 1) + 1) k 0 : Nat) : Int) (fo len tx k f (row + 1))))
      (-9)
noncomputable def flt (len : Nat) (tx : Nat → Nat) : Int := cif (hd0 len tx = 0) 0 (fo len tx (hd0 len tx) 38 0)
theorem fo_end {len : Nat} {tx : Nat → Nat} {k f row : Nat} (h : ¬ k + row * (k + 1) < len) : fo len tx k (f + 1) row = -9 := by rw [fo, cif_f h]
theorem fo_sl {len : Nat} {tx : Nat → Nat} {k f row : Nat} (h : k + row * (k + 1) < len) (h2 : row = 36 ∨ tx (k + row * (k + 1)) ≠ 47) : fo len tx k (f + 1) row = ((k + row * (k + 1) : Nat) : Int) := by rw [fo, cif_t h, cif_t h2]
theorem fo_row {len : Nat} {tx : Nat → Nat} {k f row : Nat} (h : k + row * (k + 1) < len) (h2 : ¬ (row = 36 ∨ tx (k + row * (k + 1)) ≠ 47)) (h3 : rb len tx (k + row * (k + 1) + 1) k 0 < k) : fo len tx k (f + 1) row = ((k + row * (k + 1) + 1 + rb len tx (k + row * (k + 1) + 1) k 0 : Nat) : Int) := by rw [fo, cif_t h, cif_f h2, cif_t h3]
theorem fo_on {len : Nat} {tx : Nat → Nat} {k f row : Nat} (h : k + row * (k + 1) < len) (h2 : ¬ (row = 36 ∨ tx (k + row * (k + 1)) ≠ 47)) (h3 : ¬ rb len tx (k + row * (k + 1) + 1) k 0 < k) : fo len tx k (f + 1) row = fo len tx k f (row + 1) := by rw [fo, cif_t h, cif_f h2, cif_f h3]
/-- the array of a text without a fault -/
noncomputable def ldA (len : Nat) (tx : Nat → Nat) : AR := ((len - hd0 len tx) / (hd0 len tx + 1), hd0 len tx, fun c => tx c - 48, fun r c => tx (hd0 len tx + r * (hd0 len tx + 1) + 1 + c) - 48)
theorem fo_ok {len : Nat} {tx : Nat → Nat} {k : Nat} : ∀ (f row : Nat), row ≤ 36 → k + row * (k + 1) ≤ len → fo len tx k f row = -9 → ∃ n, row ≤ n ∧ n ≤ 36 ∧ len = k + n * (k + 1) ∧ ∀ r, row ≤ r → r < n → ∀ c, c < k → 48 ≤ tx (k + r * (k + 1) + 1 + c) ∧ tx (k + r * (k + 1) + 1 + c) < tx c
  | 0, row, _, _, h => by
    exact absurd (show (0 : Int) = -9 from h) (by decide)
  | f + 1, row, hr, hl, h => by
    by_cases h1 : k + row * (k + 1) < len
    · by_cases h2 : row = 36 ∨ tx (k + row * (k + 1)) ≠ 47
      · rw [fo_sl h1 h2] at h
        omega
      · by_cases h3 : rb len tx (k + row * (k + 1) + 1) k 0 < k
        · rw [fo_row h1 h2 h3] at h
          omega
        · rw [fo_on h1 h2 h3] at h
          have hb := rb_le (len := len) (tx := tx) (p := k + row * (k + 1) + 1) k 0
          have hok := rb_ok (len := len) (tx := tx) (p := k + row * (k + 1) + 1) k 0 (by omega)
          have hm : (row + 1) * (k + 1) = row * (k + 1) + (k + 1) := Nat.succ_mul _ _
          have hle : k + (row + 1) * (k + 1) ≤ len := by
            rw [hm]
            by_cases e : k = 0
            · subst e; omega
            · have := (hok (k - 1) (by omega) (by omega)).1
              omega
          obtain ⟨n, g1, g2, g3, g4⟩ := fo_ok f (row + 1) (by omega) hle h
          refine ⟨n, by omega, g2, g3, fun r hr1 hr2 c hc => ?_⟩
          by_cases e : r = row
          · subst e
            exact (hok c (by omega) (by omega)).2
          · exact g4 r (by omega) hr2 c hc
    · exact ⟨row, Nat.le_refl _, hr, by omega, fun r h1 h2 => by omega⟩
theorem ldA_ok {len : Nat} {tx : Nat → Nat} (h : flt len tx = -9) : 0 < hd0 len tx ∧ (ldA len tx).1 ≤ 36 ∧ len = hd0 len tx + (ldA len tx).1 * (hd0 len tx + 1) ∧ Wf (ldA len tx).1 (ldA len tx).2.1 (ldA len tx).2.2.1 (ldA len tx).2.2.2 := by
  obtain ⟨a1, a2, a3⟩ := hd0_spec len tx
  by_cases e : hd0 len tx = 0
  · rw [flt, cif_t e] at h
    exact absurd h (by decide)
  · rw [flt, cif_f e] at h
    obtain ⟨n, g1, g2, g3, g4⟩ := fo_ok 38 0 (by omega) (by omega) h
    have hn : (ldA len tx).1 = n := by
      show (len - hd0 len tx) / (hd0 len tx + 1) = n
      generalize hd0 len tx = k at *
      rw [g3, Nat.add_sub_cancel_left, Nat.mul_div_cancel _ (by omega)]
    rw [hn]
    refine ⟨by omega, g2, g3, g2, a1, fun c hc => ?_, fun r hr c hc => ?_⟩
    · have := a3 c hc
      unfold lvc at this
      show 2 ≤ tx c - 48 ∧ tx c - 48 ≤ 6
      omega
    · have := g4 r (by omega) hr c hc
      have h2 := a3 c hc
      unfold lvc at h2
      show tx (hd0 len tx + r * (hd0 len tx + 1) + 1 + c) - 48 < tx c - 48
      omega
