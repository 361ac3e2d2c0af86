theorem rwm_cg {A B : AR} {w y : Nat → Nat} {m : Nat} (h : ∀ b, b < m → y b = w b) (hr : rwm A B y m) : rwm A B w m := fun r hr' => by
  have h1 := hr r hr'
  have e1 : cn (fun q => ∀ c, c < m → imo (w c) (A.2.2.2 q c) = imo (w c) (A.2.2.2 r c)) A.1 = cn (fun q => ∀ c, c < m → imo (y c) (A.2.2.2 q c) = imo (y c) (A.2.2.2 r c)) A.1 := cn_cg (fun q _ => ⟨fun z c hc => by rw [h c hc]; exact z c hc, fun z c hc => by rw [← h c hc]; exact z c hc⟩)
  have e2 : cn (fun q => ∀ c, c < m → B.2.2.2 q (w c / 256) = imo (w c) (A.2.2.2 r c)) A.1 = cn (fun q => ∀ c, c < m → B.2.2.2 q (y c / 256) = imo (y c) (A.2.2.2 r c)) A.1 := cn_cg (fun q _ => ⟨fun z c hc => by rw [h c hc]; exact z c hc, fun z c hc => by rw [← h c hc]; exact z c hc⟩)
  rw [e1, e2]
  exact h1
/-- w with one more column -/
def wup (w : Nat → Nat) (c a : Nat) : Nat → Nat := fun b => if b = c then a else w b
theorem wup_c (w : Nat → Nat) (c a : Nat) : wup w c a c = a := if_pos rfl
theorem wup_b {w : Nat → Nat} {c a b : Nat} (h : b < c) : wup w c a b = w b := if_neg (by omega)
theorem isoP_up {A B : AR} {w : Nat → Nat} {c d x : Nat} (h : isoP A B w c) (h1 : d < A.2.1) (h2 : B.2.2.1 d = A.2.2.1 c) (hx : x < 256) (h3 : pmo (A.2.2.1 c) x) (h4 : foa A c x) (h5 : ∀ b, b < c → w b / 256 ≠ d) : isoP A B (wup w c (256 * d + x)) (c + 1) := fun b hb => by
  have hd : (256 * d + x) / 256 = d := by omega
  by_cases e : b = c
  · subst e
    rw [wup_c, hd]
    refine ⟨h1, h2, pmo_lo.mpr h3, fun u v huv hv n1 n2 => ?_, fun a ha => ?_⟩
    · rw [imo_lo, imo_lo]
      exact h4 u v huv hv n1 n2
    · rw [wup_b ha]
      exact h5 a ha
  · have hb' : b < c := by omega
    rw [wup_b hb']
    obtain ⟨a1, a2, a3, a4, a5⟩ := h b hb'
    exact ⟨a1, a2, a3, a4, fun a ha => by rw [wup_b (show a < c by omega)]; exact a5 a ha⟩
theorem pmo_sur {s x u : Nat} (h : pmo s x) (hu : u < s) : ∃ v, v < s ∧ imo x v = u := inj_sur (f := imo x) ⟨fun i hi => h.1 i hi, fun i j hi hj e => h.2.1 i j hi hj e⟩ hu
theorem LB_on {M M' : Mem} {k c d x : Nat} {sz sz' : Nat → Nat} {w : Nat → Nat} (hc : c < 8) (hs4 : sz c ≤ 4) (hz : sz' d = sz c) (h4' : ∀ e, e < k → sz' e ≤ 4) (hx : x < 256) (hp : pmo (sz c) x) (hL : LB M 135 k sz' (clT w c) (llT w c)) (h1 : ∀ e, M' 136 e = if e = d then lv 1 (c + 1) else M 136 e) (h2 : ∀ u, u < sz c → M' 137 (d * 4 + imo x u) = lv 1 (u + 1)) (h3 : ∀ e u, e ≠ d → u < 4 → M' 137 (e * 4 + u) = M 137 (e * 4 + u)) : LB M' 135 k sz' (clT (wup w c (256 * d + x)) (c + 1)) (llT (wup w c (256 * d + x)) (c + 1)) := fun e he => by
  have hw : ∀ b, b < c → wup w c (256 * d + x) b = w b := fun b hb => wup_b hb
  have hd : (256 * d + x) / 256 = d := by omega
  unfold clT llT
  rw [wup_c, hd, clT_cg hw, llT_cg hw]
  by_cases e9 : e = d
  · subst e9
    refine ⟨⟨?_, by rw [if_pos rfl]; omega⟩, fun u hu => ?_⟩
    · rw [if_pos rfl]
      show M' 136 e = _
      rw [h1, if_pos rfl]; rfl
    · rw [hz] at hu
      obtain ⟨v, hv, e8⟩ := pmo_sur hp hu
      rw [if_pos rfl, ← e8, ← imo_lo x e v, ivo_imo (pmo_lo.mpr hp) hs4 hv, imo_lo]
      exact ⟨h2 v hv, by omega⟩
  · have hLe := hL e he
    have h4e := h4' e he
    refine ⟨⟨?_, by rw [if_neg (fun z => e9 z.symm)]; exact hLe.1.2⟩, fun u hu => ?_⟩
    · rw [if_neg (fun z => e9 z.symm)]
      show M' 136 e = _
      rw [h1, if_neg e9]; exact hLe.1.1
    · rw [if_neg (fun z => e9 z.symm)]
      refine ⟨?_, (hLe.2 u hu).2⟩
      show M' 137 (e * 4 + u) = _
      rw [h3 e u e9 (by omega)]; exact (hLe.2 u hu).1
theorem LB_off {M M' : Mem} {k c d x : Nat} {sz sz' : Nat → Nat} {w : Nat → Nat} (hz : sz' d = sz c) (h4' : ∀ e, e < k → sz' e ≤ 4) (hx : x < 256) (hp : pmo (sz c) x) (hwd : ∀ b, b < c → w b / 256 ≠ d) (hL : LB M 135 k sz' (clT (wup w c (256 * d + x)) (c + 1)) (llT (wup w c (256 * d + x)) (c + 1))) (h1 : ∀ e, M' 136 e = if e = d then lv 0 (c + 1) else M 136 e) (h2 : ∀ u, u < sz c → M' 137 (d * 4 + imo x u) = lv 0 (u + 1)) (h3 : ∀ e u, e ≠ d → u < 4 → M' 137 (e * 4 + u) = M 137 (e * 4 + u)) : LB M' 135 k sz' (clT w c) (llT w c) := fun e he => by
  have hw : ∀ b, b < c → wup w c (256 * d + x) b = w b := fun b hb => wup_b hb
  have hd : (256 * d + x) / 256 = d := by omega
  have hLe := hL e he
  unfold clT llT at hLe
  rw [wup_c, hd, clT_cg hw, llT_cg hw] at hLe
  by_cases e9 : e = d
  · subst e9
    refine ⟨⟨?_, by rw [clT_0.mpr hwd]; omega⟩, fun u hu => ?_⟩
    · show M' 136 e = _
      rw [h1, if_pos rfl, clT_0.mpr hwd]; rfl
    · rw [hz] at hu
      obtain ⟨v, hv, e8⟩ := pmo_sur hp hu
      rw [llT_0 hwd, ← e8]
      exact ⟨h2 v hv, by omega⟩
  · have h4e := h4' e he
    rw [if_neg (fun z => e9 z.symm)] at hLe
    refine ⟨⟨?_, hLe.1.2⟩, fun u hu => ?_⟩
    · show M' 136 e = _
      rw [h1, if_neg e9]; exact hLe.1.1
    · have hLu := hLe.2 u hu
      rw [if_neg (fun z => e9 z.symm)] at hLu
      refine ⟨?_, hLu.2⟩
      show M' 137 (e * 4 + u) = _
      rw [h3 e u e9 (by omega)]; exact hLu.1
/-- the keys up to a depth go with the columns before it -/
theorem KT_cg {M M' : Mem} {n k c : Nat} {sz' : Nat → Nat} {ce' : Nat → Nat → Nat} {w w' : Nat → Nat} (hw : ∀ b, b < c → w b = w' b) (hf : ∀ d, d ≤ c → M' (135 + 5 + d) = M (135 + 5 + d) ∧ M' (135 + 14 + d) = M (135 + 14 + d) ∧ M' (135 + 23 + d) = M (135 + 23 + d)) (h : ∀ d, d ≤ c → KY M 135 d n k sz' (kRK n k sz' ce' (clT w) (llT w) d) (kLK n k sz' ce' (clT w) (llT w) d) (kCK n k sz' ce' (clT w) (llT w) d)) : ∀ d, d ≤ c → KY M' 135 d n k sz' (kRK n k sz' ce' (clT w') (llT w') d) (kLK n k sz' ce' (clT w') (llT w') d) (kCK n k sz' ce' (clT w') (llT w') d) := fun d hd => by
  have hcg : ∀ e, e ≤ d → clT w e = clT w' e ∧ llT w e = llT w' e := T_cg (fun b hb => hw b (by omega))
  rw [← kRK_cg hcg, ← kLK_cg hcg, ← kCK_cg hcg]
  exact (h d hd).fr (hf d hd).1 (hf d hd).2.1 (hf d hd).2.2
/-- the outcome of a search for an isomorphism with the property X -/
def AQ (M : Mem) (n k : Nat) (sz : Nat → Nat) (ce : Nat → Nat → Nat) (sz' : Nat → Nat) (ce' : Nat → Nat → Nat) (w : Nat → Nat) (c : Nat) (X : (Nat → Nat) → Prop) : Option V → Mem → Prop := fun z M' => ∃ v : Int, z = some (vI v) ∧ (∀ x, ¬ ZF c x → M' x = M x) ∧ ((v = 1 ∧ ∃ y, iso (n, k, sz, ce) (n, k, sz', ce') y ∧ X y ∧ (∀ y', iso (n, k, sz, ce) (n, k, sz', ce') y' → X y' → ¬ lxl y' y k) ∧ MAr M' sz y k) ∨ (v = 0 ∧ (∀ y, iso (n, k, sz, ce) (n, k, sz', ce') y → ¬ X y) ∧ MZ M' n k sz sz' ce' w c))
def AC (t n k : Nat) (sz : Nat → Nat) (ce : Nat → Nat → Nat) (sz' : Nat → Nat) (ce' : Nat → Nat → Nat) (c D : Nat) : Prop := ∀ (M : Mem) (w : Nat → Nat), MC M t n k sz ce sz' ce' → isoP (n, k, sz, ce) (n, k, sz', ce') w c → MZ M n k sz sz' ce' w c → CT D m_X3_assign [vR 99, vI ((c : Nat) : Int)] M (AQ M n k sz ce sz' ce' w c (fun y => ∀ b, b < c → y b = w b))
/-- the loop over the orders of one column's levels -/
def LQ (M : Mem) (n k : Nat) (sz : Nat → Nat) (ce : Nat → Nat → Nat) (sz' : Nat → Nat) (ce' : Nat → Nat → Nat) (w : Nat → Nat) (c d turn x : Nat) (m : Int) : Prop := (m = 1 ∧ M 100 c = (d : Int) ∧ pmo (sz c) x ∧ x < 256 ∧ turn = rkB (sz c) x ∧ (∀ v, v < sz c → M 101 (c * 4 + v) = ((imo x v : Nat) : Int)) ∧ ∀ y, iso (n, k, sz, ce) (n, k, sz', ce') y → (∀ b, b < c → y b = w b) → y c / 256 = d → x ≤ y c % 256) ∨ (m = 0 ∧ ∀ y, iso (n, k, sz, ce) (n, k, sz', ce') y → (∀ b, b < c → y b = w b) → y c / 256 ≠ d)
theorem LQ_next {M M' : Mem} {n k c d turn x : Nat} {sz sz' : Nat → Nat} {ce ce' : Nat → Nat → Nat} {w : Nat → Nat} {v : Int} (hc : c < k) (hx : x < 256) (hd : M 100 c = (d : Int)) (ht : turn = rkB (sz c) x) (hlo : ∀ y, iso (n, k, sz, ce) (n, k, sz', ce') y → (∀ b, b < c → y b = w b) → y c / 256 = d → x ≤ y c % 256) (hbad : ∀ y, iso (n, k, sz, ce) (n, k, sz', ce') y → (∀ b, b < c → y b = w b) → y c = 256 * d + x → False) (h : (v = 0 ∧ M' = M ∧ ∀ y, y < 256 → x < y → ¬ pmo (sz c) y) ∨ (v = 1 ∧ (∀ a, a ≠ 101 → M' a = M a) ∧ (∀ i, (i < c * 4 ∨ c * 4 + sz c ≤ i) → M' 101 i = M 101 i) ∧ ∃ x', pmo (sz c) x' ∧ x' < 256 ∧ x < x' ∧ rkB (sz c) x' = rkB (sz c) x + 1 ∧ (∀ y, y < x' → x < y → ¬ pmo (sz c) y) ∧ ∀ v, v < sz c → M' 101 (c * 4 + v) = ((imo x' v : Nat) : Int))) : ∃ x2, LQ M' n k sz ce sz' ce' w c d (turn + 1) x2 v := by
  have hpm : ∀ y, iso (n, k, sz, ce) (n, k, sz', ce') y → pmo (sz c) (y c % 256) := fun y hy => pmo_md.mpr (hy.2.2.1 c hc).2.2.1
  have hgt : ∀ y, iso (n, k, sz, ce) (n, k, sz', ce') y → (∀ b, b < c → y b = w b) → y c / 256 = d → x < y c % 256 := fun y h1 h2 h3 => by
    have a1 := hlo y h1 h2 h3
    by_cases e : y c % 256 = x
    · exact absurd (by omega) (hbad y h1 h2)
    · omega
  rcases h with ⟨h1, h2, h3⟩ | ⟨h1, h2, h3, x', p1, p2, p3, p4, p5, p6⟩
  · exact ⟨0, Or.inr ⟨h1, fun y y1 y2 y3 => h3 _ (Nat.mod_lt _ (by decide)) (hgt y y1 y2 y3) (hpm y y1)⟩⟩
  · refine ⟨x', Or.inl ⟨h1, by rw [h2 100 (by decide)]; exact hd, p1, p2, by rw [p4, ht], p6, fun y y1 y2 y3 => ?_⟩⟩
    rcases Nat.lt_or_ge (y c % 256) x' with z | z
    · exact absurd (hpm y y1) (p5 _ z (hgt y y1 y2 y3))
    · exact z
theorem MZ_chg {M M' : Mem} {n k c : Nat} {sz sz' : Nat → Nat} {ce' : Nat → Nat → Nat} {w : Nat → Nat} (hs : ∀ b, b < c → sz b ≤ 4) (hc : c < 8) (h : MZ M n k sz sz' ce' w c) (hf : ∀ a, a ≠ 100 → a ≠ 101 → a ≠ 102 → a ≠ 166 → M' a = M a) (h0 : ∀ b, b < c → M' 100 b = M 100 b) (h1 : ∀ i, i < c * 4 → M' 101 i = M 101 i) : MZ M' n k sz sz' ce' w c := by
  obtain ⟨a1, a2, a3⟩ := h
  exact ⟨a1.fr (hf _ (by decide) (by decide) (by decide) (by decide)) (hf _ (by decide) (by decide) (by decide) (by decide)), fun d hd => (a2 d hd).fr (hf _ (by omega) (by omega) (by omega) (by omega)) (hf _ (by omega) (by omega) (by omega) (by omega)) (hf _ (by omega) (by omega) (by omega) (by omega)), fun b hb => ⟨by rw [h0 b hb]; exact (a3 b hb).1, fun v hv => by have := hs b hb; rw [h1 _ (by omega)]; exact (a3 b hb).2 v hv⟩⟩
/-- the least with one image of column c is the least of all with that image of the column -/
theorem AQ_lv {k c d x : Nat} {w y : Nat → Nat} {I : (Nat → Nat) → Prop} (hc : c < k) (hx : x < 256) (hlo : ∀ y, I y → (∀ b, b < c → y b = w b) → y c / 256 = d → x ≤ y c % 256) (h1 : ∀ b, b < c + 1 → y b = wup w c (256 * d + x) b) (h2 : ∀ y', I y' → (∀ b, b < c + 1 → y' b = wup w c (256 * d + x) b) → ¬ lxl y' y k) : ((∀ b, b < c → y b = w b) ∧ y c / 256 = d) ∧ ∀ y', I y' → ((∀ b, b < c → y' b = w b) ∧ y' c / 256 = d) → ¬ lxl y' y k := by
  have hyc : y c = 256 * d + x := by rw [h1 c (by omega), wup_c]
  have hyb : ∀ b, b < c → y b = w b := fun b hb => by rw [h1 b (by omega), wup_b hb]
  refine ⟨⟨hyb, by omega⟩, fun y' hI ⟨h3, h4⟩ hl => ?_⟩
  have hl0 := hl
  obtain ⟨q, q1, q2, q3⟩ := hl
  rcases Nat.lt_trichotomy q c with z | z | z
  · rw [h3 q z, hyb q z] at q2
    omega
  · subst z
    have := hlo y' hI h3 h4
    omega
  · refine h2 y' hI (fun b hb => ?_) hl0
    rw [q3 b (by omega), h1 b hb]
theorem AQ_col {k c d : Nat} {w y : Nat → Nat} {I : (Nat → Nat) → Prop} (hno : ∀ e, e < d → ∀ y, I y → (∀ b, b < c → y b = w b) → y c / 256 ≠ e) (h1 : (∀ b, b < c → y b = w b) ∧ y c / 256 = d) (h2 : ∀ y', I y' → ((∀ b, b < c → y' b = w b) ∧ y' c / 256 = d) → ¬ lxl y' y k) : ∀ y', I y' → (∀ b, b < c → y' b = w b) → ¬ lxl y' y k := fun y' hI h3 hl => by
  have hl0 := hl
  obtain ⟨q, q1, q2, q3⟩ := hl
  have hd : y' c / 256 ≠ d := fun z => h2 y' hI ⟨h3, z⟩ hl0
  rcases Nat.lt_trichotomy q c with z | z | z
  · rw [h3 q z, h1.1 q z] at q2
    omega
  · subst z
    have := h1.2
    refine hno (y' q / 256) ?_ y' hI h3 rfl
    omega
  · rw [q3 c z] at hd
    exact hd h1.2
