/-! a permutation of the rows changes no count -/
theorem cn_atmost {f : Nat → Nat} {v : Nat} : ∀ {n : Nat}, (∀ i j, i < n → j < n → f i = f j → i = j) → cn (fun r => f r = v) n ≤ 1
  | 0, _ => Nat.zero_le _
  | n + 1, h => by
    by_cases e : f n = v
    · have h0 : cn (fun r => f r = v) n = 0 := cn_0.mpr (fun r hr z => by
        have := h r n (by omega) (by omega) (z.trans e.symm)
        omega)
      rw [cn_t (p := fun r => f r = v) e, h0]
      exact Nat.le_refl _
    · rw [cn_f (p := fun r => f r = v) e]
      exact cn_atmost (fun i j hi hj => h i j (by omega) (by omega))
theorem cn_eqsm (P : Nat → Prop) : ∀ n, cn P n = sm (fun v => cif (P v) 1 0) n
  | 0 => rfl
  | n + 1 => by rw [cn, sm, cn_eqsm P n]
theorem cn_and {P : Prop} {q : Nat → Prop} {n : Nat} : cn (fun r => P ∧ q r) n = cif P (cn q n) 0 := by
  by_cases e : P
  · rw [cif_t e]; exact cn_cg (fun r _ => ⟨fun z => z.2, fun z => ⟨e, z⟩⟩)
  · rw [cif_f e]; exact cn_0.mpr (fun r _ z => e z.1)
theorem cn_inj {f : Nat → Nat} {n : Nat} (h1 : ∀ r, r < n → f r < n) (h2 : ∀ i j, i < n → j < n → f i = f j → i = j) (P : Nat → Prop) : cn (fun r => P (f r)) n = cn P n := by
  have hs := sm_cn f (fun _ => True) n n (fun r hr _ => h1 r hr)
  rw [show cn (fun _ => True) n = n from cn_full.mpr (fun _ _ => trivial)] at hs
  have hone : ∀ v, v < n → cn (fun r => True ∧ f r = v) n = 1 := sm_tight (c := 1) (fun v _ => by
    rw [cn_cg (q := fun r => f r = v) (fun r _ => ⟨fun z => z.2, fun z => ⟨trivial, z⟩⟩)]
    exact cn_atmost h2) (by rw [hs, Nat.mul_one])
  have hone2 : ∀ v, v < n → cn (fun r => f r = v) n = 1 := fun v hv => by
    rw [← hone v hv]
    exact cn_cg (fun r _ => ⟨fun z => ⟨trivial, z⟩, fun z => z.2⟩)
  rw [← sm_cn f (fun r => P (f r)) n n (fun r hr _ => h1 r hr), cn_eqsm P]
  refine sm_cg (fun v hv => ?_)
  have e1 : cn (fun r => P (f r) ∧ f r = v) n = cn (fun r => P v ∧ f r = v) n := cn_cg (fun r _ => ⟨fun z => ⟨z.2 ▸ z.1, z.2⟩, fun z => ⟨z.2.symm ▸ z.1, z.2⟩⟩)
  rw [e1, cn_and, hone2 v hv]
/-- two places exchanged -/
def tr (p q : Nat) : Nat → Nat := fun r => if r = p then q else if r = q then p else r
theorem tr_lt {p q n : Nat} (hp : p < n) (hq : q < n) (r : Nat) (hr : r < n) : tr p q r < n := by
  unfold tr
  split
  · exact hq
  · split
    · exact hp
    · exact hr
theorem tr_tr (p q r : Nat) : tr p q (tr p q r) = r := by
  unfold tr
  by_cases h1 : r = p
  · rw [if_pos h1]
    by_cases h2 : q = p
    · rw [if_pos h2]; omega
    · rw [if_neg h2, if_pos rfl]; omega
  · rw [if_neg h1]
    by_cases h2 : r = q
    · rw [if_pos h2, if_pos rfl]; omega
    · rw [if_neg h2, if_neg h1, if_neg h2]
theorem tr_inj {p q i j : Nat} (h : tr p q i = tr p q j) : i = j := by rw [← tr_tr p q i, h, tr_tr]
theorem tr_p (p q : Nat) : tr p q p = q := if_pos rfl
theorem tr_q (p q : Nat) : tr p q q = p := by
  unfold tr
  by_cases h : q = p
  · rw [if_pos h, h]
  · rw [if_neg h, if_pos rfl]
theorem tr_o {p q r : Nat} (h1 : r ≠ p) (h2 : r ≠ q) : tr p q r = r := by unfold tr; rw [if_neg h1, if_neg h2]
/-! columns that can be added -/
noncomputable def ca (x : Nat → Nat) (g r : Nat) : Nat := cn (fun q => x q = g) r
noncomputable def cp (ce : Nat → Nat → Nat) (x : Nat → Nat) (c v g r : Nat) : Nat := cn (fun q => ce q c = v ∧ x q = g) r
def ext (n k : Nat) (sz : Nat → Nat) (ce : Nat → Nat → Nat) (lv : Nat) (x : Nat → Nat) : Prop := (∀ q, q < n → x q < lv) ∧ (∀ g, g < lv → ca x g n * lv = n) ∧ ∀ c, c < k → ∀ v, v < sz c → ∀ g, g < lv → cp ce x c v g n * (sz c * lv) = n
def evc (n : Nat) (sz : Nat → Nat) (ce : Nat → Nat → Nat) (c : Nat) : Prop := ∀ v, v < sz c → cn (fun q => ce q c = v) n * sz c = n
def canB (n k : Nat) (sz : Nat → Nat) (ce : Nat → Nat → Nat) (lv : Nat) : Prop := n % lv = 0 ∧ ∀ c, c < k → n % (sz c * lv) = 0 ∧ evc n sz ce c
theorem ext_canB {n k lv : Nat} {sz : Nat → Nat} {ce : Nat → Nat → Nat} {x : Nat → Nat} (hW : Wf n k sz ce) (hl : 0 < lv) (h : ext n k sz ce lv x) : canB n k sz ce lv := by
  refine ⟨by rw [← h.2.1 0 hl, Nat.mul_mod_left], fun c hc => ⟨?_, fun v hv => ?_⟩⟩
  · have hz := hW.2.2.1 c hc
    rw [← h.2.2 c hc 0 (by omega) 0 hl, Nat.mul_mod_left]
  · have hz := hW.2.2.1 c hc
    have hs := sm_cn x (fun q => ce q c = v) lv n (fun r hr _ => h.1 r hr)
    have h0 := h.2.2 c hc v hv 0 hl
    have hall : ∀ g, g < lv → cn (fun q => ce q c = v ∧ x q = g) n = cp ce x c v 0 n := fun g hg => by
      have h1 := (h.2.2 c hc v hv g hg).trans h0.symm
      exact Nat.eq_of_mul_eq_mul_right (Nat.mul_pos (by omega) hl) h1
    rw [sm_cg hall, sm_const] at hs
    rw [← hs]
    refine Eq.trans ?_ h0
    rw [Nat.mul_comm lv, Nat.mul_assoc, Nat.mul_comm lv]
/-- no count above its share -/
def feas (n k : Nat) (sz : Nat → Nat) (ce : Nat → Nat → Nat) (lv : Nat) (x : Nat → Nat) (r : Nat) : Prop := (∀ q, q < r → x q < lv) ∧ (∀ g, g < lv → ca x g r ≤ n / lv) ∧ ∀ c, c < k → ∀ v, v < sz c → ∀ g, g < lv → cp ce x c v g r ≤ n / (sz c * lv)
theorem ext_feas {n k lv : Nat} {sz : Nat → Nat} {ce : Nat → Nat → Nat} {x : Nat → Nat} (hW : Wf n k sz ce) (hl : 0 < lv) (h : ext n k sz ce lv x) {r : Nat} (hr : r ≤ n) : feas n k sz ce lv x r := by
  refine ⟨fun q hq => h.1 q (by omega), fun g hg => ?_, fun c hc v hv g hg => ?_⟩
  · rw [Nat.le_div_iff_mul_le hl]
    have h1 : ca x g r ≤ ca x g n := cn_mono _ hr
    have := Nat.mul_le_mul_right lv h1
    rw [h.2.1 g hg] at this
    exact this
  · have hz := hW.2.2.1 c hc
    rw [Nat.le_div_iff_mul_le (Nat.mul_pos (by omega) hl)]
    have h1 : cp ce x c v g r ≤ cp ce x c v g n := cn_mono _ hr
    have := Nat.mul_le_mul_right (sz c * lv) h1
    rw [h.2.2 c hc v hv g hg] at this
    exact this
theorem feas_ext {n k lv : Nat} {sz : Nat → Nat} {ce : Nat → Nat → Nat} {x : Nat → Nat} (hW : Wf n k sz ce) (hl : 0 < lv) (hb : canB n k sz ce lv) (h : feas n k sz ce lv x n) : ext n k sz ce lv x := by
  have hd : n / lv * lv = n := Nat.div_mul_cancel (Nat.dvd_of_mod_eq_zero hb.1)
  refine ⟨h.1, fun g hg => ?_, fun c hc v hv g hg => ?_⟩
  · have hs := sm_cn x (fun _ => True) lv n (fun r hr _ => h.1 r hr)
    rw [show cn (fun _ => True) n = n from cn_full.mpr (fun _ _ => trivial)] at hs
    have e1 : ∀ g, g < lv → cn (fun q => True ∧ x q = g) n = ca x g n := fun g _ => cn_cg (fun r _ => ⟨fun z => z.2, fun z => ⟨trivial, z⟩⟩)
    rw [sm_cg e1] at hs
    have := sm_tight (c := n / lv) h.2.1 (by rw [hs, Nat.mul_comm, hd]) g hg
    rw [this, hd]
  · have hz := hW.2.2.1 c hc
    obtain ⟨b1, b2⟩ := hb.2 c hc
    have hd2 : n / (sz c * lv) * (sz c * lv) = n := Nat.div_mul_cancel (Nat.dvd_of_mod_eq_zero b1)
    have hs := sm_cn x (fun q => ce q c = v) lv n (fun r hr _ => h.1 r hr)
    have hev := b2 v hv
    have := sm_tight (f := fun g => cp ce x c v g n) (c := n / (sz c * lv)) (h.2.2 c hc v hv) (by
      show sm (fun g => cn (fun q => ce q c = v ∧ x q = g) n) lv = _
      rw [hs]
      have h3 : cn (fun q => ce q c = v) n * sz c = lv * (n / (sz c * lv)) * sz c := by
        rw [hev]
        rw [Nat.mul_comm lv, Nat.mul_assoc, Nat.mul_comm lv (sz c), hd2]
      exact Nat.eq_of_mul_eq_mul_right (by omega) h3) g hg
    show cp ce x c v g n * (sz c * lv) = n
    rw [this, hd2]
/-- the order of columns -/
def lxl (x y : Nat → Nat) (n : Nat) : Prop := ∃ q, q < n ∧ x q < y q ∧ ∀ p, p < q → x p = y p
def nv (x : Nat → Nat) : Nat → Nat
  | 0 => 0
  | q + 1 => nv x q * 6 + x q
theorem nv_cg {x y : Nat → Nat} : ∀ {n : Nat}, (∀ q, q < n → x q = y q) → nv x n = nv y n
  | 0, _ => rfl
  | n + 1, h => by rw [nv, nv, nv_cg (n := n) (fun q hq => h q (by omega)), h n (by omega)]
theorem nv_lt {x y : Nat → Nat} : ∀ {n : Nat}, (∀ q, q < n → x q < 6) → lxl x y n → nv x n < nv y n
  | 0, _, ⟨q, hq, _⟩ => absurd hq (Nat.not_lt_zero q)
  | n + 1, hx, ⟨q, hq, h1, h2⟩ => by
    have hxn := hx n (by omega)
    by_cases e : q = n
    · subst e
      rw [nv, nv, nv_cg h2]
      omega
    · have := nv_lt (n := n) (fun q hq => hx q (by omega)) ⟨q, by omega, h1, h2⟩
      rw [nv, nv]
      omega
theorem lx_tri (x y : Nat → Nat) : ∀ n, lxl x y n ∨ lxl y x n ∨ ∀ q, q < n → x q = y q
  | 0 => Or.inr (Or.inr (fun q hq => absurd hq (Nat.not_lt_zero q)))
  | n + 1 => by
    rcases lx_tri x y n with ⟨q, h1, h2⟩ | ⟨q, h1, h2⟩ | h
    · exact Or.inl ⟨q, by omega, h2⟩
    · exact Or.inr (Or.inl ⟨q, by omega, h2⟩)
    · rcases Nat.lt_trichotomy (x n) (y n) with e | e | e
      · exact Or.inl ⟨n, by omega, e, h⟩
      · refine Or.inr (Or.inr (fun q hq => ?_))
        by_cases e2 : q = n
        · rw [e2]; exact e
        · exact h q (by omega)
      · exact Or.inr (Or.inl ⟨n, by omega, e, fun p hp => (h p hp).symm⟩)
def lext (n k : Nat) (sz : Nat → Nat) (ce : Nat → Nat → Nat) (lv : Nat) (x : Nat → Nat) : Prop := ext n k sz ce lv x ∧ ∀ y, ext n k sz ce lv y → ¬ lxl y x n
theorem lext_ex {n k lv : Nat} {sz : Nat → Nat} {ce : Nat → Nat → Nat} (hl : lv ≤ 6) (h : ∃ x, ext n k sz ce lv x) : ∃ x, lext n k sz ce lv x := by
  obtain ⟨m, ⟨x, hx, hm⟩, hmin⟩ := pk_least (fun m => ∃ x, ext n k sz ce lv x ∧ nv x n = m) (by
    obtain ⟨x, hx⟩ := h
    exact ⟨_, x, hx, rfl⟩)
  refine ⟨x, hx, fun y hy hlt => ?_⟩
  have := nv_lt (fun q hq => by have := hy.1 q hq; omega) hlt
  exact hmin (nv y n) (by omega) ⟨y, hy, rfl⟩
theorem lext_un {n k lv : Nat} {sz : Nat → Nat} {ce : Nat → Nat → Nat} {x y : Nat → Nat} (hx : lext n k sz ce lv x) (hy : lext n k sz ce lv y) : ∀ q, q < n → x q = y q := by
  rcases lx_tri x y n with h | h | h
  · exact absurd h (hy.2 x hx.1)
  · exact absurd h (hx.2 y hy.1)
  · exact h
/-! the least column obeys the rules of the class's search -/
def us (x : Nat → Nat) : Nat → Nat
  | 0 => 0
  | q + 1 => Nat.max (us x q) (x q + 1)
theorem us_gt {x : Nat → Nat} : ∀ {n q : Nat}, q < n → x q < us x n
  | 0, q, h => absurd h (Nat.not_lt_zero q)
  | n + 1, q, h => by
    have h1 : us x n ≤ us x (n + 1) := Nat.le_max_left _ _
    have h2 : x n + 1 ≤ us x (n + 1) := Nat.le_max_right _ _
    by_cases e : q = n
    · rw [e]; omega
    · have := us_gt (x := x) (n := n) (q := q) (by omega)
      omega
theorem us_cg {x y : Nat → Nat} : ∀ {n : Nat}, (∀ q, q < n → x q = y q) → us x n = us y n
  | 0, _ => rfl
  | n + 1, h => by rw [us, us, us_cg (n := n) (fun q hq => h q (by omega)), h n (by omega)]
theorem us_le {x : Nat → Nat} {lv : Nat} : ∀ {n : Nat}, (∀ q, q < n → x q < lv) → us x n ≤ lv
  | 0, _ => Nat.zero_le _
  | n + 1, h => by
    have := us_le (x := x) (n := n) (fun q hq => h q (by omega))
    have h2 := h n (by omega)
    exact Nat.max_le.mpr ⟨this, h2⟩
theorem lext_used {n k lv : Nat} {sz : Nat → Nat} {ce : Nat → Nat → Nat} {x : Nat → Nat} (h : lext n k sz ce lv x) {q : Nat} (hq : q < n) : x q ≤ us x q := by
  apply Classical.byContradiction
  intro hlt
  have hx := h.1.1 q hq
  have hinv : ∀ (a g : Nat), tr (us x q) (x q) a = g ↔ a = tr (us x q) (x q) g := fun a g => ⟨fun z => by rw [← z, tr_tr], fun z => by rw [z, tr_tr]⟩
  refine h.2 (fun p => tr (us x q) (x q) (x p)) ⟨fun p hp => tr_lt (by omega) hx _ (h.1.1 p hp), fun g hg => ?_, fun c hc v hv g hg => ?_⟩ ⟨q, hq, ?_, fun p hp => ?_⟩
  · have e : ca (fun p => tr (us x q) (x q) (x p)) g n = ca x (tr (us x q) (x q) g) n := cn_cg (fun r _ => hinv (x r) g)
    rw [e]
    exact h.1.2.1 (tr (us x q) (x q) g) (tr_lt (by omega) hx _ hg)
  · have e : cp ce (fun p => tr (us x q) (x q) (x p)) c v g n = cp ce x c v (tr (us x q) (x q) g) n := cn_cg (fun r _ => and_congr Iff.rfl (hinv (x r) g))
    rw [e]
    exact h.1.2.2 c hc v hv (tr (us x q) (x q) g) (tr_lt (by omega) hx _ hg)
  · show tr (us x q) (x q) (x q) < x q
    rw [tr_q]; omega
  · have := us_gt (x := x) hp
    exact tr_o (by omega) (by omega)
theorem lext_equal {n k lv : Nat} {sz : Nat → Nat} {ce : Nat → Nat → Nat} {x : Nat → Nat} (h : lext n k sz ce lv x) {p q : Nat} (hpq : p < q) (hq : q < n) (he : ∀ c, c < k → ce p c = ce q c) : x p ≤ x q := by
  apply Classical.byContradiction
  intro hlt
  have hrow : ∀ c, c < k → ∀ r, ce (tr p q r) c = ce r c := fun c hc r => by
    by_cases e1 : r = p
    · rw [e1, tr_p, he c hc]
    · by_cases e2 : r = q
      · rw [e2, tr_q, he c hc]
      · rw [tr_o e1 e2]
  have hl : ∀ r, r < n → tr p q r < n := tr_lt (by omega) hq
  refine h.2 (fun r => x (tr p q r)) ⟨fun r hr => h.1.1 _ (hl r hr), fun g hg => ?_, fun c hc v hv g hg => ?_⟩ ⟨p, by omega, ?_, fun r hr => ?_⟩
  · have e : ca (fun r => x (tr p q r)) g n = ca x g n := cn_inj hl (fun i j _ _ z => tr_inj z) (fun r => x r = g)
    rw [e]
    exact h.1.2.1 g hg
  · have e : cp ce (fun r => x (tr p q r)) c v g n = cp ce x c v g n := Eq.trans (cn_cg (fun r _ => by rw [hrow c hc r])) (cn_inj hl (fun i j _ _ z => tr_inj z) (fun r => ce r c = v ∧ x r = g))
    rw [e]
    exact h.1.2.2 c hc v hv g hg
  · show x (tr p q p) < x p
    rw [tr_p]; omega
  · show x (tr p q r) = x r
    rw [tr_o (by omega) (by omega)]
/-- the last equal row before: its number plus 1, or 0 -/
noncomputable def ebF (ce : Nat → Nat → Nat) (k r : Nat) : Nat → Nat
  | 0 => 0
  | q + 1 => cif (ord ce q r k = 0) (q + 1) (ebF ce k r q)
theorem ebF_le (ce : Nat → Nat → Nat) (k r : Nat) : ∀ q, ebF ce k r q ≤ q
  | 0 => Nat.le_refl _
  | q + 1 => by
    by_cases e : ord ce q r k = 0
    · rw [ebF, cif_t e]; exact Nat.le_refl _
    · rw [ebF, cif_f e]
      have := ebF_le ce k r q
      omega
theorem ebF_eq (ce : Nat → Nat → Nat) (k r : Nat) : ∀ q, 0 < ebF ce k r q → ord ce (ebF ce k r q - 1) r k = 0
  | 0, h => absurd h (Nat.lt_irrefl 0)
  | q + 1, h => by
    by_cases e : ord ce q r k = 0
    · rw [ebF, cif_t e]; exact e
    · rw [ebF, cif_f e] at h ⊢
      exact ebF_eq ce k r q h
noncomputable abbrev eb (ce : Nat → Nat → Nat) (k r : Nat) : Nat := ebF ce k r r
noncomputable def lo (ce : Nat → Nat → Nat) (k : Nat) (x : Nat → Nat) (r : Nat) : Nat := if eb ce k r = 0 then 0 else x (eb ce k r - 1)
def rul (ce : Nat → Nat → Nat) (k : Nat) (x : Nat → Nat) (r : Nat) : Prop := lo ce k x r ≤ x r ∧ x r ≤ us x r
theorem lext_rul {n k lv : Nat} {sz : Nat → Nat} {ce : Nat → Nat → Nat} {x : Nat → Nat} (h : lext n k sz ce lv x) {q : Nat} (hq : q < n) : rul ce k x q := by
  refine ⟨?_, lext_used h hq⟩
  unfold lo
  by_cases e : eb ce k q = 0
  · rw [if_pos e]; exact Nat.zero_le _
  · rw [if_neg e]
    have h1 : eb ce k q ≤ q := ebF_le ce k q q
    have h2 : ord ce (eb ce k q - 1) q k = 0 := ebF_eq ce k q q (Nat.pos_of_ne_zero e)
    exact lext_equal h (by omega) hq (ord_0.mp h2)
