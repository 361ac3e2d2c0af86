/-! one column less -/
theorem mk_tb (m r : Nat) : mk m r ↔ m.testBit r = true := by
  unfold mk
  rw [Nat.testBit_eq_decide_div_mod_eq]
  simp
theorem mk_or (m c r : Nat) : mk (m ||| 2 ^ c) r ↔ mk m r ∨ r = c := by
  rw [mk_tb, mk_tb, Nat.testBit_or, Nat.testBit_two_pow, Bool.or_eq_true, decide_eq_true_eq]
  exact ⟨fun z => z.elim Or.inl (fun q => Or.inr q.symm), fun z => z.elim Or.inl (fun q => Or.inr q.symm)⟩
theorem mk_dec {m r : Nat} : (m / 2 ^ r % 2 = 1) = mk m r := rfl
theorem cn_one {n c : Nat} (h : c < n) : cn (fun r => r = c) n = 1 := by
  have key : ∀ n, cn (fun r => r = c) n = if c < n then 1 else 0 := by
    intro n
    induction n with
    | zero => rfl
    | succ n ih =>
      by_cases e : n = c
      · rw [cn_t (p := fun r => r = c) e, ih, if_neg (by omega), if_pos (by omega)]
      · rw [cn_f (p := fun r => r = c) e, ih]
        by_cases h : c < n
        · rw [if_pos h, if_pos (by omega)]
        · rw [if_neg h, if_neg (by omega)]
  rw [key, if_pos h]
theorem popn_or {m c : Nat} (hc : c < 12) (h : ¬ mk m c) : popn 12 (m ||| 2 ^ c) = popn 12 m + 1 := by
  rw [popn_cn, popn_cn, ← cn_one hc]
  exact (cn_add (fun r _ => ⟨(mk_or m c r).symm, fun z => h (z.2 ▸ z.1)⟩)).symm
theorem tps_eq {sz : Nat → Nat} {s s' : Nat} : ∀ {k : Nat}, (∀ b, b < k → (mk s b ↔ mk s' b)) → tps sz s k = tps sz s' k
  | 0, _ => rfl
  | k + 1, h => by
    have ih := tps_eq (sz := sz) (k := k) (fun b hb => h b (by omega))
    have hk := h k (by omega)
    rw [← mk_dec, ← mk_dec] at hk
    unfold tps
    by_cases e : s / 2 ^ k % 2 = 1
    · rw [if_pos e, if_pos (hk.mp e), ih]
    · rw [if_neg e, if_neg (fun z => e (hk.mpr z)), ih]
theorem tpo_eq {sz row : Nat → Nat} {s s' : Nat} : ∀ {k : Nat}, (∀ b, b < k → (mk s b ↔ mk s' b)) → tpo sz row s k = tpo sz row s' k
  | 0, _ => rfl
  | k + 1, h => by
    have ih := tpo_eq (sz := sz) (row := row) (k := k) (fun b hb => h b (by omega))
    have hk := h k (by omega)
    rw [← mk_dec, ← mk_dec] at hk
    unfold tpo
    by_cases e : s / 2 ^ k % 2 = 1
    · rw [if_pos e, if_pos (hk.mp e), ih]
    · rw [if_neg e, if_neg (fun z => e (hk.mpr z)), ih]
theorem mul_add_iff {x y s w v : Nat} (hw : w < s) (hv : v < s) : x * s + w = y * s + v ↔ x = y ∧ w = v := by
  constructor
  · intro h
    have h1 : (x * s + w) / s = x := by rw [Nat.mul_comm, Nat.mul_add_div (by omega), Nat.div_eq_of_lt hw, Nat.add_zero]
    have h2 : (y * s + v) / s = y := by rw [Nat.mul_comm, Nat.mul_add_div (by omega), Nat.div_eq_of_lt hv, Nat.add_zero]
    have h3 : x = y := by rw [← h1, ← h2, h]
    subst h3
    exact ⟨rfl, by omega⟩
  · rintro ⟨rfl, rfl⟩; rfl
theorem tp_ins {sz : Nat → Nat} {s c v : Nat} (hc : ¬ mk s c) (hv : v < sz c) : ∀ (j : Nat), (∀ b, b < c + 1 + j → 2 ≤ sz b) → tps sz (s ||| 2 ^ c) (c + 1 + j) = tps sz s (c + 1 + j) * sz c ∧
    ∀ y, y < tps sz s (c + 1 + j) → ∃ y', y' < tps sz (s ||| 2 ^ c) (c + 1 + j) ∧ ∀ row : Nat → Nat, (∀ b, b < c + 1 + j → row b < sz b) → (tpo sz row (s ||| 2 ^ c) (c + 1 + j) = y' ↔ tpo sz row s (c + 1 + j) = y ∧ row c = v)
  | 0, h => by
    have e1 : ∀ b, b < c → (mk (s ||| 2 ^ c) b ↔ mk s b) := fun b hb => by rw [mk_or]; exact ⟨fun z => z.elim id (fun q => by omega), Or.inl⟩
    have e2 : (s ||| 2 ^ c) / 2 ^ c % 2 = 1 := (mk_or s c c).mpr (Or.inr rfl)
    have e3 : ¬ (s / 2 ^ c % 2 = 1) := hc
    have t1 : tps sz (s ||| 2 ^ c) (c + 1 + 0) = tps sz s c * sz c := by
      show tps sz (s ||| 2 ^ c) (c + 1) = _
      rw [tps, if_pos e2, tps_eq e1]
    have t2 : tps sz s (c + 1 + 0) = tps sz s c := by
      show tps sz s (c + 1) = _
      rw [tps, if_neg e3]
    refine ⟨by rw [t1, t2], fun y hy => ⟨y * sz c + v, ?_, fun row hrow => ?_⟩⟩
    · rw [t1]
      rw [t2] at hy
      have : (y + 1) * sz c ≤ tps sz s c * sz c := Nat.mul_le_mul_right _ hy
      rw [Nat.succ_mul] at this
      omega
    · show tpo sz row (s ||| 2 ^ c) (c + 1) = _ ↔ tpo sz row s (c + 1) = _ ∧ _
      rw [tpo, tpo, if_pos e2, if_neg e3, tpo_eq e1]
      exact mul_add_iff (hrow c (by omega)) hv
  | j + 1, h => by
    obtain ⟨i1, i2⟩ := tp_ins hc hv j (fun b hb => h b (by omega))
    have hm : mk (s ||| 2 ^ c) (c + 1 + j) ↔ mk s (c + 1 + j) := by rw [mk_or]; exact ⟨fun z => z.elim id (fun q => by omega), Or.inl⟩
    rw [← mk_dec, ← mk_dec] at hm
    have hz := h (c + 1 + j) (by omega)
    show tps sz (s ||| 2 ^ c) (c + 1 + j + 1) = tps sz s (c + 1 + j + 1) * sz c ∧ ∀ y, y < tps sz s (c + 1 + j + 1) → ∃ y', y' < tps sz (s ||| 2 ^ c) (c + 1 + j + 1) ∧ ∀ row : Nat → Nat, (∀ b, b < c + 1 + j + 1 → row b < sz b) → (tpo sz row (s ||| 2 ^ c) (c + 1 + j + 1) = y' ↔ tpo sz row s (c + 1 + j + 1) = y ∧ row c = v)
    by_cases e : s / 2 ^ (c + 1 + j) % 2 = 1
    · have e' := hm.mpr e
      rw [tps, tps, if_pos e, if_pos e', i1]
      refine ⟨by rw [Nat.mul_right_comm], fun y hy => ?_⟩
      obtain ⟨y0, g1, g2⟩ := i2 (y / sz (c + 1 + j)) (Nat.div_lt_of_lt_mul (by rw [Nat.mul_comm]; exact hy))
      have hym := Nat.mod_lt y (show 0 < sz (c + 1 + j) by omega)
      refine ⟨y0 * sz (c + 1 + j) + y % sz (c + 1 + j), ?_, fun row hrow => ?_⟩
      · rw [i1] at g1
        have : (y0 + 1) * sz (c + 1 + j) ≤ tps sz s (c + 1 + j) * sz c * sz (c + 1 + j) := Nat.mul_le_mul_right _ g1
        rw [Nat.succ_mul] at this
        omega
      · rw [tpo, tpo, if_pos e, if_pos e']
        have w1 := hrow (c + 1 + j) (by omega)
        have hy2 : y = y / sz (c + 1 + j) * sz (c + 1 + j) + y % sz (c + 1 + j) := by rw [Nat.mul_comm]; exact (Nat.div_add_mod _ _).symm
        have a1 := mul_add_iff (x := tpo sz row (s ||| 2 ^ c) (c + 1 + j)) (y := y0) w1 hym
        have a2 := mul_add_iff (x := tpo sz row s (c + 1 + j)) (y := y / sz (c + 1 + j)) w1 hym
        rw [← hy2] at a2
        rw [a1, a2, g2 row (fun b hb => hrow b (by omega))]
        exact ⟨fun z => ⟨⟨z.1.1, z.2⟩, z.1.2⟩, fun z => ⟨⟨z.1.1, z.2⟩, z.1.2⟩⟩
    · have e' : ¬ ((s ||| 2 ^ c) / 2 ^ (c + 1 + j) % 2 = 1) := fun z => e (hm.mp z)
      rw [tps, tps, if_neg e, if_neg e']
      refine ⟨i1, fun y hy => ?_⟩
      obtain ⟨y', g1, g2⟩ := i2 y hy
      refine ⟨y', g1, fun row hrow => ?_⟩
      rw [tpo, tpo, if_neg e, if_neg e']
      exact g2 row (fun b hb => hrow b (by omega))
theorem bal_less {n k s c : Nat} {sz : Nat → Nat} {ce : Nat → Nat → Nat} {P : Nat → Prop} (hW : Wf n k sz ce) (hc : c < k) (hs : ¬ mk s c) (h : bal n k sz ce (s ||| 2 ^ c) P) : bal n k sz ce s P := by
  obtain ⟨j, rfl⟩ : ∃ j, k = c + 1 + j := ⟨k - (c + 1), by omega⟩
  intro y hy
  have hz := hW.2.2.1 c hc
  have h2 : ∀ b, b < c + 1 + j → 2 ≤ sz b := fun b hb => (hW.2.2.1 b hb).1
  have hT : tps sz (s ||| 2 ^ c) (c + 1 + j) = tps sz s (c + 1 + j) * sz c := (tp_ins (v := 0) hs (by omega) j h2).1
  have hTp := tps_pos (sz := sz) (set := s) h2
  -- each part
  have hpart : ∀ v, v < sz c → cn (fun q => (P q ∧ tpo sz (ce q) s (c + 1 + j) = y) ∧ ce q c = v) n * (tps sz s (c + 1 + j) * sz c) = cn P n := fun v hv => by
    obtain ⟨y', g1, g2⟩ := (tp_ins hs hv j h2).2 y hy
    have h3 := h y' g1
    rw [hT] at h3
    rw [← h3]
    congr 1
    exact cn_cg (fun r hr => by
      rw [g2 (ce r) (fun b hb => hW.2.2.2 r hr b hb)]
      exact ⟨fun z => ⟨z.1.1, z.1.2, z.2⟩, fun z => ⟨⟨z.1, z.2.1⟩, z.2.2⟩⟩)
  have hsum := sm_cn (fun r => ce r c) (fun q => P q ∧ tpo sz (ce q) s (c + 1 + j) = y) (sz c) n (fun r hr _ => hW.2.2.2 r hr c hc)
  have h0 := hpart 0 (by omega)
  have hall : ∀ v, v < sz c → cn (fun q => (P q ∧ tpo sz (ce q) s (c + 1 + j) = y) ∧ ce q c = v) n = cn (fun q => (P q ∧ tpo sz (ce q) s (c + 1 + j) = y) ∧ ce q c = 0) n := fun v hv => by
    have h1 := hpart v hv
    rw [← h0] at h1
    exact Nat.eq_of_mul_eq_mul_right (Nat.mul_pos hTp (by omega)) h1
  rw [sm_cg hall, sm_const] at hsum
  show cn (fun q => P q ∧ tpo sz (ce q) s (c + 1 + j) = y) n * _ = _
  rw [← hsum, ← h0, Nat.mul_comm (tps sz s (c + 1 + j)) (sz c), ← Nat.mul_assoc, Nat.mul_comm (cn _ n) (sz c)]
theorem or_lt {s c k : Nat} (hs : s < 2 ^ k) (hc : c < k) : s ||| 2 ^ c < 2 ^ k := Nat.or_lt_two_pow hs (Nat.pow_lt_pow_right (by decide) hc)
theorem okT_less {n k t : Nat} {sz : Nat → Nat} {ce : Nat → Nat → Nat} {P : Nat → Prop} (hW : Wf n k sz ce) (ht : t < k) (h : okT n k sz ce (t + 1) P) : okT n k sz ce t P := by
  intro set hset hp
  have hk := hW.2.1
  have h1 : cn (mk set) k = t := by rw [← popn_12 (by omega) hset]; exact hp
  have h2 : ¬ ∀ r, r < k → mk set r := fun z => by
    have := cn_full.mpr z
    omega
  obtain ⟨c, hc⟩ := Classical.not_forall.mp h2
  have hc1 : c < k := Classical.byContradiction fun z => hc (fun q => absurd q z)
  have hc2 : ¬ mk set c := fun z => hc (fun _ => z)
  exact bal_less hW hc1 hc2 (h _ (or_lt hset hc1) (by rw [popn_or (by omega) hc2, hp]))
/-- the strength -/
noncomputable def stF (ok : Nat → Prop) : Nat → Nat
  | 0 => 0
  | t + 1 => cif (ok (t + 1)) (t + 1) (stF ok t)
theorem stF_eq {ok : Nat → Prop} {s : Nat} : ∀ {k : Nat}, (∀ t, t < k → ok (t + 1) → ok t) → s ≤ k → (s = 0 ∨ ok s) → (s = k ∨ ¬ ok (s + 1)) → stF ok k = s
  | 0, _, h, _, _ => by rw [show s = 0 by omega]; rfl
  | k + 1, hm, h, h1, h2 => by
    by_cases e : s = k + 1
    · rcases h1 with q | q
      · omega
      · subst e
        rw [stF, cif_t q]
    · have hn : ¬ ok (s + 1) := h2.resolve_left e
      have hk : ∀ j, s + 1 + j ≤ k + 1 → ¬ ok (s + 1 + j) := by
        intro j
        induction j with
        | zero => intro _; exact hn
        | succ j ih =>
          intro hj z
          exact ih (by omega) (hm (s + 1 + j) (by omega) z)
      have hk1 : ¬ ok (k + 1) := by
        have := hk (k - s) (by omega)
        rwa [show s + 1 + (k - s) = k + 1 by omega] at this
      rw [stF, cif_f hk1]
      exact stF_eq (fun t ht => hm t (by omega)) (by omega) h1 (Or.inr hn)
theorem stF_le (ok : Nat → Prop) : ∀ k, stF ok k ≤ k
  | 0 => Nat.le_refl _
  | k + 1 => by
    have := stF_le ok k
    by_cases e : ok (k + 1)
    · rw [stF, cif_t e]; omega
    · rw [stF, cif_f e]; omega
/-! greatest and least -/
def mxv (f : Nat → Nat) : Nat → Nat
  | 0 => 0
  | T + 1 => Nat.max (mxv f T) (f T)
def mnv (f : Nat → Nat) (a : Nat) : Nat → Nat
  | 0 => a
  | T + 1 => Nat.min (mnv f a T) (f T)
theorem mxv_ge {f : Nat → Nat} : ∀ {T v : Nat}, v < T → f v ≤ mxv f T
  | 0, v, h => absurd h (Nat.not_lt_zero v)
  | T + 1, v, h => by
    have h1 : mxv f T ≤ mxv f (T + 1) := Nat.le_max_left _ _
    have h2 : f T ≤ mxv f (T + 1) := Nat.le_max_right _ _
    by_cases e : v = T
    · rw [e]; exact h2
    · exact Nat.le_trans (mxv_ge (by omega)) h1
theorem mxv_le {f : Nat → Nat} {X : Nat} : ∀ {T : Nat}, (∀ v, v < T → f v ≤ X) → mxv f T ≤ X
  | 0, _ => Nat.zero_le _
  | T + 1, h => Nat.max_le.mpr ⟨mxv_le (fun v hv => h v (by omega)), h T (by omega)⟩
theorem mnv_le {f : Nat → Nat} {a : Nat} : ∀ {T v : Nat}, v < T → mnv f a T ≤ f v
  | 0, v, h => absurd h (Nat.not_lt_zero v)
  | T + 1, v, h => by
    have h1 : mnv f a (T + 1) ≤ mnv f a T := Nat.min_le_left _ _
    have h2 : mnv f a (T + 1) ≤ f T := Nat.min_le_right _ _
    by_cases e : v = T
    · rw [e]; exact h2
    · exact Nat.le_trans h1 (mnv_le (by omega))
theorem mnv_lea {f : Nat → Nat} {a : Nat} : ∀ {T : Nat}, mnv f a T ≤ a
  | 0 => Nat.le_refl _
  | T + 1 => Nat.le_trans (Nat.min_le_left _ _) mnv_lea
theorem mnv_ge {f : Nat → Nat} {a X : Nat} (ha : X ≤ a) : ∀ {T : Nat}, (∀ v, v < T → X ≤ f v) → X ≤ mnv f a T
  | 0, _ => ha
  | T + 1, h => Nat.le_min.mpr ⟨mnv_ge ha (fun v hv => h v (by omega)), h T (by omega)⟩
def aT : Nat → Prop := fun _ => True
theorem mk_aT {n r : Nat} (h : r < n) : mk (2 ^ n - 1) r ↔ aT r := ⟨fun _ => trivial, fun _ => mk_all h⟩
theorem fi_cg {p q : Nat → Prop} (h : ∀ i, p i ↔ q i) : ∀ f i, fi p f i = fi q f i
  | 0, _ => rfl
  | f + 1, i => by
    by_cases e : p i
    · rw [fi_t e, fi_t ((h i).mp e)]
    · rw [fi_f e, fi_f (fun z => e ((h i).mpr z)), fi_cg h f (i + 1)]
theorem fub_cg {n k t : Nat} {sz : Nat → Nat} {ce : Nat → Nat → Nat} {P P' : Nat → Prop} (h : ∀ r, r < n → (P r ↔ P' r)) : fub n k sz ce t P = fub n k sz ce t P' := fi_cg (fun set => by rw [bal_cg h]) _ _
theorem okT_cg {n k t : Nat} {sz : Nat → Nat} {ce : Nat → Nat → Nat} {P P' : Nat → Prop} (h : ∀ r, r < n → (P r ↔ P' r)) : okT n k sz ce t P ↔ okT n k sz ce t P' := by
  unfold okT
  constructor
  · intro q set h1 h2; exact (bal_cg h).mp (q set h1 h2)
  · intro q set h1 h2; exact (bal_cg h).mpr (q set h1 h2)
noncomputable abbrev ctA (n k : Nat) (sz : Nat → Nat) (ce : Nat → Nat → Nat) (set v : Nat) : Nat := tc sz ce set k aT v n
noncomputable def mxS (n k : Nat) (sz : Nat → Nat) (ce : Nat → Nat → Nat) (set : Nat) : Nat := mxv (ctA n k sz ce set) (tps sz set k)
noncomputable def mnS (n k : Nat) (sz : Nat → Nat) (ce : Nat → Nat → Nat) (set : Nat) : Nat := mnv (ctA n k sz ce set) n (tps sz set k)
noncomputable def gts (n k : Nat) (sz : Nat → Nat) (ce : Nat → Nat → Nat) (t : Nat) : Nat → Nat
  | 0 => 0
  | s + 1 => cif (popn 12 s = t) (Nat.max (gts n k sz ce t s) (mxS n k sz ce s)) (gts n k sz ce t s)
noncomputable def lss (n k : Nat) (sz : Nat → Nat) (ce : Nat → Nat → Nat) (t : Nat) : Nat → Nat
  | 0 => n
  | s + 1 => cif (popn 12 s = t) (Nat.min (lss n k sz ce t s) (mnS n k sz ce s)) (lss n k sz ce t s)
theorem lss_mono {n k t : Nat} {sz : Nat → Nat} {ce : Nat → Nat → Nat} : ∀ {m s : Nat}, s ≤ m → lss n k sz ce t m ≤ lss n k sz ce t s
  | 0, s, h => by rw [show s = 0 by omega]; exact Nat.le_refl _
  | m + 1, s, h => by
    by_cases e : s = m + 1
    · rw [e]; exact Nat.le_refl _
    · have ih := lss_mono (n := n) (k := k) (t := t) (sz := sz) (ce := ce) (m := m) (s := s) (by omega)
      by_cases q : popn 12 m = t
      · rw [lss, cif_t q]; exact Nat.le_trans (Nat.min_le_left _ _) ih
      · rw [lss, cif_f q]; exact ih
theorem mnS_0 {n k set : Nat} {sz : Nat → Nat} {ce : Nat → Nat → Nat} (hW : Wf n k sz ce) (h : n < tps sz set k) : mnS n k sz ce set = 0 := by
  have hs := tc_sum hW set aT
  rw [show cn aT n = n from cn_full.mpr (fun _ _ => trivial)] at hs
  have : ¬ ∀ v, v < tps sz set k → 1 ≤ ctA n k sz ce set v := fun z => by
    have h1 := sm_le (f := fun _ => 1) (g := fun v => tc sz ce set k aT v n) (n := tps sz set k) z
    rw [sm_const, hs] at h1
    omega
  obtain ⟨v, hv⟩ := Classical.not_forall.mp this
  have hv1 : v < tps sz set k := Classical.byContradiction fun z => hv (fun q => absurd q z)
  have hv2 : ctA n k sz ce set v = 0 := by
    rcases Nat.eq_zero_or_pos (ctA n k sz ce set v) with q | q
    · exact q
    · exact absurd (fun _ => q) hv
  have := mnv_le (f := ctA n k sz ce set) (a := n) hv1
  unfold mnS
  omega
theorem gts_le {n k t : Nat} {sz : Nat → Nat} {ce : Nat → Nat → Nat} : ∀ s, gts n k sz ce t s ≤ n
  | 0 => Nat.zero_le _
  | s + 1 => by
    have ih := gts_le (n := n) (k := k) (t := t) (sz := sz) (ce := ce) s
    by_cases q : popn 12 s = t
    · rw [gts, cif_t q]; exact Nat.max_le.mpr ⟨ih, mxv_le (fun v _ => tc_n)⟩
    · rw [gts, cif_f q]; exact ih
/-- rows that can be spared -/
noncomputable def spb (n k : Nat) (sz : Nat → Nat) (ce : Nat → Nat → Nat) (t : Nat) : Nat → Nat
  | 0 => 0
  | s + 1 => cif (0 < s ∧ popn 12 (spb n k sz ce t s) < popn 12 s ∧ okT n k sz ce t (fun r => ¬ mk s r)) s (spb n k sz ce t s)
theorem spb_le {n k t : Nat} {sz : Nat → Nat} {ce : Nat → Nat → Nat} : ∀ s, spb n k sz ce t s ≤ s
  | 0 => Nat.le_refl _
  | s + 1 => by
    have ih := spb_le (n := n) (k := k) (t := t) (sz := sz) (ce := ce) s
    by_cases q : 0 < s ∧ popn 12 (spb n k sz ce t s) < popn 12 s ∧ okT n k sz ce t (fun r => ¬ mk s r)
    · rw [spb, cif_t q]; omega
    · rw [spb, cif_f q]; omega
theorem mk_sub {n s r : Nat} (hs : s < 2 ^ n) : mk (2 ^ n - 1 - s) r ↔ r < n ∧ ¬ mk s r := by
  rw [mk_tb, mk_tb, show 2 ^ n - 1 - s = 2 ^ n - (s + 1) by omega, Nat.testBit_two_pow_sub_succ hs]
  simp
theorem and_not {n s : Nat} (hn : n ≤ 12) (hs : s < 2 ^ n) : Int32.ofInt (((2 ^ n - 1 : Nat)) : Int) &&& (Int32.ofInt (s : Int) ^^^ Int32.ofInt (-1)) = Int32.ofInt ((2 ^ n - 1 - s : Nat) : Int) := by
  have h12 : 2 ^ n ≤ 4096 := Nat.pow_le_pow_right (n := 2) (by decide) hn
  rw [oi_n, oi_n, oi_n]
  apply Int32.toBitVec_inj.mp
  rw [Int32.toBitVec_and, Int32.toBitVec_xor]
  have e1 : ∀ a : Nat, (nI a).toBitVec = BitVec.ofNat 32 a := fun _ => rfl
  have e2 : (Int32.ofInt (-1)).toBitVec = BitVec.allOnes 32 := by decide +kernel
  rw [e1, e1, e1, e2]
  apply BitVec.eq_of_getLsbD_eq
  intro i hi
  rw [BitVec.getLsbD_and, BitVec.getLsbD_xor, BitVec.getLsbD_ofNat, BitVec.getLsbD_ofNat, BitVec.getLsbD_ofNat, BitVec.getLsbD_allOnes, show 2 ^ n - 1 - s = 2 ^ n - (s + 1) by omega, Nat.testBit_two_pow_sub_succ hs, show 2 ^ n - 1 = 2 ^ n - (0 + 1) by omega, Nat.testBit_two_pow_sub_succ (Nat.two_pow_pos n)]
  simp [hi]
theorem l2i_ok : ∀ n : Nat, n < 13 → (Int64.ofNat (2 ^ n - 1)).toInt32 = Int32.ofInt ((2 ^ n - 1 : Nat) : Int) := by decide +kernel
theorem i2l_ok {m : Nat} (h : m < 2147483648) : (Int32.ofInt (m : Int)).toInt64 = Int64.ofNat m := by
  rw [oi_n]
  exact nI_l h
