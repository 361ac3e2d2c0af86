/-! the matcher: labels of the other side, orders of levels, rows -/
theorem lcI_0 {x y : Int64} : lcI x y = 0 ↔ x = y := by
  unfold lcI
  by_cases h : x > y
  · rw [if_pos h]
    exact ⟨fun z => absurd z (by decide), fun z => by rw [z] at h; exact absurd (Int64.lt_iff_toInt_lt.mp h) (by omega)⟩
  · rw [if_neg h]
    by_cases h2 : x = y
    · rw [if_pos h2]; exact ⟨fun _ => h2, fun _ => rfl⟩
    · rw [if_neg h2]; exact ⟨fun z => absurd z (by decide), fun z => absurd z h2⟩
theorem lcI_r {x y : Int64} : -2147483648 ≤ lcI x y ∧ lcI x y < 2147483648 := by
  unfold lcI
  split
  · omega
  · split <;> omega
/-- the level with an image -/
def ivo (x u : Nat) : Nat := if imo x 0 = u then 0 else if imo x 1 = u then 1 else if imo x 2 = u then 2 else 3
theorem ivo_le (x u : Nat) : ivo x u ≤ 3 := by
  unfold ivo
  split
  · omega
  · split
    · omega
    · split <;> omega
theorem ivo_imo {s x v : Nat} (h : pmo s x) (h4 : s ≤ 4) (hv : v < s) : ivo x (imo x v) = v := by
  have key : ∀ u, u < s → imo x u = imo x v → u = v := fun u hu e => h.2.1 u v hu hv e
  have ne : ∀ u, imo x u ≠ imo x v → v ≠ u := fun u e z => e (by rw [z])
  unfold ivo
  by_cases e0 : imo x 0 = imo x v
  · rw [if_pos e0]; exact key 0 (by omega) e0
  · rw [if_neg e0]
    have n0 := ne 0 e0
    by_cases e1 : imo x 1 = imo x v
    · rw [if_pos e1]; exact key 1 (by omega) e1
    · rw [if_neg e1]
      have n1 := ne 1 e1
      by_cases e2 : imo x 2 = imo x v
      · rw [if_pos e2]; exact key 2 (by omega) e2
      · rw [if_neg e2]
        have n2 := ne 2 e2
        omega
def clT (w : Nat → Nat) : Nat → Nat → Nat
  | 0, _ => 0
  | d + 1, e => if w d / 256 = e then d + 1 else clT w d e
def llT (w : Nat → Nat) : Nat → Nat → Nat → Nat
  | 0, _, _ => 0
  | d + 1, e, u => if w d / 256 = e then ivo (w d) u + 1 else llT w d e u
theorem clT_le (w : Nat → Nat) (e : Nat) : ∀ d, clT w d e ≤ d
  | 0 => Nat.le_refl _
  | d + 1 => by
    have ih := clT_le w e d
    unfold clT
    split <;> omega
theorem llT_le (w : Nat → Nat) (e u : Nat) : ∀ d, llT w d e u ≤ 4
  | 0 => Nat.zero_le _
  | d + 1 => by
    have ih := llT_le w e u d
    have := ivo_le (w d) u
    unfold llT
    split <;> omega
theorem clT_0 {w : Nat → Nat} {e : Nat} : ∀ {c : Nat}, clT w c e = 0 ↔ ∀ b, b < c → w b / 256 ≠ e
  | 0 => ⟨fun _ b hb => absurd hb (Nat.not_lt_zero b), fun _ => rfl⟩
  | c + 1 => by
    unfold clT
    by_cases e9 : w c / 256 = e
    · rw [if_pos e9]
      exact ⟨fun z => by omega, fun z => absurd e9 (z c (by omega))⟩
    · rw [if_neg e9, clT_0 (c := c)]
      exact ⟨fun z b hb => by
        by_cases e8 : b = c
        · rw [e8]; exact e9
        · exact z b (by omega), fun z b hb => z b (by omega)⟩
theorem llT_0 {w : Nat → Nat} {e u : Nat} : ∀ {c : Nat}, (∀ b, b < c → w b / 256 ≠ e) → llT w c e u = 0
  | 0, _ => rfl
  | c + 1, h => by
    unfold llT
    rw [if_neg (h c (by omega))]
    exact llT_0 (fun b hb => h b (by omega))
theorem clT_cg {w w' : Nat → Nat} : ∀ {d : Nat}, (∀ b, b < d → w b = w' b) → clT w d = clT w' d
  | 0, _ => rfl
  | d + 1, h => by
    funext e
    unfold clT
    rw [h d (by omega), clT_cg (d := d) (fun b hb => h b (by omega))]
theorem llT_cg {w w' : Nat → Nat} : ∀ {d : Nat}, (∀ b, b < d → w b = w' b) → llT w d = llT w' d
  | 0, _ => rfl
  | d + 1, h => by
    funext e u
    unfold llT
    rw [h d (by omega), llT_cg (d := d) (fun b hb => h b (by omega))]
theorem T_lbl {A B : AR} {y : Nat → Nat} (h : iso A B y) (h4 : ∀ c, c < A.2.1 → A.2.2.1 c ≤ 4) : ∀ {d : Nat}, d ≤ A.2.1 → lbl A.2.1 A.2.2.1 (fun c => y c / 256) (fun c v => imo (y c) v) (lF d) (clT y d) (llF d) (llT y d)
  | 0, _ => fun _ _ => ⟨rfl, fun _ _ => rfl⟩
  | d + 1, hd => fun c hc => by
    have ih := T_lbl h h4 (d := d) (by omega) c hc
    have w4 := h4 c hc
    unfold lF llF at ih ⊢
    dsimp only at ih ⊢
    unfold clT llT
    by_cases e : y d / 256 = y c / 256
    · have hcd : d = c := by
        rcases Nat.lt_trichotomy d c with z | z | z
        · exact absurd e ((h.2.2.1 c hc).2.2.2.2 d z)
        · exact z
        · exact absurd e.symm ((h.2.2.1 d (by omega)).2.2.2.2 c z)
      subst hcd
      refine ⟨by rw [if_pos e, if_pos (by omega)], fun v hv => ?_⟩
      rw [if_pos e, if_pos (by omega), ivo_imo (h.2.2.1 d hc).2.2.1 w4 hv]
    · have hcd : d ≠ c := fun z => e (by rw [z])
      refine ⟨?_, fun v hv => ?_⟩
      · rw [if_neg e, ih.1]
        by_cases e2 : c < d
        · rw [if_pos e2, if_pos (by omega)]
        · rw [if_neg e2, if_neg (by omega)]
      · rw [if_neg e, ih.2 v hv]
        by_cases e2 : c < d
        · rw [if_pos e2, if_pos (by omega)]
        · rw [if_neg e2, if_neg (by omega)]
theorem kRK_cg {n k : Nat} {sz : Nat → Nat} {ce : Nat → Nat → Nat} {cl cl' : Nat → Nat → Nat} {ll ll' : Nat → Nat → Nat → Nat} : ∀ {d : Nat}, (∀ e, e ≤ d → cl e = cl' e ∧ ll e = ll' e) → kRK n k sz ce cl ll d = kRK n k sz ce cl' ll' d
  | 0, h => by
    unfold kRK
    rw [(h 0 (Nat.le_refl _)).1, (h 0 (Nat.le_refl _)).2]
  | d + 1, h => by
    unfold kRK
    rw [(h (d + 1) (Nat.le_refl _)).1, (h (d + 1) (Nat.le_refl _)).2, kRK_cg (d := d) (fun e he => h e (by omega))]
theorem kCK_cg {n k : Nat} {sz : Nat → Nat} {ce : Nat → Nat → Nat} {cl cl' : Nat → Nat → Nat} {ll ll' : Nat → Nat → Nat → Nat} {d : Nat} (h : ∀ e, e ≤ d → cl e = cl' e ∧ ll e = ll' e) : kCK n k sz ce cl ll d = kCK n k sz ce cl' ll' d := by
  unfold kCK
  rw [kRK_cg h, (h d (Nat.le_refl _)).1, (h d (Nat.le_refl _)).2]
theorem kLK_cg {n k : Nat} {sz : Nat → Nat} {ce : Nat → Nat → Nat} {cl cl' : Nat → Nat → Nat} {ll ll' : Nat → Nat → Nat → Nat} {d : Nat} (h : ∀ e, e ≤ d → cl e = cl' e ∧ ll e = ll' e) : kLK n k sz ce cl ll d = kLK n k sz ce cl' ll' d := by
  unfold kLK
  rw [kRK_cg h, (h d (Nat.le_refl _)).1, (h d (Nat.le_refl _)).2]
theorem T_cg {w w' : Nat → Nat} {d : Nat} (h : ∀ b, b < d → w b = w' b) : ∀ e, e ≤ d → clT w e = clT w' e ∧ llT w e = llT w' e := fun e he => ⟨clT_cg (fun b hb => h b (by omega)), llT_cg (fun b hb => h b (by omega))⟩
/-- what an isomorphism that continues w up to depth d says of the keys -/
theorem iso_keys {n k : Nat} {sz sz' : Nat → Nat} {ce ce' : Nat → Nat → Nat} {y w : Nat → Nat} {d : Nat} (hW : Wf n k sz ce) (h4 : ∀ c, c < k → sz c ≤ 4) (h : iso (n, k, sz, ce) (n, k, sz', ce') y) (hd : d ≤ k) (hw : ∀ b, b < d → w b = y b) : (∀ c, c < k → kCK n k sz' ce' (clT w) (llT w) d (y c / 256) = kCK n k sz ce lF llF d c) ∧ (∀ c, c < k → ∀ v, v < sz c → kLK n k sz' ce' (clT w) (llT w) d (y c / 256) (imo (y c) v) = kLK n k sz ce lF llF d c v) ∧ kSM n k sz' ce' (clT w) (llT w) d = kSM n k sz ce lF llF d := by
  obtain ⟨π, hT⟩ := iso_T h
  have hl : ∀ e, e ≤ d → lbl k sz (fun c => y c / 256) (fun c v => imo (y c) v) (lF e) (clT w e) (llF e) (llT w e) := fun e he => by
    have h9 := T_cg hw e he
    rw [h9.1, h9.2]
    exact T_lbl h h4 (show e ≤ k by omega)
  exact ⟨fun c hc => v_CK hW hT hl hc, fun c hc v hv => v_LK hW hT hl hc hv, v_SM hW hT hl⟩
/-! the orders of up to four levels -/
def allB (f : Nat → Bool) : Nat → Bool
  | 0 => true
  | n + 1 => f n && allB f n
theorem allB_i {f : Nat → Bool} : ∀ {n : Nat}, allB f n = true ↔ ∀ i, i < n → f i = true
  | 0 => ⟨fun _ i hi => absurd hi (Nat.not_lt_zero i), fun _ => rfl⟩
  | n + 1 => by
    rw [allB, Bool.and_eq_true, allB_i (n := n)]
    exact ⟨fun h i hi => by
      by_cases e : i = n
      · rw [e]; exact h.1
      · exact h.2 i (by omega), fun h => ⟨h n (by omega), fun i hi => h i (by omega)⟩⟩
theorem bnot {a b : Bool} : (!a || b) = true ↔ (a = true → b = true) := by cases a <;> cases b <;> simp
theorem bdec {p : Prop} {b : Bool} [Decidable p] : (!decide p || b) = true ↔ (p → b = true) := by rw [bnot, decide_eq_true_iff]
def pmoB (s w : Nat) : Bool := allB (fun v => decide (imo w v < s)) s && (allB (fun u => allB (fun v => !Nat.beq (imo w u) (imo w v) || Nat.beq u v) s) s && allB (fun v => !decide (s ≤ v) || Nat.beq (imo w v) 0) 4)
theorem pmoB_iff {s w : Nat} : pmoB s w = true ↔ pmo s w := by
  unfold pmoB pmo
  rw [Bool.and_eq_true, Bool.and_eq_true, allB_i, allB_i, allB_i]
  refine ⟨fun ⟨a, b, c⟩ => ⟨fun v hv => of_decide_eq_true (a v hv), fun u v hu hv e => ?_, fun v h1 h2 => ?_⟩, fun ⟨a, b, c⟩ => ⟨fun v hv => decide_eq_true (a v hv), fun u hu => allB_i.mpr (fun v hv => bnot.mpr (fun e => ?_)), fun v hv => bdec.mpr (fun e => ?_)⟩⟩
  · exact Nat.eq_of_beq_eq_true (bnot.mp (allB_i.mp (b u hu) v hv) (by rw [e]; exact Nat.beq_refl _))
  · exact Nat.eq_of_beq_eq_true (bdec.mp (c v h2) h1)
  · rw [b u v hu hv (Nat.eq_of_beq_eq_true e)]; exact Nat.beq_refl _
  · rw [c v e hv]; rfl
def rkB (s : Nat) : Nat → Nat
  | 0 => 0
  | n + 1 => rkB s n + if pmoB s n = true then 1 else 0
theorem rkB_mono (s : Nat) {m : Nat} : ∀ {n : Nat}, m ≤ n → rkB s m ≤ rkB s n
  | 0, h => by rw [show m = 0 by omega]; exact Nat.le_refl _
  | n + 1, h => by
    by_cases e : m = n + 1
    · rw [e]; exact Nat.le_refl _
    · have := rkB_mono s (m := m) (n := n) (by omega)
      rw [rkB]
      omega
theorem rkB_c : allB (fun s => decide (rkB s 256 ≤ 24)) 5 = true := by decide +kernel
theorem rkB_24 : ∀ s, s < 5 → rkB s 256 ≤ 24 := fun s hs => of_decide_eq_true (allB_i.mp rkB_c s hs)
theorem rkB_lt {s x : Nat} (hs : s < 5) (hx : x < 256) (h : pmo s x) : rkB s x < 24 := by
  have h1 : rkB s (x + 1) ≤ rkB s 256 := rkB_mono s (by omega)
  have h2 := rkB_24 s hs
  rw [rkB, if_pos (pmoB_iff.mpr h)] at h1
  omega
/-- the identity comes first -/
def id0 (s : Nat) : Nat := if s ≤ 1 then 0 else if s = 2 then 16 else if s = 3 then 24 else 27
theorem id0_c : allB (fun s => pmoB s (id0 s) && (decide (id0 s < 256) && (Nat.beq (rkB s (id0 s)) 0 && (allB (fun v => Nat.beq (imo (id0 s) v) v) s && allB (fun y => !pmoB s y) (id0 s))))) 5 = true := by decide +kernel
theorem id0_ok {s : Nat} (hs : s < 5) : pmo s (id0 s) ∧ id0 s < 256 ∧ rkB s (id0 s) = 0 ∧ (∀ v, v < s → imo (id0 s) v = v) ∧ ∀ y, y < id0 s → ¬ pmo s y := by
  have h := allB_i.mp id0_c s hs
  rw [Bool.and_eq_true, Bool.and_eq_true, Bool.and_eq_true, Bool.and_eq_true] at h
  obtain ⟨h1, h2, h3, h4, h5⟩ := h
  exact ⟨pmoB_iff.mp h1, of_decide_eq_true h2, Nat.eq_of_beq_eq_true h3, fun v hv => Nat.eq_of_beq_eq_true (allB_i.mp h4 v hv), fun y hy z => by
    have := allB_i.mp h5 y hy
    rw [pmoB_iff.mpr z] at this
    cases this⟩
/-- the places of two levels exchanged, then the levels behind low reversed -/
def nxi (s low high i : Nat) : Nat :=
  if (if i ≤ low then i else s + low - i) = low then high else if (if i ≤ low then i else s + low - i) = high then low else (if i ≤ low then i else s + low - i)
def nxo (s x low high : Nat) : Nat := cod s (fun i => imo x (nxi s low high i))
theorem nx_lc : allB (fun s => !decide (1 < s) || allB (fun x => !pmoB s x || (!allB (fun v => decide (imo x (v + 1) < imo x v)) (s - 1) || allB (fun y => !decide (x < y) || !pmoB s y) 256)) 256) 5 = true := by decide +kernel
theorem nx_last {s x y : Nat} (hs : s < 5) (h1 : 1 < s) (hx : x < 256) (hp : pmo s x) (h : ∀ v, v + 1 < s → imo x (v + 1) < imo x v) (hy : y < 256) (hxy : x < y) : ¬ pmo s y := fun z => by
  have e := bdec.mp (allB_i.mp (bnot.mp (bnot.mp (allB_i.mp (bdec.mp (allB_i.mp nx_lc s hs) h1) x hx) (pmoB_iff.mpr hp)) (allB_i.mpr (fun v hv => decide_eq_true (h v (by omega))))) y hy) hxy
  rw [pmoB_iff.mpr z] at e
  cases e
theorem nx_c : allB (fun s => allB (fun x => !pmoB s x || allB (fun low => allB (fun high => !decide (low < high) || (!decide (imo x low ≤ imo x (low + 1)) || (!allB (fun v => !decide (low < v) || (!decide (v + 1 < s) || decide (imo x (v + 1) < imo x v))) s || (!(Nat.beq high (low + 1) || decide (imo x low ≤ imo x high)) || (!allB (fun v => !decide (high < v) || decide (imo x v < imo x low)) s || (pmoB s (nxo s x low high) && (decide (nxo s x low high < 256) && (decide (x < nxo s x low high) && (Nat.beq (rkB s (nxo s x low high)) (rkB s x + 1) && (allB (fun y => !decide (x < y) || !pmoB s y) (nxo s x low high) && allB (fun i => Nat.beq (imo (nxo s x low high) i) (imo x (nxi s low high i))) s)))))))))) s) s) 256) 5 = true := by decide +kernel
theorem nx_ok {s x low high : Nat} (hs : s < 5) (hx : x < 256) (hp : pmo s x) (hlh : low < high) (hh : high < s) (h1 : imo x low ≤ imo x (low + 1)) (h2 : ∀ v, low < v → v + 1 < s → imo x (v + 1) < imo x v) (h3 : high = low + 1 ∨ imo x low ≤ imo x high) (h4 : ∀ v, v < s → high < v → imo x v < imo x low) : pmo s (nxo s x low high) ∧ nxo s x low high < 256 ∧ x < nxo s x low high ∧ rkB s (nxo s x low high) = rkB s x + 1 ∧ (∀ y, y < nxo s x low high → x < y → ¬ pmo s y) ∧ ∀ i, i < s → imo (nxo s x low high) i = imo x (nxi s low high i) := by
  have e := bnot.mp (bnot.mp (bnot.mp (bdec.mp (bdec.mp (allB_i.mp (allB_i.mp (bnot.mp (allB_i.mp (allB_i.mp nx_c s hs) x hx) (pmoB_iff.mpr hp)) low (by omega)) high hh) hlh) h1) (allB_i.mpr (fun v _ => bdec.mpr (fun a => bdec.mpr (fun b => decide_eq_true (h2 v a b)))))) (by
    rcases h3 with h3 | h3
    · rw [h3, Nat.beq_refl]; rfl
    · rw [decide_eq_true h3, Bool.or_true])) (allB_i.mpr (fun v hv => bdec.mpr (fun a => decide_eq_true (h4 v hv a))))
  rw [Bool.and_eq_true, Bool.and_eq_true, Bool.and_eq_true, Bool.and_eq_true, Bool.and_eq_true] at e
  obtain ⟨e1, e2, e3, e4, e5, e6⟩ := e
  exact ⟨pmoB_iff.mp e1, of_decide_eq_true e2, of_decide_eq_true e3, Nat.eq_of_beq_eq_true e4, fun y y1 y2 z => (by
    have q := bdec.mp (allB_i.mp e5 y y1) y2
    rw [pmoB_iff.mpr z] at q
    exact Bool.noConfusion q), fun i hi => Nat.eq_of_beq_eq_true (allB_i.mp e6 i hi)⟩
theorem imo_lo (x d v : Nat) : imo (256 * d + x) v = imo x v := by
  unfold imo
  rcases (show v = 0 ∨ v = 1 ∨ v = 2 ∨ 3 ≤ v by omega) with rfl | rfl | rfl | h
  · show _ / 64 % 4 = _ / 64 % 4
    omega
  · show _ / 16 % 4 = _ / 16 % 4
    omega
  · show _ / 4 % 4 = _ / 4 % 4
    omega
  · rw [show 3 - v = 0 by omega, Nat.pow_zero, Nat.div_one, Nat.div_one]
    omega
theorem imo_md (w v : Nat) : imo (w % 256) v = imo w v := by
  have := imo_lo (w % 256) (w / 256) v
  rw [show 256 * (w / 256) + w % 256 = w by omega] at this
  exact this.symm
theorem pmo_lo {s x d : Nat} : pmo s (256 * d + x) ↔ pmo s x := by
  unfold pmo
  simp only [imo_lo]
theorem pmo_md {s w : Nat} : pmo s (w % 256) ↔ pmo s w := by
  unfold pmo
  simp only [imo_md]
theorem imo_4 (w v : Nat) : imo w v < 4 := Nat.mod_lt _ (by decide)
/-! rows matched one after the other -/
theorem grw_new {E T : Nat → Nat → Prop} (hs : ∀ r q, E r q → E q r) (hTT : ∀ q a b, T q a → T q b → E a b) (hTE : ∀ q a b, E a b → T q a → T q b) {n r q m : Nat} (hu : ∀ a, a < n → cn (fun p => mk m p ∧ T p a) n = cn (fun p => E p a) r) (hq : q < n) (hnq : ¬ mk m q) (hT : T q r) : ∀ a, a < n → cn (fun p => mk (m ||| 2 ^ q) p ∧ T p a) n = cn (fun p => E p a) (r + 1) := fun a ha => by
  have h1 := hu a ha
  by_cases e : E r a
  · have h2 := cn_add (p := fun p => mk m p ∧ T p a) (q := fun p => p = q) (s := fun p => mk (m ||| 2 ^ q) p ∧ T p a) (n := n) (fun p _ => ⟨by
      rw [mk_or]
      exact ⟨fun z => z.elim (fun z => ⟨Or.inl z.1, z.2⟩) (fun z => ⟨Or.inr z, by rw [z]; exact hTE q r a e hT⟩), fun z => z.1.elim (fun y => Or.inl ⟨y, z.2⟩) Or.inr⟩, fun z => hnq (by rw [← z.2]; exact z.1.1)⟩)
    rw [cn_one hq] at h2
    rw [cn_t (p := fun p => E p a) e]
    omega
  · rw [cn_f (p := fun p => E p a) e, ← h1]
    refine cn_cg (fun p _ => ?_)
    rw [mk_or]
    refine ⟨fun z => ⟨z.1.elim id (fun y => ?_), z.2⟩, fun z => ⟨Or.inl z.1, z.2⟩⟩
    rw [y] at z
    exact absurd (hTT q r a hT z.2) e
theorem gr_cnt {n q m : Nat} (hq : q < n) (hnq : ¬ mk m q) : cn (mk (m ||| 2 ^ q)) n = cn (mk m) n + 1 := by
  have h2 := cn_add (p := mk m) (q := fun p => p = q) (s := mk (m ||| 2 ^ q)) (n := n) (fun p _ => ⟨(mk_or m q p).symm, fun z => hnq (by rw [← z.2]; exact z.1)⟩)
  rw [cn_one hq] at h2
  exact h2.symm
theorem gr_end {E T : Nat → Nat → Prop} {n m : Nat} (hc : cn (mk m) n = n) (hu : ∀ a, a < n → cn (fun p => mk m p ∧ T p a) n = cn (fun p => E p a) n) : ∀ a, a < n → cn (fun q => E q a) n = cn (fun q => T q a) n := fun a ha => by
  rw [← hu a ha]
  exact cn_cg (fun p hp => ⟨fun z => z.2, fun z => ⟨cn_full.mp hc p hp, z⟩⟩)
theorem gr_bad {E T : Nat → Nat → Prop} (hr' : ∀ r, E r r) {n r m : Nat} (hr : r < n) (hu : ∀ a, a < n → cn (fun p => mk m p ∧ T p a) n = cn (fun p => E p a) r) (hno : ∀ q, q < n → ¬ mk m q → ¬ T q r) : ¬ ∀ a, a < n → cn (fun q => E q a) n = cn (fun q => T q a) n := fun h => by
  have h1 := h r hr
  have h2 := hu r hr
  have h3 : cn (fun p => mk m p ∧ T p r) n = cn (fun q => T q r) n := cn_cg (fun p hp => ⟨fun z => z.2, fun z => ⟨Classical.byContradiction (fun y => hno p hp y z), z⟩⟩)
  have h4 : cn (fun p => E p r) r < cn (fun p => E p r) n := cn_lt (P := fun p => E p r) (hr' r) hr
  omega
