/-! counting -/
noncomputable def cif {α : Type} (p : Prop) (a b : α) : α := @ite α p (Classical.propDecidable p) a b
theorem cif_t {α : Type} {p : Prop} {a b : α} (h : p) : cif p a b = a := @if_pos p (Classical.propDecidable p) h α a b
theorem cif_f {α : Type} {p : Prop} {a b : α} (h : ¬ p) : cif p a b = b := @if_neg p (Classical.propDecidable p) h α a b
noncomputable def cn (p : Nat → Prop) : Nat → Nat
  | 0 => 0
  | n + 1 => cn p n + cif (p n) 1 0
theorem cn_t {p : Nat → Prop} {n : Nat} (h : p n) : cn p (n + 1) = cn p n + 1 := by rw [cn, cif_t h]
theorem cn_f {p : Nat → Prop} {n : Nat} (h : ¬ p n) : cn p (n + 1) = cn p n := by rw [cn, cif_f h, Nat.add_zero]
theorem cn_le (p : Nat → Prop) : ∀ n, cn p n ≤ n
  | 0 => Nat.le_refl _
  | n + 1 => by
    have := cn_le p n
    by_cases h : p n
    · rw [cn_t h]; omega
    · rw [cn_f h]; omega
theorem cn_cg {p q : Nat → Prop} : ∀ {n : Nat}, (∀ r, r < n → (p r ↔ q r)) → cn p n = cn q n
  | 0, _ => rfl
  | n + 1, h => by
    have ih := cn_cg (n := n) (fun r hr => h r (by omega))
    by_cases e : p n
    · rw [cn_t e, cn_t ((h n (by omega)).mp e), ih]
    · rw [cn_f e, cn_f (fun z => e ((h n (by omega)).mpr z)), ih]
theorem cn_mono (p : Nat → Prop) : ∀ {m n : Nat}, m ≤ n → cn p m ≤ cn p n
  | m, 0, h => by rw [show m = 0 by omega]; exact Nat.le_refl _
  | m, n + 1, h => by
    by_cases e : m = n + 1
    · rw [e]; exact Nat.le_refl _
    · have := cn_mono p (m := m) (n := n) (by omega)
      rw [show cn p (n + 1) = cn p n + cif (p n) 1 0 from rfl]
      omega
theorem cn_sub {p q : Nat → Prop} : ∀ {n : Nat}, (∀ r, r < n → p r → q r) → cn p n ≤ cn q n
  | 0, _ => Nat.le_refl _
  | n + 1, h => by
    have ih := cn_sub (n := n) (fun r hr => h r (by omega))
    by_cases e : p n
    · rw [cn_t e, cn_t (h n (by omega) e)]; omega
    · rw [cn_f e]
      have : cn q n ≤ cn q (n + 1) := cn_mono q (by omega)
      omega
theorem cn_0 {p : Nat → Prop} : ∀ {n : Nat}, cn p n = 0 ↔ ∀ r, r < n → ¬ p r
  | 0 => ⟨fun _ r hr => absurd hr (Nat.not_lt_zero r), fun _ => rfl⟩
  | n + 1 => by
    have ih := cn_0 (p := p) (n := n)
    by_cases e : p n
    · rw [cn_t e]
      exact ⟨fun h => by omega, fun h => absurd e (h n (by omega))⟩
    · rw [cn_f e, ih]
      exact ⟨fun h r hr => by
        by_cases e2 : r = n
        · rw [e2]; exact e
        · exact h r (by omega), fun h r hr => h r (by omega)⟩
theorem cn_pos {p : Nat → Prop} {n : Nat} : 0 < cn p n ↔ ∃ r, r < n ∧ p r := by
  constructor
  · intro h
    exact Classical.byContradiction (fun q => by
      have := (cn_0 (p := p) (n := n)).mpr (fun r hr hp => q ⟨r, hr, hp⟩)
      omega)
  · rintro ⟨r, hr, hp⟩
    rcases Nat.eq_zero_or_pos (cn p n) with h | h
    · exact absurd hp (cn_0.mp h r hr)
    · exact h
theorem cn_full {p : Nat → Prop} : ∀ {n : Nat}, cn p n = n ↔ ∀ r, r < n → p r
  | 0 => ⟨fun _ r hr => absurd hr (Nat.not_lt_zero r), fun _ => rfl⟩
  | n + 1 => by
    have ih := cn_full (p := p) (n := n)
    have hl := cn_le p n
    by_cases e : p n
    · rw [cn_t e]
      constructor
      · intro h r hr
        by_cases e2 : r = n
        · rw [e2]; exact e
        · exact ih.mp (by omega) r (by omega)
      · intro h
        rw [ih.mpr (fun r hr => h r (by omega))]
    · rw [cn_f e]
      constructor
      · intro h; omega
      · intro h; exact absurd (h n (by omega)) e
theorem cn_add {p q s : Nat → Prop} : ∀ {n : Nat}, (∀ r, r < n → ((p r ∨ q r) ↔ s r) ∧ ¬ (p r ∧ q r)) → cn p n + cn q n = cn s n
  | 0, _ => rfl
  | n + 1, h => by
    have ih := cn_add (n := n) (fun r hr => h r (by omega))
    obtain ⟨h1, h2⟩ := h n (by omega)
    by_cases e : p n
    · have e2 : ¬ q n := fun z => h2 ⟨e, z⟩
      rw [cn_t e, cn_f e2, cn_t (h1.mp (Or.inl e))]; omega
    · by_cases e2 : q n
      · rw [cn_f e, cn_t e2, cn_t (h1.mp (Or.inr e2))]; omega
      · have e3 : ¬ s n := fun z => (h1.mpr z).elim e e2
        rw [cn_f e, cn_f e2, cn_f e3]; exact ih
theorem cn_not (p : Nat → Prop) (n : Nat) : cn p n + cn (fun r => ¬ p r) n = n := by
  have := cn_add (p := p) (q := fun r => ¬ p r) (s := fun _ => True) (n := n) (fun r _ => ⟨⟨fun _ => trivial, fun _ => Classical.em _⟩, fun z => z.2 z.1⟩)
  rw [this]
  exact cn_full.mpr (fun _ _ => trivial)
theorem cn_split (p : Nat → Prop) (m : Nat) : ∀ n, cn p (m + n) = cn p m + cn (fun r => p (m + r)) n
  | 0 => rfl
  | n + 1 => by
    rw [← Nat.add_assoc, cn, cn, cn_split p m n]
    omega
/-- sums -/
def sm (f : Nat → Nat) : Nat → Nat
  | 0 => 0
  | n + 1 => sm f n + f n
theorem sm_cg {f g : Nat → Nat} : ∀ {n : Nat}, (∀ v, v < n → f v = g v) → sm f n = sm g n
  | 0, _ => rfl
  | n + 1, h => by
    rw [sm, sm, sm_cg (n := n) (fun r hr => h r (by omega)), h n (by omega)]
theorem sm_const (c : Nat) : ∀ n, sm (fun _ => c) n = n * c
  | 0 => by rw [Nat.zero_mul]; rfl
  | n + 1 => by rw [sm, sm_const c n, Nat.succ_mul]
theorem sm_le {f g : Nat → Nat} : ∀ {n : Nat}, (∀ v, v < n → f v ≤ g v) → sm f n ≤ sm g n
  | 0, _ => Nat.le_refl _
  | n + 1, h => by
    have := sm_le (n := n) (fun r hr => h r (by omega))
    have := h n (by omega)
    rw [sm, sm]
    omega
theorem sm_add (f g : Nat → Nat) : ∀ n, sm (fun v => f v + g v) n = sm f n + sm g n
  | 0 => rfl
  | n + 1 => by
    rw [sm, sm, sm, sm_add f g n]
    omega
/-- when no part is above its share and the whole is all shares, each part is its share -/
theorem sm_tight {f : Nat → Nat} {c : Nat} : ∀ {n : Nat}, (∀ v, v < n → f v ≤ c) → sm f n = n * c → ∀ v, v < n → f v = c
  | 0, _, _, v, hv => absurd hv (Nat.not_lt_zero v)
  | n + 1, h, hs, v, hv => by
    have h1 : sm f n ≤ n * c := by
      have := sm_le (f := f) (g := fun _ => c) (n := n) (fun v hv => h v (by omega))
      rw [sm_const] at this
      exact this
    have h2 := h n (by omega)
    rw [sm, Nat.succ_mul] at hs
    by_cases e : v = n
    · rw [e]; omega
    · exact sm_tight (n := n) (fun v hv => h v (by omega)) (by omega) v (by omega)
theorem sm_single {T x : Nat} (hx : x < T) : sm (fun v => cif (x = v) 1 0) T = 1 := by
  have key : ∀ n, sm (fun v => cif (x = v) 1 0) n = if x < n then 1 else 0 := by
    intro n
    induction n with
    | zero => rfl
    | succ n ih =>
      rw [sm, ih]
      by_cases e : x = n
      · rw [cif_t e, if_neg (by omega), if_pos (by omega)]
      · rw [cif_f e]
        by_cases h : x < n
        · rw [if_pos h, if_pos (by omega)]
        · rw [if_neg h, if_neg (by omega)]
  rw [key, if_pos hx]
theorem sm_none {T x : Nat} (hx : T ≤ x) : sm (fun v => cif (x = v) 1 0) T = 0 := by
  rw [sm_cg (g := fun _ => 0) (fun v hv => cif_f (by omega)), sm_const, Nat.mul_zero]
/-- rows by their values -/
theorem sm_cn (f : Nat → Nat) (p : Nat → Prop) (T : Nat) : ∀ n, (∀ r, r < n → p r → f r < T) → sm (fun v => cn (fun r => p r ∧ f r = v) n) T = cn p n
  | 0, _ => by
    rw [show sm (fun v => cn (fun r => p r ∧ f r = v) 0) T = sm (fun _ => 0) T from sm_cg (fun v _ => rfl), sm_const, Nat.mul_zero]
    rfl
  | n + 1, h => by
    have ih := sm_cn f p T n (fun r hr => h r (by omega))
    have : sm (fun v => cn (fun r => p r ∧ f r = v) (n + 1)) T = sm (fun v => cn (fun r => p r ∧ f r = v) n) T + sm (fun v => cif (p n ∧ f n = v) 1 0) T := sm_add _ _ T
    rw [this, ih, cn]
    congr 1
    by_cases e : p n
    · rw [cif_t e, sm_cg (g := fun v => cif (f n = v) 1 0) (fun v _ => by
        by_cases e2 : f n = v
        · rw [cif_t e2, cif_t ⟨e, e2⟩]
        · rw [cif_f e2, cif_f (fun z => e2 z.2)]), sm_single (h n (by omega) e)]
    · rw [cif_f e, sm_cg (g := fun _ => 0) (fun v _ => cif_f (fun z => e z.1)), sm_const, Nat.mul_zero]
/-! equal rows -/
def req (ce : Nat → Nat → Nat) (k r q : Nat) : Prop := ∀ c, c < k → ce r c = ce q c
theorem ord_cg {ce ce1 : Nat → Nat → Nat} {k r q a b : Nat} (h1 : ∀ c, c < k → ce1 r c = ce a c) (h2 : ∀ c, c < k → ce1 q c = ce b c) : ord ce1 r q k = ord ce a b k := by
  have key : ∀ i, i ≤ k → ordv ce1 r q k i = ordv ce a b k i := by
    intro i
    induction i with
    | zero => intro _; rfl
    | succ i ih =>
      intro hi
      unfold ordv
      rw [h1 (k - (i + 1)) (by omega), h2 (k - (i + 1)) (by omega), ih (by omega)]
  exact key k (Nat.le_refl _)
def isC (ce : Nat → Nat → Nat) (k r : Nat) : Prop := ∃ q, q < r ∧ ord ce q r k = 0
noncomputable def nk (ce : Nat → Nat → Nat) (k r : Nat) : Nat := cn (fun q => ¬ isC ce k q) r
theorem nk_le (ce : Nat → Nat → Nat) (k r : Nat) : nk ce k r ≤ r := cn_le _ r
theorem nk_m (ce : Nat → Nat → Nat) (k : Nat) {r n : Nat} (h : r ≤ n) : nk ce k r ≤ nk ce k n := cn_mono _ h
/-- the rows that are no copies: the j-th one below r -/
noncomputable def kr (ce : Nat → Nat → Nat) (k : Nat) : Nat → Nat → Nat
  | 0 => fun _ => 0
  | r + 1 => cif (isC ce k r) (kr ce k r) (fun j => if j = nk ce k r then r else kr ce k r j)
theorem kr_c {ce : Nat → Nat → Nat} {k r : Nat} (h : isC ce k r) : kr ce k (r + 1) = kr ce k r := by rw [kr, cif_t h]
theorem kr_n {ce : Nat → Nat → Nat} {k r : Nat} (h : ¬ isC ce k r) (j : Nat) : kr ce k (r + 1) j = if j = nk ce k r then r else kr ce k r j := by rw [kr, cif_f h]
theorem nk_c {ce : Nat → Nat → Nat} {k r : Nat} (h : isC ce k r) : nk ce k (r + 1) = nk ce k r := cn_f (fun z => z h)
theorem nk_n {ce : Nat → Nat → Nat} {k r : Nat} (h : ¬ isC ce k r) : nk ce k (r + 1) = nk ce k r + 1 := cn_t h
theorem kr_lt (ce : Nat → Nat → Nat) (k : Nat) : ∀ r j, j < nk ce k r → kr ce k r j < r
  | 0, j, h => absurd h (Nat.not_lt_zero j)
  | r + 1, j, h => by
    by_cases e : isC ce k r
    · rw [nk_c e] at h
      rw [kr_c e]
      have := kr_lt ce k r j h
      omega
    · rw [nk_n e] at h
      rw [kr_n e]
      split
      · omega
      · have := kr_lt ce k r j (by omega)
        omega
theorem kr_has (ce : Nat → Nat → Nat) (k : Nat) : ∀ r q, q < r → ∃ j, j < nk ce k r ∧ req ce k (kr ce k r j) q
  | 0, q, h => absurd h (Nat.not_lt_zero q)
  | r + 1, q, h => by
    by_cases e : isC ce k r
    · rw [nk_c e, kr_c e]
      by_cases hq : q = r
      · obtain ⟨p, hp, h0⟩ := e
        obtain ⟨j, hj, h1⟩ := kr_has ce k r p hp
        refine ⟨j, hj, fun c hc => ?_⟩
        rw [h1 c hc, hq, ord_0.mp h0 c hc]
      · exact kr_has ce k r q (by omega)
    · rw [nk_n e]
      by_cases hq : q = r
      · refine ⟨nk ce k r, by omega, fun c _ => ?_⟩
        rw [kr_n e, if_pos rfl, hq]
      · obtain ⟨j, hj, h1⟩ := kr_has ce k r q (by omega)
        refine ⟨j, by omega, fun c hc => ?_⟩
        rw [kr_n e, if_neg (by omega)]
        exact h1 c hc
theorem kr_at (ce : Nat → Nat → Nat) (k s : Nat) (hs : ¬ isC ce k s) : ∀ n, s < n → kr ce k n (nk ce k s) = s
  | 0, h => absurd h (Nat.not_lt_zero s)
  | n + 1, h => by
    by_cases e : s = n
    · subst e
      rw [kr_n hs, if_pos rfl]
    · have ih := kr_at ce k s hs n (by omega)
      by_cases e2 : isC ce k n
      · rw [kr_c e2]; exact ih
      · rw [kr_n e2, if_neg]
        · exact ih
        · have h1 : nk ce k (s + 1) ≤ nk ce k n := nk_m ce k (by omega)
          rw [nk_n hs] at h1
          omega
/-- a row is a copy just if it is equal to one of the kept ones before it -/
theorem isC_kr (ce : Nat → Nat → Nat) (k r : Nat) : isC ce k r ↔ ∃ j, j < nk ce k r ∧ ord ce (kr ce k r j) r k = 0 := by
  constructor
  · rintro ⟨q, hq, h0⟩
    obtain ⟨j, hj, h1⟩ := kr_has ce k r q hq
    exact ⟨j, hj, ord_0.mpr (fun c hc => (h1 c hc).trans (ord_0.mp h0 c hc))⟩
  · rintro ⟨j, hj, h0⟩
    exact ⟨_, kr_lt ce k r j hj, h0⟩
/-- the array while its copies are dropped: r rows are read -/
noncomputable def dc (ce : Nat → Nat → Nat) (k r : Nat) : Nat → Nat → Nat := fun p c => if p < nk ce k r then ce (kr ce k r p) c else ce p c
theorem dc_lt {ce : Nat → Nat → Nat} {k r p : Nat} (h : p < nk ce k r) (c : Nat) : dc ce k r p c = ce (kr ce k r p) c := if_pos h
theorem dc_ge {ce : Nat → Nat → Nat} {k r p : Nat} (h : nk ce k r ≤ p) (c : Nat) : dc ce k r p c = ce p c := if_neg (by omega)
/-! sorting -/
def swp (ce : Nat → Nat → Nat) (a b : Nat) : Nat → Nat → Nat := fun r c => if r = a then ce b c else if r = b then ce a c else ce r c
def inz (k : Nat) : Nat → (Nat → Nat → Nat) × Nat → (Nat → Nat → Nat) × Nat
  | 0, s => s
  | q + 1, s => if 0 < ord s.1 q (q + 1) k then inz k q (swp s.1 q (q + 1), s.2 + 1) else s
def srt (k : Nat) (ce : Nat → Nat → Nat) : Nat → (Nat → Nat → Nat) × Nat
  | 0 => (ce, 0)
  | r + 1 => inz k r (srt k ce r)
theorem Wf_swp {n k : Nat} {sz : Nat → Nat} {ce : Nat → Nat → Nat} (h : Wf n k sz ce) {a b : Nat} (ha : a < n) (hb : b < n) : Wf n k sz (swp ce a b) := by
  refine ⟨h.1, h.2.1, h.2.2.1, fun r hr c hc => ?_⟩
  unfold swp
  split
  · exact h.2.2.2 b hb c hc
  · split
    · exact h.2.2.2 a ha c hc
    · exact h.2.2.2 r hr c hc
theorem Wf_inz {n k : Nat} {sz : Nat → Nat} : ∀ (q : Nat) (s : (Nat → Nat → Nat) × Nat), q < n → Wf n k sz s.1 → Wf n k sz (inz k q s).1
  | 0, s, _, h => h
  | q + 1, s, hq, h => by
    unfold inz
    split
    · exact Wf_inz q _ (by omega) (Wf_swp h (by omega) hq)
    · exact h
theorem Wf_srt {n k : Nat} {sz : Nat → Nat} {ce : Nat → Nat → Nat} (h : Wf n k sz ce) : ∀ r, r ≤ n → Wf n k sz (srt k ce r).1
  | 0, _ => h
  | r + 1, hr => Wf_inz r _ (by omega) (Wf_srt h r (by omega))
/-! tuples -/
def tps (sz : Nat → Nat) (set : Nat) : Nat → Nat
  | 0 => 1
  | c + 1 => if set / 2 ^ c % 2 = 1 then tps sz set c * sz c else tps sz set c
def tpo (sz : Nat → Nat) (row : Nat → Nat) (set : Nat) : Nat → Nat
  | 0 => 0
  | c + 1 => if set / 2 ^ c % 2 = 1 then tpo sz row set c * sz c + row c else tpo sz row set c
theorem tps_pos {sz : Nat → Nat} {set : Nat} : ∀ {k : Nat}, (∀ c, c < k → 2 ≤ sz c) → 0 < tps sz set k
  | 0, _ => Nat.one_pos
  | k + 1, h => by
    have := tps_pos (sz := sz) (set := set) (k := k) (fun c hc => h c (by omega))
    have h2 := h k (by omega)
    unfold tps
    split
    · exact Nat.mul_pos this (by omega)
    · exact this
theorem tps_le {sz : Nat → Nat} {set : Nat} : ∀ {k : Nat}, (∀ c, c < k → sz c ≤ 6) → tps sz set k ≤ 6 ^ k
  | 0, _ => Nat.le_refl _
  | k + 1, h => by
    have h1 := tps_le (sz := sz) (set := set) (k := k) (fun c hc => h c (by omega))
    have h2 := h k (by omega)
    rw [Nat.pow_succ]
    unfold tps
    split
    · exact Nat.mul_le_mul h1 h2
    · omega
theorem tps_b {sz : Nat → Nat} {set k : Nat} (hk : k ≤ 7) (h : ∀ c, c < k → sz c ≤ 6) : tps sz set k ≤ 279936 :=
  Nat.le_trans (tps_le h) (Nat.pow_le_pow_right (by decide) hk)
theorem tpo_lt {sz : Nat → Nat} {row : Nat → Nat} {set : Nat} : ∀ {k : Nat}, (∀ c, c < k → row c < sz c) → tpo sz row set k < tps sz set k
  | 0, _ => Nat.one_pos
  | k + 1, h => by
    have h1 := tpo_lt (sz := sz) (row := row) (set := set) (k := k) (fun c hc => h c (by omega))
    have h2 := h k (by omega)
    unfold tps tpo
    split
    · have : (tpo sz row set k + 1) * sz k ≤ tps sz set k * sz k := Nat.mul_le_mul_right _ h1
      rw [Nat.succ_mul] at this
      omega
    · exact h1
theorem oi_shr {a k : Nat} (ha : a < 2 ^ 31) (hk : k < 32) : Int32.ofInt (a : Int) >>> (Int32.ofInt (k : Int) &&& 31) = Int32.ofInt ((a / 2 ^ k : Nat) : Int) := by
  have hs : ∀ n, n < 32 → ((nI n &&& 31).toBitVec.smod 32).toNat = n := by decide +kernel
  rw [oi_n, oi_n, oi_n]
  exact pk_shrN ha _ k (hs k hk)
theorem oi_and1 {a : Nat} (ha : a < 2 ^ 31) : Int32.ofInt (a : Int) &&& Int32.ofInt (1 : Int) = Int32.ofInt ((a % 2 : Nat) : Int) := by
  rw [oi_n, oi_n]
  exact pk_andN (k := 1) (by omega) (by decide +kernel)
theorem bit_lt {a k : Nat} (ha : a < 2 ^ 31) : a / 2 ^ k < 2 ^ 31 := Nat.lt_of_le_of_lt (Nat.div_le_self _ _) ha
/-! what is told -/
def lrs (sz : Nat → Nat) : Nat → Nat
  | 0 => 1
  | c + 1 => lrs sz c + (sz c - 1)
def lcN (sz : Nat → Nat) (d : Nat) : Nat → Nat → Nat
  | 0, m => m
  | c + 1, m => Nat.lcm (lcN sz d c m) (sz c * sz d)
def lcO (sz : Nat → Nat) : Nat → Nat
  | 0 => 1
  | d + 1 => lcN sz d d (lcO sz d)
theorem dv3600 : ∀ a, a < 7 → ∀ b, b < 7 → 2 ≤ a → 2 ≤ b → 3600 % (a * b) = 0 := by decide +kernel
theorem lcN_dv {sz : Nat → Nat} {k d : Nat} (h : ∀ c, c < k → 2 ≤ sz c ∧ sz c ≤ 6) (hd : d < k) : ∀ c m, c ≤ d → m ∣ 3600 → 0 < m → lcN sz d c m ∣ 3600 ∧ 0 < lcN sz d c m
  | 0, m, _, h1, h2 => ⟨h1, h2⟩
  | c + 1, m, hc, h1, h2 => by
    obtain ⟨i1, i2⟩ := lcN_dv h hd c m (by omega) h1 h2
    have a1 := h c (by omega)
    have a2 := h d hd
    have h3 : sz c * sz d ∣ 3600 := Nat.dvd_of_mod_eq_zero (dv3600 _ (by omega) _ (by omega) (by omega) (by omega))
    exact ⟨Nat.lcm_dvd i1 h3, Nat.lcm_pos i2 (Nat.mul_pos (by omega) (by omega))⟩
theorem lcO_dv {sz : Nat → Nat} {k : Nat} (h : ∀ c, c < k → 2 ≤ sz c ∧ sz c ≤ 6) : ∀ d, d ≤ k → lcO sz d ∣ 3600 ∧ 0 < lcO sz d
  | 0, _ => ⟨⟨3600, (Nat.one_mul _).symm⟩, Nat.one_pos⟩
  | d + 1, hd => by
    obtain ⟨i1, i2⟩ := lcO_dv h d (by omega)
    exact lcN_dv h (by omega) d _ (Nat.le_refl _) i1 i2
/-- a difference scheme -/
noncomputable def dfc (n : Nat) (ce : Nat → Nat → Nat) (s c d v : Nat) : Nat := cn (fun r => (ce r d + s - ce r c) % s = v) n
def evn (n : Nat) (ce : Nat → Nat → Nat) (s c d : Nat) : Prop := ∀ v, v < s → dfc n ce s c d v * s = n
def sch (n k : Nat) (sz : Nat → Nat) (ce : Nat → Nat → Nat) : Prop := 0 < k ∧ (∀ c, c < k → sz c = sz 0) ∧ ∀ d, d < k → ∀ c, c < d → evn n ce (sz 0) c d
