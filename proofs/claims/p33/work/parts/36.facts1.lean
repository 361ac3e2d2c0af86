/-! the strength -/
theorem stF_down {ok : Nat → Prop} : ∀ (j : Nat) {t k : Nat}, (∀ t, t < k → ok (t + 1) → ok t) → t + j = k → ok k → ok t
  | 0, t, k, _, e, h => by rw [show t = k by omega]; exact h
  | j + 1, t, k, hm, e, h => hm t (by omega) (stF_down j hm (show t + 1 + j = k by omega) h)
theorem stF_ge {ok : Nat → Prop} : ∀ {k t : Nat}, (∀ t, t < k → ok (t + 1) → ok t) → 1 ≤ t → t ≤ k → (t ≤ stF ok k ↔ ok t)
  | 0, t, _, h1, h2 => by omega
  | k + 1, t, hm, h1, h2 => by
    by_cases e : ok (k + 1)
    · rw [stF, cif_t e]
      exact ⟨fun _ => stF_down (k + 1 - t) hm (by omega) e, fun _ => h2⟩
    · rw [stF, cif_f e]
      by_cases e2 : t = k + 1
      · rw [e2]
        have := stF_le ok k
        exact ⟨fun z => by omega, fun z => absurd z e⟩
      · exact stF_ge (fun t ht => hm t (by omega)) h1 (by omega)
theorem cn_aT (n : Nat) : cn aT n = n := cn_full.mpr (fun _ _ => trivial)
theorem tp_none {sz row : Nat → Nat} {set : Nat} : ∀ {k : Nat}, (∀ c, c < k → ¬ mk set c) → tps sz set k = 1 ∧ tpo sz row set k = 0
  | 0, _ => ⟨rfl, rfl⟩
  | k + 1, h => by
    have ih := tp_none (sz := sz) (row := row) (k := k) (fun c hc => h c (by omega))
    have h2 : ¬ set / 2 ^ k % 2 = 1 := h k (by omega)
    rw [tps, tpo, if_neg h2, if_neg h2]
    exact ih
theorem okT_0 {n k : Nat} {sz : Nat → Nat} {ce : Nat → Nat → Nat} (hk : k ≤ 7) : okT n k sz ce 0 aT := by
  intro set hs hp v hv
  rw [popn_12 (by omega) hs] at hp
  have hn := cn_0.mp hp
  have h1 := fun row => tp_none (sz := sz) (row := row) (k := k) (set := set) hn
  rw [(h1 (fun _ => 0)).1] at hv ⊢
  have hv0 : v = 0 := by omega
  subst hv0
  rw [Nat.mul_one]
  exact cn_cg (fun r _ => ⟨fun z => z.1, fun z => ⟨z, (h1 _).2⟩⟩)
theorem okT_m {n k : Nat} {sz : Nat → Nat} {ce : Nat → Nat → Nat} (hW : Wf n k sz ce) : ∀ t, t < k → okT n k sz ce (t + 1) aT → okT n k sz ce t aT := fun _ ht h => okT_less hW ht h
/-- the strength is at least t just when all sets of t columns are balanced -/
theorem str_ge {n k t : Nat} {sz : Nat → Nat} {ce : Nat → Nat → Nat} (hW : Wf n k sz ce) (h2 : t ≤ k) : t ≤ stF (fun b => okT n k sz ce b aT) k ↔ okT n k sz ce t aT := by
  by_cases e : t = 0
  · subst e
    exact ⟨fun _ => okT_0 hW.2.1, fun _ => Nat.zero_le _⟩
  · exact stF_ge (okT_m hW) (by omega) h2
theorem okT_mk {n k t : Nat} {sz : Nat → Nat} {ce : Nat → Nat → Nat} : okT n k sz ce t (mk (2 ^ n - 1)) ↔ okT n k sz ce t aT := okT_cg (fun _ hr => mk_aT hr)
/-- how many sets are out of balance -/
theorem ub_0 {n k t : Nat} {sz : Nat → Nat} {ce : Nat → Nat → Nat} : cn (fun set => popn 12 set = t ∧ ¬ bal n k sz ce set (mk (2 ^ n - 1))) (2 ^ k) = 0 ↔ okT n k sz ce t aT := by
  rw [← okT_mk, cn_0]
  exact ⟨fun h set hs hp => Classical.byContradiction (fun z => h set hs ⟨hp, z⟩), fun h set hs z => z.2 (h set hs z.1)⟩
/-! sets of one and of two columns -/
def prB (s : Nat) : Bool := (List.range 7).any (fun d => (List.range d).any (fun c => s == (2 ^ c ||| 2 ^ d)))
def siB (s : Nat) : Bool := (List.range 7).any (fun d => s == 2 ^ d)
theorem prB_all : ∀ s : Nat, s < 128 → (popn 12 s != 2 || prB s) = true := by decide +kernel
theorem siB_all : ∀ s : Nat, s < 128 → (popn 12 s != 1 || siB s) = true := by decide +kernel
theorem mk_p2 {c r : Nat} : mk (2 ^ c) r ↔ r = c := by
  have h := mk_or 0 c r
  rw [Nat.zero_or] at h
  rw [h]
  exact ⟨fun z => z.elim (fun q => absurd q (by unfold mk; rw [Nat.zero_div]; decide)) id, Or.inr⟩
theorem pair_set {k set : Nat} (hk : k ≤ 7) (hs : set < 2 ^ k) (hp : popn 12 set = 2) : ∃ c d, c < d ∧ d < k ∧ ∀ b, mk set b ↔ b = c ∨ b = d := by
  have h1 := prB_all set (Nat.lt_of_lt_of_le hs (pw7 hk))
  rw [hp] at h1
  have h2 : prB set = true := by simpa using h1
  unfold prB at h2
  obtain ⟨d, hd, h3⟩ := List.any_eq_true.mp h2
  obtain ⟨c, hc, h4⟩ := List.any_eq_true.mp h3
  have e : set = 2 ^ c ||| 2 ^ d := by simpa using h4
  have hb : ∀ b, mk set b ↔ b = c ∨ b = d := fun b => by rw [e, mk_or, mk_p2]
  refine ⟨c, d, List.mem_range.mp hc, ?_, hb⟩
  apply Classical.byContradiction
  intro hn
  exact mk_hi2 hs (by omega) ((hb d).mpr (Or.inr rfl))
theorem single_set {k set : Nat} (hk : k ≤ 7) (hs : set < 2 ^ k) (hp : popn 12 set = 1) : ∃ d, d < k ∧ ∀ b, mk set b ↔ b = d := by
  have h1 := siB_all set (Nat.lt_of_lt_of_le hs (pw7 hk))
  rw [hp] at h1
  have h2 : siB set = true := by simpa using h1
  unfold siB at h2
  obtain ⟨d, hd, h4⟩ := List.any_eq_true.mp h2
  have e : set = 2 ^ d := by simpa using h4
  have hb : ∀ b, mk set b ↔ b = d := fun b => by rw [e, mk_p2]
  refine ⟨d, ?_, hb⟩
  apply Classical.byContradiction
  intro hn
  exact mk_hi2 hs (by omega) ((hb d).mpr rfl)
theorem pair_of {c d k : Nat} (hcd : c < d) (hd : d < k) (hk : k ≤ 7) : (2 ^ c ||| 2 ^ d) < 2 ^ k ∧ popn 12 (2 ^ c ||| 2 ^ d) = 2 ∧ ∀ b, mk (2 ^ c ||| 2 ^ d) b ↔ b = c ∨ b = d := by
  refine ⟨or_lt (Nat.pow_lt_pow_right (by decide) (by omega)) hd, ?_, fun b => by rw [mk_or, mk_p2]⟩
  have h0 : popn 12 (2 ^ c) = 1 := by
    have h := popn_or (m := 0) (c := c) (by omega) (by unfold mk; rw [Nat.zero_div]; decide)
    rw [Nat.zero_or] at h
    rw [h]
    rfl
  rw [popn_or (by omega) (by rw [mk_p2]; omega), h0]
theorem tp_add {set j : Nat} {sz row : Nat → Nat} (h : mk set j) : tps sz set (j + 1) = tps sz set j * sz j ∧ tpo sz row set (j + 1) = tpo sz row set j * sz j + row j := by
  have e' : set / 2 ^ j % 2 = 1 := h
  rw [tps, tpo, if_pos e', if_pos e']
  exact ⟨rfl, rfl⟩
theorem tp_skip {set j : Nat} {sz row : Nat → Nat} (h : ¬ mk set j) : tps sz set (j + 1) = tps sz set j ∧ tpo sz row set (j + 1) = tpo sz row set j := by
  have e' : ¬ set / 2 ^ j % 2 = 1 := h
  rw [tps, tpo, if_neg e', if_neg e']
  exact ⟨rfl, rfl⟩
theorem tp_keep {set j : Nat} {sz row : Nat → Nat} : ∀ i, (∀ b, j ≤ b → b < j + i → ¬ mk set b) → tps sz set (j + i) = tps sz set j ∧ tpo sz row set (j + i) = tpo sz row set j
  | 0, _ => ⟨rfl, rfl⟩
  | i + 1, h => by
    obtain ⟨i1, i2⟩ := tp_keep (sz := sz) (row := row) i (fun b h1 h2 => h b h1 (by omega))
    obtain ⟨s1, s2⟩ := tp_skip (sz := sz) (row := row) (h (j + i) (by omega) (by omega))
    exact ⟨s1.trans i1, s2.trans i2⟩
theorem tp_sing {set d k : Nat} {sz row : Nat → Nat} (hb : ∀ b, mk set b ↔ b = d) (hd : d < k) : tps sz set k = sz d ∧ tpo sz row set k = row d := by
  obtain ⟨a1, a2⟩ := tp_none (sz := sz) (row := row) (set := set) (k := d) (fun c hc z => by have := (hb c).mp z; omega)
  obtain ⟨b1, b2⟩ := tp_add (sz := sz) (row := row) ((hb d).mpr rfl)
  obtain ⟨c1, c2⟩ := tp_keep (sz := sz) (row := row) (set := set) (j := d + 1) (k - (d + 1)) (fun b h1 h2 z => by have := (hb b).mp z; omega)
  rw [show d + 1 + (k - (d + 1)) = k by omega] at c1 c2
  rw [c1, c2, b1, b2, a1, a2, Nat.one_mul, Nat.zero_mul, Nat.zero_add]
  exact ⟨rfl, rfl⟩
theorem tp_pair {set c d k : Nat} {sz row : Nat → Nat} (hcd : c < d) (hb : ∀ b, mk set b ↔ b = c ∨ b = d) (hd : d < k) : tps sz set k = sz c * sz d ∧ tpo sz row set k = row c * sz d + row d := by
  obtain ⟨a1, a2⟩ := tp_none (sz := sz) (row := row) (set := set) (k := c) (fun b hc z => by have := (hb b).mp z; omega)
  obtain ⟨b1, b2⟩ := tp_add (sz := sz) (row := row) ((hb c).mpr (Or.inl rfl))
  obtain ⟨c1, c2⟩ := tp_keep (sz := sz) (row := row) (set := set) (j := c + 1) (d - (c + 1)) (fun b h1 h2 z => by have := (hb b).mp z; omega)
  rw [show c + 1 + (d - (c + 1)) = d by omega] at c1 c2
  obtain ⟨d1, d2⟩ := tp_add (sz := sz) (row := row) ((hb d).mpr (Or.inr rfl))
  obtain ⟨e1, e2⟩ := tp_keep (sz := sz) (row := row) (set := set) (j := d + 1) (k - (d + 1)) (fun b h1 h2 z => by have := (hb b).mp z; omega)
  rw [show d + 1 + (k - (d + 1)) = k by omega] at e1 e2
  rw [e1, e2, d1, d2, c1, c2, b1, b2, a1, a2, Nat.one_mul, Nat.zero_mul, Nat.zero_add]
  exact ⟨rfl, rfl⟩
/-- rows with a in column c and b in column d -/
noncomputable def cpr (n : Nat) (ce : Nat → Nat → Nat) (c d a b : Nat) : Nat := cn (fun q => ce q c = a ∧ ce q d = b) n
theorem bal_pair {n k set c d : Nat} {sz : Nat → Nat} {ce : Nat → Nat → Nat} (hW : Wf n k sz ce) (hcd : c < d) (hd : d < k) (hb : ∀ b, mk set b ↔ b = c ∨ b = d) : bal n k sz ce set aT ↔ ∀ a, a < sz c → ∀ b, b < sz d → cpr n ce c d a b * (sz c * sz d) = n := by
  have ht : ∀ row, tps sz set k = sz c * sz d ∧ tpo sz row set k = row c * sz d + row d := fun row => by
    exact tp_pair hcd hb hd
  have key : ∀ a, ∀ b, b < sz d → tc sz ce set k aT (a * sz d + b) n = cpr n ce c d a b := fun a b hb => cn_cg (fun q hq => by
    rw [(ht (ce q)).2, mul_add_iff (hW.2.2.2 q hq d hd) hb]
    exact ⟨fun z => z.2, fun z => ⟨trivial, z⟩⟩)
  unfold bal
  rw [(ht (fun _ => 0)).1, cn_aT]
  constructor
  · intro h a ha b hb
    have hv : a * sz d + b < sz c * sz d := by
      have : (a + 1) * sz d ≤ sz c * sz d := Nat.mul_le_mul_right _ ha
      rw [Nat.succ_mul] at this
      omega
    have := h _ hv
    rwa [key a b hb] at this
  · intro h v hv
    have hz := hW.2.2.1 d hd
    have h1 : v / sz d < sz c := Nat.div_lt_of_lt_mul (by rw [Nat.mul_comm]; exact hv)
    have h2 : v % sz d < sz d := Nat.mod_lt _ (by omega)
    have := h _ h1 _ h2
    rw [← key _ _ h2, Nat.mul_comm (v / sz d), Nat.div_add_mod] at this
    exact this
theorem bal_sing {n k set d : Nat} {sz : Nat → Nat} {ce : Nat → Nat → Nat} (hd : d < k) (hb : ∀ b, mk set b ↔ b = d) : bal n k sz ce set aT ↔ ∀ a, a < sz d → cn (fun q => ce q d = a) n * sz d = n := by
  have ht : ∀ row, tps sz set k = sz d ∧ tpo sz row set k = row d := fun row => by
    exact tp_sing hb hd
  have key : ∀ a, tc sz ce set k aT a n = cn (fun q => ce q d = a) n := fun a => cn_cg (fun q hq => by
    rw [(ht (ce q)).2]
    exact ⟨fun z => z.2, fun z => ⟨trivial, z⟩⟩)
  unfold bal
  rw [(ht (fun _ => 0)).1, cn_aT]
  exact ⟨fun h a ha => by rw [← key a]; exact h a ha, fun h a ha => by rw [key a]; exact h a ha⟩
/-- strength 2 in counts of pairs -/
theorem ok2 {n k : Nat} {sz : Nat → Nat} {ce : Nat → Nat → Nat} (hW : Wf n k sz ce) : okT n k sz ce 2 aT ↔ ∀ c d, c < d → d < k → ∀ a, a < sz c → ∀ b, b < sz d → cpr n ce c d a b * (sz c * sz d) = n := by
  constructor
  · intro h c d hcd hd
    obtain ⟨p1, p2, p3⟩ := pair_of hcd hd hW.2.1
    exact (bal_pair hW hcd hd p3).mp (h _ p1 p2)
  · intro h set hs hp
    obtain ⟨c, d, hcd, hd, hb⟩ := pair_set hW.2.1 hs hp
    exact (bal_pair hW hcd hd hb).mpr (h c d hcd hd)
/-! the rows' divisor -/
theorem lcN_dvd {sz : Nat → Nat} {d n : Nat} : ∀ {c m : Nat}, (∀ b, b < c → sz b * sz d ∣ n) → m ∣ n → lcN sz d c m ∣ n
  | 0, m, _, h => h
  | c + 1, m, h, hm => Nat.lcm_dvd (lcN_dvd (fun b hb => h b (by omega)) hm) (h c (by omega))
theorem lcO_dvd {sz : Nat → Nat} {n : Nat} : ∀ {k : Nat}, (∀ d, d < k → ∀ c, c < d → sz c * sz d ∣ n) → lcO sz k ∣ n
  | 0, _ => Nat.one_dvd n
  | k + 1, h => lcN_dvd (h k (by omega)) (lcO_dvd (fun d hd => h d (by omega)))
theorem ok2_dvd {n k : Nat} {sz : Nat → Nat} {ce : Nat → Nat → Nat} (hW : Wf n k sz ce) (h : okT n k sz ce 2 aT) : lcO sz k ∣ n :=
  lcO_dvd (fun d hd c hc => ⟨cpr n ce c d 0 0, by
    have h1 := hW.2.2.1 c (by omega)
    have h2 := hW.2.2.1 d hd
    have := (ok2 hW).mp h c d hc hd 0 (by omega) 0 (by omega)
    rw [Nat.mul_comm]
    exact this.symm⟩)
/-! the least number of rows -/
def sI (f : Nat → Int) : Nat → Int
  | 0 => 0
  | n + 1 => sI f n + f n
theorem sI_cg {f g : Nat → Int} : ∀ {n : Nat}, (∀ v, v < n → f v = g v) → sI f n = sI g n
  | 0, _ => rfl
  | n + 1, h => by rw [sI, sI, sI_cg (n := n) (fun r hr => h r (by omega)), h n (by omega)]
theorem sI_lin (x y z w : Int) (f g h : Nat → Int) : ∀ n : Nat, sI (fun q => x * f q + y * g q + z * h q + w) n = x * sI f n + y * sI g n + z * sI h n + w * (n : Int)
  | 0 => by simp [sI]
  | n + 1 => by
    rw [sI, sI, sI, sI, sI_lin x y z w f g h n]
    grind
theorem sI_nn {f : Nat → Int} : ∀ {n : Nat}, (∀ v, v < n → 0 ≤ f v) → 0 ≤ sI f n
  | 0, _ => by simp [sI]
  | n + 1, h => by
    have := sI_nn (n := n) (fun r hr => h r (by omega))
    have := h n (by omega)
    rw [sI]; omega
theorem sI_ge0 {f : Nat → Int} : ∀ {n : Nat}, (∀ v, v < n → 0 ≤ f v) → 0 < n → f 0 ≤ sI f n
  | 0, _, h => by omega
  | n + 1, h, _ => by
    rw [sI]
    rcases Nat.eq_zero_or_pos n with e | e
    · subst e
      simp [sI]
    · have := sI_ge0 (n := n) (fun r hr => h r (by omega)) e
      have := h n (by omega)
      omega
noncomputable def ind (p : Prop) : Int := cif p 1 0
theorem ind_t {p : Prop} (h : p) : ind p = 1 := cif_t h
theorem ind_f {p : Prop} (h : ¬ p) : ind p = 0 := cif_f h
theorem ind_and (p q : Prop) : ind p * ind q = ind (p ∧ q) := by
  by_cases h1 : p
  · by_cases h2 : q
    · rw [ind_t h1, ind_t h2, ind_t ⟨h1, h2⟩]; rfl
    · rw [ind_t h1, ind_f h2, ind_f (p := p ∧ q) (fun z => h2 z.2)]; rfl
  · rw [ind_f h1, ind_f (p := p ∧ q) (fun z => h1 z.1), Int.zero_mul]
theorem sI_ind (p : Nat → Prop) : ∀ n : Nat, sI (fun q => ind (p q)) n = (cn p n : Int)
  | 0 => rfl
  | n + 1 => by
    rw [sI, sI_ind p n]
    by_cases h : p n
    · rw [ind_t h, cn_t h]; omega
    · rw [ind_f h, cn_f h]; omega
/-- the contrast of column c against the first row's level -/
noncomputable def bc (sz : Nat → Nat) (ce : Nat → Nat → Nat) (c q : Nat) : Int := (sz c : Int) * ind (ce q c = ce 0 c) - 1
noncomputable def ac (sz : Nat → Nat) (ce : Nat → Nat → Nat) : Nat → Nat → Int
  | 0, _ => 1
  | m + 1, q => ac sz ce m q + bc sz ce m q
theorem ac_0 {sz : Nat → Nat} {ce : Nat → Nat → Nat} : ∀ {m : Nat}, (∀ c, c < m → 2 ≤ sz c) → ac sz ce m 0 = (lrs sz m : Int)
  | 0, _ => rfl
  | m + 1, h => by
    have ih := ac_0 (sz := sz) (ce := ce) (m := m) (fun c hc => h c (by omega))
    have := h m (by omega)
    rw [ac, ih, bc, ind_t rfl, lrs]
    omega
section RAO
variable {n k : Nat} {sz : Nat → Nat} {ce : Nat → Nat → Nat}
theorem bc_s1 {c : Nat} (h : cn (fun q => ce q c = ce 0 c) n * sz c = n) : sI (bc sz ce c) n = 0 := by
  have e : sI (bc sz ce c) n = sI (fun q => (sz c : Int) * ind (ce q c = ce 0 c) + 0 * (0 : Int) + 0 * (0 : Int) + (-1)) n := sI_cg (fun q _ => by rw [bc]; omega)
  rw [e, sI_lin (sz c : Int) 0 0 (-1) (fun q => ind (ce q c = ce 0 c)) (fun _ => 0) (fun _ => 0) n, sI_ind (fun q => ce q c = ce 0 c) n]
  have h2 : (cn (fun q => ce q c = ce 0 c) n : Int) * (sz c : Int) = (n : Int) := by exact_mod_cast h
  grind
theorem bc_s2 {c d : Nat} (hc : cn (fun q => ce q c = ce 0 c) n * sz c = n) (hd : cn (fun q => ce q d = ce 0 d) n * sz d = n) (hcd : cpr n ce c d (ce 0 c) (ce 0 d) * (sz c * sz d) = n) : sI (fun q => bc sz ce c q * bc sz ce d q) n = 0 := by
  have e : sI (fun q => bc sz ce c q * bc sz ce d q) n = sI (fun q => ((sz c : Int) * (sz d : Int)) * ind (ce q c = ce 0 c ∧ ce q d = ce 0 d) + (-(sz c : Int)) * ind (ce q c = ce 0 c) + (-(sz d : Int)) * ind (ce q d = ce 0 d) + 1) n := sI_cg (fun q _ => by
    rw [bc, bc, ← ind_and]
    grind)
  rw [e, sI_lin ((sz c : Int) * (sz d : Int)) (-(sz c : Int)) (-(sz d : Int)) 1 (fun q => ind (ce q c = ce 0 c ∧ ce q d = ce 0 d)) (fun q => ind (ce q c = ce 0 c)) (fun q => ind (ce q d = ce 0 d)) n, sI_ind (fun q => ce q c = ce 0 c) n, sI_ind (fun q => ce q d = ce 0 d) n, sI_ind (fun q => ce q c = ce 0 c ∧ ce q d = ce 0 d) n]
  have h1 : (cn (fun q => ce q c = ce 0 c) n : Int) * (sz c : Int) = (n : Int) := by exact_mod_cast hc
  have h2 : (cn (fun q => ce q d = ce 0 d) n : Int) * (sz d : Int) = (n : Int) := by exact_mod_cast hd
  have h3 : (cn (fun q => ce q c = ce 0 c ∧ ce q d = ce 0 d) n : Int) * ((sz c : Int) * (sz d : Int)) = (n : Int) := by exact_mod_cast hcd
  grind
theorem bc_sq {c : Nat} (hc : cn (fun q => ce q c = ce 0 c) n * sz c = n) : sI (fun q => bc sz ce c q * bc sz ce c q) n = (n : Int) * ((sz c : Int) - 1) := by
  have e : sI (fun q => bc sz ce c q * bc sz ce c q) n = sI (fun q => ((sz c : Int) * (sz c : Int) - 2 * (sz c : Int)) * ind (ce q c = ce 0 c) + 0 * (0 : Int) + 0 * (0 : Int) + 1) n := sI_cg (fun q _ => by
    have h1 : ind (ce q c = ce 0 c) * ind (ce q c = ce 0 c) = ind (ce q c = ce 0 c) := by
      by_cases h : ce q c = ce 0 c
      · rw [ind_t h]; rfl
      · rw [ind_f h]; rfl
    rw [bc]
    grind)
  rw [e, sI_lin ((sz c : Int) * (sz c : Int) - 2 * (sz c : Int)) 0 0 1 (fun q => ind (ce q c = ce 0 c)) (fun _ => 0) (fun _ => 0) n, sI_ind (fun q => ce q c = ce 0 c) n]
  have h1 : (cn (fun q => ce q c = ce 0 c) n : Int) * (sz c : Int) = (n : Int) := by exact_mod_cast hc
  grind
theorem sI_add (f g : Nat → Int) : ∀ n : Nat, sI (fun q => f q + g q) n = sI f n + sI g n
  | 0 => rfl
  | n + 1 => by rw [sI, sI, sI, sI_add f g n]; omega
theorem ac_b (h1 : ∀ c, c < k → cn (fun q => ce q c = ce 0 c) n * sz c = n) (h2 : ∀ c d, c < d → d < k → cpr n ce c d (ce 0 c) (ce 0 d) * (sz c * sz d) = n) : ∀ (m j : Nat), m ≤ j → j < k → sI (fun q => ac sz ce m q * bc sz ce j q) n = 0
  | 0, j, _, hj => by
    rw [show sI (fun q => ac sz ce 0 q * bc sz ce j q) n = sI (bc sz ce j) n from sI_cg (fun q _ => by rw [ac, Int.one_mul])]
    exact bc_s1 (h1 j hj)
  | m + 1, j, hm, hj => by
    rw [show sI (fun q => ac sz ce (m + 1) q * bc sz ce j q) n = sI (fun q => ac sz ce m q * bc sz ce j q + bc sz ce m q * bc sz ce j q) n from sI_cg (fun q _ => by rw [ac, Int.add_mul]), sI_add (fun q => ac sz ce m q * bc sz ce j q) (fun q => bc sz ce m q * bc sz ce j q), ac_b h1 h2 m j (by omega) hj, bc_s2 (h1 m (by omega)) (h1 j hj) (h2 m j (by omega) hj)]
    rfl
theorem ac_sq (hz : ∀ c, c < k → 2 ≤ sz c) (h1 : ∀ c, c < k → cn (fun q => ce q c = ce 0 c) n * sz c = n) (h2 : ∀ c d, c < d → d < k → cpr n ce c d (ce 0 c) (ce 0 d) * (sz c * sz d) = n) : ∀ m : Nat, m ≤ k → sI (fun q => ac sz ce m q * ac sz ce m q) n = (n : Int) * (lrs sz m : Int)
  | 0, _ => by
    have h := sI_lin 0 0 0 1 (fun _ => 0) (fun _ => 0) (fun _ => 0) n
    rw [show sI (fun q => ac sz ce 0 q * ac sz ce 0 q) n = sI (fun q => 0 * (0 : Int) + 0 * (0 : Int) + 0 * (0 : Int) + 1) n from sI_cg (fun q _ => by rw [ac]; rfl), h, lrs]
    simp
  | m + 1, hm => by
    have ih := ac_sq hz h1 h2 m (by omega)
    have hb := ac_b h1 h2 m m (Nat.le_refl _) (by omega)
    have hs := bc_sq (h1 m (by omega))
    have hm2 := hz m (by omega)
    have e : sI (fun q => ac sz ce (m + 1) q * ac sz ce (m + 1) q) n = sI (fun q => 1 * (ac sz ce m q * ac sz ce m q) + 2 * (ac sz ce m q * bc sz ce m q) + 1 * (bc sz ce m q * bc sz ce m q) + 0) n := sI_cg (fun q _ => by rw [ac]; grind)
    rw [e, sI_lin 1 2 1 0 (fun q => ac sz ce m q * ac sz ce m q) (fun q => ac sz ce m q * bc sz ce m q) (fun q => bc sz ce m q * bc sz ce m q) n, ih, hb, hs, lrs]
    have e2 : ((lrs sz m + (sz m - 1) : Nat) : Int) = (lrs sz m : Int) + ((sz m : Int) - 1) := by omega
    rw [e2]
    grind
end RAO
theorem sm_mulr (f : Nat → Nat) (c : Nat) : ∀ n, sm f n * c = sm (fun v => f v * c) n
  | 0 => Nat.zero_mul _
  | n + 1 => by rw [sm, sm, Nat.add_mul, sm_mulr f c n]
/-- rows of strength 2 are at least 1 and the levels but one of each column -/
theorem rao {n k : Nat} {sz : Nat → Nat} {ce : Nat → Nat → Nat} (hW : Wf n k sz ce) (hn : 0 < n) (hk : 2 ≤ k) (h : okT n k sz ce 2 aT) : lrs sz k ≤ n := by
  have hz : ∀ c, c < k → 2 ≤ sz c := fun c hc => (hW.2.2.1 c hc).1
  have hp := (ok2 hW).mp h
  have hl : ∀ c, c < k → ce 0 c < sz c := fun c hc => hW.2.2.2 0 hn c hc
  have h2 : ∀ c d, c < d → d < k → cpr n ce c d (ce 0 c) (ce 0 d) * (sz c * sz d) = n := fun c d hcd hd => hp c d hcd hd _ (hl c (by omega)) _ (hl d hd)
  have h1 : ∀ c, c < k → cn (fun q => ce q c = ce 0 c) n * sz c = n := fun c hc => by
    have hok1 := okT_less hW (t := 1) (by omega) h
    have hs : 2 ^ c < 2 ^ k := Nat.pow_lt_pow_right (by decide) hc
    have hp1 : popn 12 (2 ^ c) = 1 := by
      have hh := popn_or (m := 0) (c := c) (by have := hW.2.1; omega) (by unfold mk; rw [Nat.zero_div]; decide)
      rw [Nat.zero_or] at hh
      rw [hh]
      rfl
    exact (bal_sing hc (fun b => mk_p2)).mp (hok1 _ hs hp1) _ (hl c hc)
  have hsq := ac_sq hz h1 h2 k (Nat.le_refl _)
  have h0 : ac sz ce k 0 * ac sz ce k 0 ≤ sI (fun q => ac sz ce k q * ac sz ce k q) n := sI_ge0 (f := fun q => ac sz ce k q * ac sz ce k q) (fun v _ => by
    rcases Int.le_total 0 (ac sz ce k v) with q | q
    · exact Int.mul_nonneg q q
    · exact Int.mul_nonneg_of_nonpos_of_nonpos q q) hn
  rw [hsq, ac_0 hz] at h0
  have h3 : lrs sz k * lrs sz k ≤ n * lrs sz k := by exact_mod_cast h0
  rcases Nat.eq_zero_or_pos (lrs sz k) with e | e
  · omega
  · exact Nat.le_of_mul_le_mul_right h3 e
