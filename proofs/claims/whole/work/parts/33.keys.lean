/-! sums of longs -/
def lsm (f : Nat → Int64) : Nat → Int64
  | 0 => 0
  | n + 1 => lsm f n + f n
theorem lsm_cg {f g : Nat → Int64} : ∀ {n : Nat}, (∀ i, i < n → f i = g i) → lsm f n = lsm g n
  | 0, _ => rfl
  | n + 1, h => by rw [lsm, lsm, lsm_cg (n := n) (fun i hi => h i (by omega)), h n (by omega)]
theorem l4 (a b c d : Int64) : a + b + (c + d) = a + c + (b + d) := by
  rw [Int64.add_assoc, Int64.add_assoc, ← Int64.add_assoc b c d, Int64.add_comm b c, Int64.add_assoc c b d]
theorem lsm_add (f g : Nat → Int64) : ∀ n, lsm (fun i => f i + g i) n = lsm f n + lsm g n
  | 0 => by rw [lsm, lsm, lsm, Int64.add_zero]
  | n + 1 => by rw [lsm, lsm, lsm, lsm_add f g n, l4]
theorem lsm_0 : ∀ n, lsm (fun _ => 0) n = 0
  | 0 => rfl
  | n + 1 => by rw [lsm, lsm_0 n, Int64.add_zero]
theorem lsm_swap (g : Nat → Nat → Int64) (m : Nat) : ∀ n, lsm (fun i => lsm (fun v => g i v) m) n = lsm (fun v => lsm (fun i => g i v) n) m
  | 0 => by
    rw [show lsm (fun v => lsm (fun i => g i v) 0) m = lsm (fun _ => 0) m from lsm_cg (fun v _ => rfl), lsm_0]
    rfl
  | n + 1 => by
    rw [lsm, lsm_swap g m n, show lsm (fun v => lsm (fun i => g i v) (n + 1)) m = lsm (fun v => lsm (fun i => g i v) n + g n v) m from lsm_cg (fun v _ => rfl), lsm_add]
theorem lsm_pick {P : Nat → Prop} {x : Int64} : ∀ {n : Nat}, (cn P n = 0 → lsm (fun i => cif (P i) x 0) n = 0) ∧ (cn P n = 1 → lsm (fun i => cif (P i) x 0) n = x)
  | 0 => ⟨fun _ => rfl, fun h => absurd h (by show ¬ 0 = 1; decide)⟩
  | n + 1 => by
    obtain ⟨h1, h2⟩ := lsm_pick (P := P) (x := x) (n := n)
    by_cases e : P n
    · rw [cn_t e, lsm, cif_t e]
      exact ⟨fun h => by omega, fun h => by rw [h1 (by omega), Int64.zero_add]⟩
    · rw [cn_f e, lsm, cif_f e, Int64.add_zero]
      exact ⟨h1, h2⟩
theorem lsm_one {x : Nat} {F : Nat → Int64} {T : Nat} (hx : x < T) : lsm (fun v => cif (x = v) (F v) 0) T = F x := by
  rw [← (lsm_pick (P := fun v => v = x) (x := F x) (n := T)).2 (cn_one hx)]
  refine lsm_cg (fun v _ => ?_)
  by_cases e : x = v
  · rw [cif_t e, cif_t e.symm, e]
  · rw [cif_f e, cif_f (fun z => e z.symm)]
def inj (f : Nat → Nat) (n : Nat) : Prop := (∀ i, i < n → f i < n) ∧ ∀ i j, i < n → j < n → f i = f j → i = j
theorem inj_one {f : Nat → Nat} {n v : Nat} (h : inj f n) (hv : v < n) : cn (fun i => f i = v) n = 1 := by
  rw [cn_inj h.1 h.2 (fun x => x = v)]
  exact cn_one hv
theorem inj_sur {f : Nat → Nat} {n v : Nat} (h : inj f n) (hv : v < n) : ∃ i, i < n ∧ f i = v := cn_pos.mp (by rw [inj_one h hv]; decide)
theorem lsm_inj {f : Nat → Nat} {n : Nat} (h : inj f n) (F : Nat → Int64) : lsm (fun i => F (f i)) n = lsm F n := by
  have h1 : lsm (fun i => F (f i)) n = lsm (fun i => lsm (fun v => cif (f i = v) (F v) 0) n) n := lsm_cg (fun i hi => (lsm_one (h.1 i hi)).symm)
  rw [h1, lsm_swap]
  exact lsm_cg (fun v hv => (lsm_pick (P := fun i => f i = v)).2 (inj_one h hv))
/-! the keys of the matcher -/
def mixv (x : Int64) : Int64 := ((((x + 1) * (-7046029254386353131)) ^^^ lS ((x + 1) * (-7046029254386353131)) 32) * (-2960836687051489901)) ^^^ lS ((((x + 1) * (-7046029254386353131)) ^^^ lS ((x + 1) * (-7046029254386353131)) 32) * (-2960836687051489901)) 32
noncomputable def kG1 (n : Nat) (ce : Nat → Nat → Nat) (ll : Nat → Nat → Nat) (rk : Nat → Int64) (c v : Nat) : Int64 := mixv (lsm (fun r => cif (ce r c = v) (rk r) 0) n + Int64.ofNat (ll c v))
noncomputable def kGC (n : Nat) (sz : Nat → Nat) (ce : Nat → Nat → Nat) (cl : Nat → Nat) (ll : Nat → Nat → Nat) (rk : Nat → Int64) (c : Nat) : Int64 := mixv (Int64.ofNat (sz c * 8 + cl c) + lsm (kG1 n ce ll rk c) (sz c))
noncomputable def kGL (n : Nat) (sz : Nat → Nat) (ce : Nat → Nat → Nat) (cl : Nat → Nat) (ll : Nat → Nat → Nat) (rk : Nat → Int64) (c v : Nat) : Int64 := mixv (kG1 n ce ll rk c v + kGC n sz ce cl ll rk c)
noncomputable def kSP (k : Nat) (ce : Nat → Nat → Nat) (lk : Nat → Nat → Int64) (rk : Nat → Int64) (r : Nat) : Int64 := mixv (rk r + lsm (fun c => lk c (ce r c)) k)
noncomputable def kRF (n k : Nat) (sz : Nat → Nat) (ce : Nat → Nat → Nat) (cl : Nat → Nat) (ll : Nat → Nat → Nat) (rk : Nat → Int64) : Nat → Int64 := kSP k ce (kGL n sz ce cl ll rk) rk
noncomputable def kR0 (n k : Nat) (ce : Nat → Nat → Nat) (r : Nat) : Int64 := mixv (lsm (fun q => cif (q = r) 0 (mixv (Int64.ofNat (agr ce r q k)))) n)
noncomputable def kRK (n k : Nat) (sz : Nat → Nat) (ce : Nat → Nat → Nat) (cl : Nat → Nat → Nat) (ll : Nat → Nat → Nat → Nat) : Nat → Nat → Int64
  | 0 => kRF n k sz ce (cl 0) (ll 0) (kR0 n k ce)
  | d + 1 => kRF n k sz ce (cl (d + 1)) (ll (d + 1)) (kRK n k sz ce cl ll d)
noncomputable def kCK (n k : Nat) (sz : Nat → Nat) (ce : Nat → Nat → Nat) (cl : Nat → Nat → Nat) (ll : Nat → Nat → Nat → Nat) (d : Nat) : Nat → Int64 := kGC n sz ce (cl d) (ll d) (kRK n k sz ce cl ll d)
noncomputable def kLK (n k : Nat) (sz : Nat → Nat) (ce : Nat → Nat → Nat) (cl : Nat → Nat → Nat) (ll : Nat → Nat → Nat → Nat) (d : Nat) : Nat → Nat → Int64 := kGL n sz ce (cl d) (ll d) (kRK n k sz ce cl ll d)
noncomputable def kSM (n k : Nat) (sz : Nat → Nat) (ce : Nat → Nat → Nat) (cl : Nat → Nat → Nat) (ll : Nat → Nat → Nat → Nat) (d : Nat) : Int64 := lsm (kRK n k sz ce cl ll d) n + lsm (kCK n k sz ce cl ll d) k
theorem agr_cn (ce : Nat → Nat → Nat) (r q : Nat) : ∀ k, agr ce r q k = cn (fun c => ce r c = ce q c) k
  | 0 => rfl
  | k + 1 => by
    have ih := agr_cn ce r q k
    unfold agr
    by_cases e : ce r k = ce q k
    · rw [if_pos e, cn_t (p := fun c => ce r c = ce q c) e, ih]
    · rw [if_neg e, cn_f (p := fun c => ce r c = ce q c) e, ih, Nat.add_zero]
theorem agr_cm (ce : Nat → Nat → Nat) (r q k : Nat) : agr ce r q k = agr ce q r k := by
  rw [agr_cn, agr_cn]
  exact cn_cg (fun c _ => ⟨fun h => h.symm, fun h => h.symm⟩)
/-- an isomorphism by its rows' images, columns' images, levels' images -/
def isoT (n k : Nat) (sz : Nat → Nat) (ce : Nat → Nat → Nat) (sz' : Nat → Nat) (ce' : Nat → Nat → Nat) (π p : Nat → Nat) (σ : Nat → Nat → Nat) : Prop := inj π n ∧ inj p k ∧ (∀ c, c < k → sz' (p c) = sz c ∧ inj (σ c) (sz c)) ∧ ∀ r, r < n → ∀ c, c < k → ce' (π r) (p c) = σ c (ce r c)
section INV
variable {n k : Nat} {sz sz' : Nat → Nat} {ce ce' : Nat → Nat → Nat} {π p : Nat → Nat} {σ : Nat → Nat → Nat} {cl cl' : Nat → Nat} {ll ll' : Nat → Nat → Nat} {rk rk' : Nat → Int64}
theorem v_agr (hW : Wf n k sz ce) (h : isoT n k sz ce sz' ce' π p σ) {r q : Nat} (hr : r < n) (hq : q < n) : agr ce' (π r) (π q) k = agr ce r q k := by
  rw [agr_cn, agr_cn, ← cn_inj h.2.1.1 h.2.1.2 (fun c => ce' (π r) c = ce' (π q) c)]
  refine cn_cg (fun c hc => ?_)
  rw [h.2.2.2 r hr c hc, h.2.2.2 q hq c hc]
  exact ⟨fun e => (h.2.2.1 c hc).2.2 _ _ (hW.2.2.2 r hr c hc) (hW.2.2.2 q hq c hc) e, fun e => by rw [e]⟩
theorem v_R0 (hW : Wf n k sz ce) (h : isoT n k sz ce sz' ce' π p σ) {r : Nat} (hr : r < n) : kR0 n k ce' (π r) = kR0 n k ce r := by
  unfold kR0
  rw [← lsm_inj h.1 (fun q => cif (q = π r) 0 (mixv (Int64.ofNat (agr ce' (π r) q k))))]
  refine congrArg mixv (lsm_cg (fun q hq => ?_))
  rw [v_agr hW h hr hq]
  by_cases e : q = r
  · rw [cif_t (by rw [e]), cif_t e]
  · rw [cif_f (fun z => e (h.1.2 q r hq hr z)), cif_f e]
theorem v_G1 (hW : Wf n k sz ce) (h : isoT n k sz ce sz' ce' π p σ) (hk : ∀ r, r < n → rk' (π r) = rk r) {c v : Nat} (hc : c < k) (hv : v < sz c) (hl : ll' (p c) (σ c v) = ll c v) : kG1 n ce' ll' rk' (p c) (σ c v) = kG1 n ce ll rk c v := by
  unfold kG1
  rw [hl, ← lsm_inj h.1 (fun r => cif (ce' r (p c) = σ c v) (rk' r) 0)]
  refine congrArg (fun z => mixv (z + _)) (lsm_cg (fun r hr => ?_))
  rw [hk r hr, h.2.2.2 r hr c hc]
  by_cases e : ce r c = v
  · rw [cif_t (by rw [e]), cif_t e]
  · rw [cif_f (fun z => e ((h.2.2.1 c hc).2.2 _ _ (hW.2.2.2 r hr c hc) hv z)), cif_f e]
theorem v_GC (hW : Wf n k sz ce) (h : isoT n k sz ce sz' ce' π p σ) (hk : ∀ r, r < n → rk' (π r) = rk r) {c : Nat} (hc : c < k) (hcl : cl' (p c) = cl c) (hl : ∀ v, v < sz c → ll' (p c) (σ c v) = ll c v) : kGC n sz' ce' cl' ll' rk' (p c) = kGC n sz ce cl ll rk c := by
  unfold kGC
  rw [hcl, (h.2.2.1 c hc).1, ← lsm_inj (h.2.2.1 c hc).2 (kG1 n ce' ll' rk' (p c))]
  exact congrArg (fun z => mixv (_ + z)) (lsm_cg (fun v hv => v_G1 hW h hk hc hv (hl v hv)))
theorem v_GL (hW : Wf n k sz ce) (h : isoT n k sz ce sz' ce' π p σ) (hk : ∀ r, r < n → rk' (π r) = rk r) {c v : Nat} (hc : c < k) (hv : v < sz c) (hcl : cl' (p c) = cl c) (hl : ∀ v, v < sz c → ll' (p c) (σ c v) = ll c v) : kGL n sz' ce' cl' ll' rk' (p c) (σ c v) = kGL n sz ce cl ll rk c v := by
  unfold kGL
  rw [v_G1 hW h hk hc hv (hl v hv), v_GC hW h hk hc hcl hl]
theorem v_RF (hW : Wf n k sz ce) (h : isoT n k sz ce sz' ce' π p σ) (hk : ∀ r, r < n → rk' (π r) = rk r) (hcl : ∀ c, c < k → cl' (p c) = cl c) (hl : ∀ c, c < k → ∀ v, v < sz c → ll' (p c) (σ c v) = ll c v) {r : Nat} (hr : r < n) : kRF n k sz' ce' cl' ll' rk' (π r) = kRF n k sz ce cl ll rk r := by
  unfold kRF kSP
  rw [hk r hr, ← lsm_inj h.2.1 (fun c => kGL n sz' ce' cl' ll' rk' c (ce' (π r) c))]
  refine congrArg (fun z => mixv (_ + z)) (lsm_cg (fun c hc => ?_))
  rw [h.2.2.2 r hr c hc]
  exact v_GL hW h hk hc (hW.2.2.2 r hr c hc) (hcl c hc) (hl c hc)
end INV
section INV2
variable {n k : Nat} {sz sz' : Nat → Nat} {ce ce' : Nat → Nat → Nat} {π p : Nat → Nat} {σ : Nat → Nat → Nat} {cl cl' : Nat → Nat → Nat} {ll ll' : Nat → Nat → Nat → Nat}
/-- the labels agree up to depth d -/
def lbl (k : Nat) (sz : Nat → Nat) (p : Nat → Nat) (σ : Nat → Nat → Nat) (cl cl' : Nat → Nat) (ll ll' : Nat → Nat → Nat) : Prop := ∀ c, c < k → cl' (p c) = cl c ∧ ∀ v, v < sz c → ll' (p c) (σ c v) = ll c v
theorem v_RK (hW : Wf n k sz ce) (h : isoT n k sz ce sz' ce' π p σ) : ∀ d, (∀ e, e ≤ d → lbl k sz p σ (cl e) (cl' e) (ll e) (ll' e)) → ∀ r, r < n → kRK n k sz' ce' cl' ll' d (π r) = kRK n k sz ce cl ll d r
  | 0, hl, r, hr => v_RF hW h (fun r hr => v_R0 hW h hr) (fun c hc => (hl 0 (Nat.le_refl _) c hc).1) (fun c hc => (hl 0 (Nat.le_refl _) c hc).2) hr
  | d + 1, hl, r, hr => v_RF hW h (fun r hr => v_RK hW h d (fun e he => hl e (by omega)) r hr) (fun c hc => (hl (d + 1) (Nat.le_refl _) c hc).1) (fun c hc => (hl (d + 1) (Nat.le_refl _) c hc).2) hr
theorem v_CK (hW : Wf n k sz ce) (h : isoT n k sz ce sz' ce' π p σ) {d : Nat} (hl : ∀ e, e ≤ d → lbl k sz p σ (cl e) (cl' e) (ll e) (ll' e)) {c : Nat} (hc : c < k) : kCK n k sz' ce' cl' ll' d (p c) = kCK n k sz ce cl ll d c :=
  v_GC hW h (v_RK hW h d hl) hc (hl d (Nat.le_refl _) c hc).1 (hl d (Nat.le_refl _) c hc).2
theorem v_LK (hW : Wf n k sz ce) (h : isoT n k sz ce sz' ce' π p σ) {d : Nat} (hl : ∀ e, e ≤ d → lbl k sz p σ (cl e) (cl' e) (ll e) (ll' e)) {c v : Nat} (hc : c < k) (hv : v < sz c) : kLK n k sz' ce' cl' ll' d (p c) (σ c v) = kLK n k sz ce cl ll d c v :=
  v_GL hW h (v_RK hW h d hl) hc hv (hl d (Nat.le_refl _) c hc).1 (hl d (Nat.le_refl _) c hc).2
theorem v_SM (hW : Wf n k sz ce) (h : isoT n k sz ce sz' ce' π p σ) {d : Nat} (hl : ∀ e, e ≤ d → lbl k sz p σ (cl e) (cl' e) (ll e) (ll' e)) : kSM n k sz' ce' cl' ll' d = kSM n k sz ce cl ll d := by
  unfold kSM
  rw [← lsm_inj h.1 (kRK n k sz' ce' cl' ll' d), ← lsm_inj h.2.1 (kCK n k sz' ce' cl' ll' d), lsm_cg (fun r hr => v_RK hW h d hl r hr), lsm_cg (f := fun c => kCK n k sz' ce' cl' ll' d (p c)) (fun c hc => v_CK hW h hl hc)]
end INV2
