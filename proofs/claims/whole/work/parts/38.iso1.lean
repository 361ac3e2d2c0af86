/-! isomorphisms -/
theorem cn_nth {P : Nat → Prop} {j : Nat} : ∀ {n : Nat}, j < cn P n → ∃ x, x < n ∧ P x ∧ cn P x = j
  | 0, h => absurd h (Nat.not_lt_zero j)
  | n + 1, h => by
    by_cases e : P n
    · rw [cn_t e] at h
      by_cases e2 : j < cn P n
      · obtain ⟨x, h1, h2, h3⟩ := cn_nth e2
        exact ⟨x, by omega, h2, h3⟩
      · exact ⟨n, by omega, e, by omega⟩
    · rw [cn_f e] at h
      obtain ⟨x, h1, h2, h3⟩ := cn_nth h
      exact ⟨x, by omega, h2, h3⟩
theorem cn_lt {P : Nat → Prop} {x y : Nat} (h : P x) (hxy : x < y) : cn P x < cn P y := by
  have h1 : cn P (x + 1) ≤ cn P y := cn_mono P hxy
  rw [cn_t h] at h1
  omega
/-- two families of rows agree as multisets just if a permutation carries one to the other -/
theorem ms_pi {n : Nat} {E T : Nat → Nat → Prop} (hr : ∀ r, E r r) (hs : ∀ r q, E r q → E q r) (htr : ∀ a b c, E a b → E b c → E a c) (hTT : ∀ q a b, T q a → T q b → E a b) (hTE : ∀ q a b, E a b → T q a → T q b) : (∀ r, r < n → cn (fun q => E q r) n = cn (fun q => T q r) n) ↔ ∃ π, inj π n ∧ ∀ r, r < n → T (π r) r := by
  constructor
  · intro h
    have hx : ∀ r, ∃ x, r < n → x < n ∧ T x r ∧ cn (fun q => T q r) x = cn (fun q => E q r) r := fun r => by
      by_cases e : r < n
      · have h1 : cn (fun q => E q r) r < cn (fun q => T q r) n := by
          rw [← h r e]
          exact cn_lt (hr r) e
        obtain ⟨x, x1, x2, x3⟩ := cn_nth h1
        exact ⟨x, fun _ => ⟨x1, x2, x3⟩⟩
      · exact ⟨0, fun z => absurd z e⟩
    obtain ⟨π, hπ⟩ := Classical.skolem.mp hx
    refine ⟨π, ⟨fun r hr => (hπ r hr).1, ?_⟩, fun r hr => (hπ r hr).2.1⟩
    have key : ∀ i j, i < n → j < n → i < j → π i ≠ π j := fun i j hi hj hij z => by
      obtain ⟨_, i2, i3⟩ := hπ i hi
      obtain ⟨_, j2, j3⟩ := hπ j hj
      rw [← z] at j2 j3
      have hE := hTT _ _ _ i2 j2
      have e1 : cn (fun q => T q i) (π i) = cn (fun q => T q j) (π i) := cn_cg (fun q _ => ⟨fun x => hTE q i j hE x, fun x => hTE q j i (hs _ _ hE) x⟩)
      have e2 : cn (fun q => E q j) j = cn (fun q => E q i) j := cn_cg (fun q _ => ⟨fun x => htr _ _ _ x (hs _ _ hE), fun x => htr _ _ _ x hE⟩)
      have e3 : cn (fun q => E q i) i < cn (fun q => E q i) j := cn_lt (P := fun q => E q i) (hr i) hij
      omega
    intro i j hi hj z
    rcases Nat.lt_trichotomy i j with c | c | c
    · exact absurd z (key i j hi hj c)
    · exact c
    · exact absurd z.symm (key j i hj hi c)
  · rintro ⟨π, hπ, hT⟩ r hr'
    rw [← cn_inj hπ.1 hπ.2 (fun q => T q r)]
    exact cn_cg (fun q hq => ⟨fun z => hTE _ _ _ z (hT q hq), fun z => hTT _ _ _ (hT q hq) z⟩)
theorem rwm_pi {A B : AR} {w : Nat → Nat} {m : Nat} : rwm A B w m ↔ ∃ π, inj π A.1 ∧ ∀ r, r < A.1 → ∀ c, c < m → B.2.2.2 (π r) (w c / 256) = imo (w c) (A.2.2.2 r c) :=
  ms_pi (E := fun q r => ∀ c, c < m → imo (w c) (A.2.2.2 q c) = imo (w c) (A.2.2.2 r c)) (T := fun q r => ∀ c, c < m → B.2.2.2 q (w c / 256) = imo (w c) (A.2.2.2 r c)) (fun _ _ _ => rfl) (fun _ _ h c hc => (h c hc).symm) (fun _ _ _ h1 h2 c hc => (h1 c hc).trans (h2 c hc)) (fun _ _ _ h1 h2 c hc => (h1 c hc).symm.trans (h2 c hc)) (fun _ _ _ h1 h2 c hc => (h2 c hc).trans (h1 c hc))
theorem iso_T {A B : AR} {w : Nat → Nat} (h : iso A B w) : ∃ π, isoT A.1 A.2.1 A.2.2.1 A.2.2.2 B.2.2.1 B.2.2.2 π (fun c => w c / 256) (fun c v => imo (w c) v) := by
  obtain ⟨h1, h2, h3, h4⟩ := h
  obtain ⟨π, p1, p2⟩ := rwm_pi.mp h4
  refine ⟨π, p1, ⟨fun c hc => (h3 c hc).1, ?_⟩, fun c hc => ⟨(h3 c hc).2.1, (h3 c hc).2.2.1.1, (h3 c hc).2.2.1.2.1⟩, p2⟩
  intro i j hi hj e
  rcases Nat.lt_trichotomy i j with c | c | c
  · exact absurd e ((h3 j hj).2.2.2.2 i c)
  · exact c
  · exact absurd e.symm ((h3 i hi).2.2.2.2 j c)
/-- a part of a permutation, continued in ascending order -/
theorem pex {s : Nat} {U : Nat → Prop} {f : Nat → Nat} (h1 : ∀ v, v < s → U v → f v < s) (h2 : ∀ u v, u < s → v < s → U u → U v → f u = f v → u = v) : ∃ g, inj g s ∧ (∀ v, v < s → U v → g v = f v) ∧ ∀ u v, u < v → v < s → ¬ U u → ¬ U v → g u < g v := by
  -- as many images are free as levels
  have hcount : cn (fun x => ∃ v, v < s ∧ U v ∧ f v = x) s = cn U s := by
    have hs := sm_cn f U s s (fun v hv hU => h1 v hv hU)
    rw [← hs, cn_eqsm]
    refine sm_cg (fun x hx => ?_)
    by_cases e : ∃ v, v < s ∧ U v ∧ f v = x
    · rw [cif_t e]
      obtain ⟨v, v1, v2, v3⟩ := e
      rw [← cn_one v1]
      exact cn_cg (fun u hu => ⟨fun z => by rw [z]; exact ⟨v2, v3⟩, fun z => h2 u v hu v1 z.1 v2 (z.2.trans v3.symm)⟩)
    · rw [cif_f e]
      exact (cn_0.mpr (fun u hu z => e ⟨u, hu, z.1, z.2⟩)).symm
  have hfree : cn (fun x => ¬ ∃ v, v < s ∧ U v ∧ f v = x) s = cn (fun v => ¬ U v) s := by
    have a1 := cn_not (fun x => ∃ v, v < s ∧ U v ∧ f v = x) s
    have a2 := cn_not U s
    omega
  have hx : ∀ v, ∃ x, v < s → (U v → x = f v) ∧ (¬ U v → x < s ∧ (¬ ∃ u, u < s ∧ U u ∧ f u = x) ∧ cn (fun x => ¬ ∃ u, u < s ∧ U u ∧ f u = x) x = cn (fun v => ¬ U v) v) := fun v => by
    by_cases e : U v
    · exact ⟨f v, fun _ => ⟨fun _ => rfl, fun z => absurd e z⟩⟩
    · by_cases e2 : v < s
      · have : cn (fun v => ¬ U v) v < cn (fun x => ¬ ∃ u, u < s ∧ U u ∧ f u = x) s := by
          rw [hfree]
          exact cn_lt (P := fun v => ¬ U v) e e2
        obtain ⟨x, x1, x2, x3⟩ := cn_nth this
        exact ⟨x, fun _ => ⟨fun z => absurd z e, fun _ => ⟨x1, x2, x3⟩⟩⟩
      · exact ⟨0, fun z => absurd z e2⟩
  obtain ⟨g, hg⟩ := Classical.skolem.mp hx
  have hasc : ∀ u v, u < v → v < s → ¬ U u → ¬ U v → g u < g v := fun u v huv hv e1 e2 => by
    obtain ⟨a1, a2, a3⟩ := (hg u (by omega)).2 e1
    obtain ⟨b1, b2, b3⟩ := (hg v hv).2 e2
    have h3 : cn (fun v => ¬ U v) u < cn (fun v => ¬ U v) v := cn_lt (P := fun v => ¬ U v) e1 huv
    rcases Nat.lt_or_ge (g u) (g v) with c | c
    · exact c
    · have := cn_mono (fun x => ¬ ∃ u, u < s ∧ U u ∧ f u = x) c
      omega
  refine ⟨g, ⟨fun v hv => ?_, fun u v hu hv e => ?_⟩, fun v hv hU => (hg v hv).1 hU, hasc⟩
  · by_cases e : U v
    · rw [(hg v hv).1 e]; exact h1 v hv e
    · exact ((hg v hv).2 e).1
  · by_cases e1 : U u
    · by_cases e2 : U v
      · rw [(hg u hu).1 e1, (hg v hv).1 e2] at e
        exact h2 u v hu hv e1 e2 e
      · refine absurd ⟨u, hu, e1, ?_⟩ ((hg v hv).2 e2).2.1
        rw [← (hg u hu).1 e1]; exact e
    · by_cases e2 : U v
      · refine absurd ⟨v, hv, e2, ?_⟩ ((hg u hu).2 e1).2.1
        rw [← (hg v hv).1 e2]; exact e.symm
      · rcases Nat.lt_trichotomy u v with c | c | c
        · have := hasc u v c hv e1 e2; omega
        · exact c
        · have := hasc v u c hu e2 e1; omega
/-- a column and the images of its levels in one number -/
def cod (s : Nat) (g : Nat → Nat) : Nat := (if 0 < s then g 0 else 0) * 64 + (if 1 < s then g 1 else 0) * 16 + (if 2 < s then g 2 else 0) * 4 + (if 3 < s then g 3 else 0)
theorem imo_cod {s d : Nat} {g : Nat → Nat} (hs : s ≤ 4) (hg : ∀ v, v < s → g v < 4) : cod s g < 256 ∧ (256 * d + cod s g) / 256 = d ∧ ∀ v, v < 4 → imo (256 * d + cod s g) v = if v < s then g v else 0 := by
  have a0 : (if 0 < s then g 0 else 0) < 4 := by
    split
    · exact hg 0 (by omega)
    · omega
  have a1 : (if 1 < s then g 1 else 0) < 4 := by
    split
    · exact hg 1 (by omega)
    · omega
  have a2 : (if 2 < s then g 2 else 0) < 4 := by
    split
    · exact hg 2 (by omega)
    · omega
  have a3 : (if 3 < s then g 3 else 0) < 4 := by
    split
    · exact hg 3 (by omega)
    · omega
  unfold cod imo
  refine ⟨by omega, by omega, fun v hv => ?_⟩
  rcases (show v = 0 ∨ v = 1 ∨ v = 2 ∨ v = 3 by omega) with rfl | rfl | rfl | rfl
  · show _ / 64 % 4 = _
    omega
  · show _ / 16 % 4 = _
    omega
  · show _ / 4 % 4 = _
    omega
  · show _ / 1 % 4 = _
    omega
theorem rebuild {A B : AR} {π p : Nat → Nat} {y : Nat → Nat} {K : Nat → Prop} (hA : Wf A.1 A.2.1 A.2.2.1 A.2.2.2) (hB : Wf B.1 B.2.1 B.2.2.1 B.2.2.2) (h4 : ∀ c, c < A.2.1 → A.2.2.1 c ≤ 4) (e1 : A.1 = B.1) (e2 : A.2.1 = B.2.1) (hπ : inj π A.1) (hp : inj p A.2.1) (hz : ∀ c, c < A.2.1 → B.2.2.1 (p c) = A.2.2.1 c) (hrow : ∀ c, c < A.2.1 → ∀ r q, r < A.1 → q < A.1 → (A.2.2.2 r c = A.2.2.2 q c ↔ B.2.2.2 (π r) (p c) = B.2.2.2 (π q) (p c))) (hK : ∀ c, c < A.2.1 → K c → y c / 256 = p c ∧ pmo (A.2.2.1 c) (y c) ∧ foa A c (y c) ∧ ∀ r, r < A.1 → B.2.2.2 (π r) (p c) = imo (y c) (A.2.2.2 r c)) : ∃ x, iso A B x ∧ (∀ c, c < A.2.1 → x c / 256 = p c) ∧ ∀ c, c < A.2.1 → K c → x c = y c := by
  have hx : ∀ c, ∃ x, c < A.2.1 → x / 256 = p c ∧ pmo (A.2.2.1 c) x ∧ foa A c x ∧ (∀ r, r < A.1 → B.2.2.2 (π r) (p c) = imo x (A.2.2.2 r c)) ∧ (K c → x = y c) := fun c => by
    by_cases hc : c < A.2.1
    · by_cases hk : K c
      · obtain ⟨k1, k2, k3, k4⟩ := hK c hc hk
        exact ⟨y c, fun _ => ⟨k1, k2, k3, k4, fun _ => rfl⟩⟩
      · have hs4 := h4 c hc
        obtain ⟨f, hf⟩ : ∃ f : Nat → Nat, ∀ r, r < A.1 → f (A.2.2.2 r c) = B.2.2.2 (π r) (p c) := by
          have : ∀ v, ∃ x, ∀ r, r < A.1 → A.2.2.2 r c = v → x = B.2.2.2 (π r) (p c) := fun v => by
            by_cases e : ∃ r, r < A.1 ∧ A.2.2.2 r c = v
            · obtain ⟨r, r1, r2⟩ := e
              exact ⟨B.2.2.2 (π r) (p c), fun q hq e3 => (hrow c hc r q r1 hq).mp (r2.trans e3.symm)⟩
            · exact ⟨0, fun r hr e3 => absurd ⟨r, hr, e3⟩ e⟩
          obtain ⟨f, hf⟩ := Classical.skolem.mp this
          exact ⟨f, fun r hr => hf _ r hr rfl⟩
        obtain ⟨g, g1, g2, g3⟩ := pex (s := A.2.2.1 c) (U := fun v => ∃ r, r < A.1 ∧ A.2.2.2 r c = v) (f := f) (fun v hv ⟨r, r1, r2⟩ => by
          rw [← r2, hf r r1, ← hz c hc]
          exact hB.2.2.2 _ (by rw [← e1]; exact hπ.1 r r1) _ (by rw [← e2]; exact hp.1 c hc)) (fun u v _ _ ⟨r, r1, r2⟩ ⟨q, q1, q2⟩ e => by
          rw [← r2, ← q2, hf r r1, hf q q1] at e
          rw [← r2, ← q2]
          exact (hrow c hc r q r1 q1).mpr e)
        obtain ⟨i1, i2, i3⟩ := imo_cod (s := A.2.2.1 c) (d := p c) (g := g) hs4 (fun v hv => Nat.lt_of_lt_of_le (g1.1 v hv) hs4)
        have i4 : ∀ v, v < A.2.2.1 c → imo (256 * p c + cod (A.2.2.1 c) g) v = g v := fun v hv => by rw [i3 v (by omega), if_pos hv]
        refine ⟨256 * p c + cod (A.2.2.1 c) g, fun _ => ⟨i2, ⟨fun v hv => by rw [i4 v hv]; exact g1.1 v hv, fun u v hu hv e => by rw [i4 u hu, i4 v hv] at e; exact g1.2 u v hu hv e, fun v h1 h2 => by rw [i3 v h2, if_neg (by omega)]⟩, fun u v huv hv n1 n2 => ?_, fun r hr => ?_, fun z => absurd z hk⟩⟩
        · rw [i4 u (by omega), i4 v hv]
          exact g3 u v huv hv (fun ⟨r, r1, r2⟩ => n1 r r1 r2) (fun ⟨r, r1, r2⟩ => n2 r r1 r2)
        · rw [i4 _ (hA.2.2.2 r hr c hc), g2 _ (hA.2.2.2 r hr c hc) ⟨r, hr, rfl⟩, hf r hr]
    · exact ⟨0, fun z => absurd z hc⟩
  obtain ⟨x, hx⟩ := Classical.skolem.mp hx
  refine ⟨x, ⟨e1, e2, fun c hc => ?_, rwm_pi.mpr ⟨π, hπ, fun r hr c hc => ?_⟩⟩, fun c hc => (hx c hc).1, fun c hc hk => (hx c hc).2.2.2.2 hk⟩
  · obtain ⟨x1, x2, x3, x4, x5⟩ := hx c hc
    refine ⟨by rw [x1]; exact hp.1 c hc, by rw [x1]; exact hz c hc, x2, x3, fun b hb e => ?_⟩
    rw [x1, (hx b (by omega)).1] at e
    have := hp.2 b c (by omega) hc e
    omega
  · rw [(hx c hc).1]
    exact (hx c hc).2.2.2.1 r hr
/-- the columns d and e part the rows alike: an isomorphism may use either -/
theorem iso_tw {A B : AR} {y : Nat → Nat} {d e : Nat} (hA : Wf A.1 A.2.1 A.2.2.1 A.2.2.2) (hB : Wf B.1 B.2.1 B.2.2.1 B.2.2.2) (h4 : ∀ c, c < A.2.1 → A.2.2.1 c ≤ 4) (h : iso A B y) (hd : d < A.2.1) (he : e < A.2.1) (htw : twn B.1 B.2.2.1 B.2.2.2 d e) : ∃ x, iso A B x ∧ (∀ c, c < A.2.1 → x c / 256 = tr d e (y c / 256)) ∧ ∀ c, c < A.2.1 → y c / 256 ≠ d → y c / 256 ≠ e → x c = y c := by
  obtain ⟨π, p1, p2, p3, p4⟩ := iso_T h
  have hz : ∀ c, c < A.2.1 → B.2.2.1 (tr d e (y c / 256)) = A.2.2.1 c := fun c hc => by
    have hz := (p3 c hc).1
    dsimp only at hz ⊢
    unfold tr
    split
    · next e9 => rw [← htw.1, ← e9]; exact hz
    · split
      · next e9 => rw [htw.1, ← e9]; exact hz
      · exact hz
  have hrow : ∀ c, c < A.2.1 → ∀ r q, r < A.1 → q < A.1 → (A.2.2.2 r c = A.2.2.2 q c ↔ B.2.2.2 (π r) (tr d e (y c / 256)) = B.2.2.2 (π q) (tr d e (y c / 256))) := fun c hc r q hr hq => by
    have a1 : A.2.2.2 r c = A.2.2.2 q c ↔ B.2.2.2 (π r) (y c / 256) = B.2.2.2 (π q) (y c / 256) := by
      rw [p4 r hr c hc, p4 q hq c hc]
      exact ⟨fun z => by rw [z], fun z => (p3 c hc).2.2 _ _ (hA.2.2.2 r hr c hc) (hA.2.2.2 q hq c hc) z⟩
    have a2 := htw.2 (π r) (π q) (by rw [← h.1]; exact p1.1 r hr) (by rw [← h.1]; exact p1.1 q hq)
    rw [a1]
    unfold tr
    split
    · next e9 => rw [e9]; exact a2
    · split
      · next e9 => rw [e9]; exact a2.symm
      · exact Iff.rfl
  have hK : ∀ c, c < A.2.1 → (y c / 256 ≠ d ∧ y c / 256 ≠ e) → y c / 256 = tr d e (y c / 256) ∧ pmo (A.2.2.1 c) (y c) ∧ foa A c (y c) ∧ ∀ r, r < A.1 → B.2.2.2 (π r) (tr d e (y c / 256)) = imo (y c) (A.2.2.2 r c) := fun c hc hk => by
    have e9 : tr d e (y c / 256) = y c / 256 := tr_o hk.1 hk.2
    rw [e9]
    exact ⟨rfl, (h.2.2.1 c hc).2.2.1, (h.2.2.1 c hc).2.2.2.1, fun r hr => p4 r hr c hc⟩
  obtain ⟨x, x1, x2, x3⟩ := rebuild (y := y) (p := fun c => tr d e (y c / 256)) (K := fun c => y c / 256 ≠ d ∧ y c / 256 ≠ e) hA hB h4 h.1 h.2.1 p1 ⟨fun c hc => tr_lt hd he _ (p2.1 c hc), fun i j hi hj z => p2.2 i j hi hj (tr_inj z)⟩ hz hrow hK
  exact ⟨x, x1, x2, fun c hc h1 h2 => x3 c hc ⟨h1, h2⟩⟩
