/-! what one set of columns counts -/
theorem f_le {n k : Nat} {sz : Nat → Nat} {ce : Nat → Nat → Nat} {set v : Nat} : ctA n k sz ce set v ≤ n := tc_n
theorem f_sum {n k : Nat} {sz : Nat → Nat} {ce : Nat → Nat → Nat} (hW : Wf n k sz ce) (set : Nat) : sm (ctA n k sz ce set) (tps sz set k) = n := by
  have := tc_sum hW set aT
  rwa [cn_aT] at this
theorem mxv_s (f : Nat → Nat) (T : Nat) : mxv f (T + 1) = Nat.max (mxv f T) (f T) := rfl
theorem mnv_s (f : Nat → Nat) (a T : Nat) : mnv f a (T + 1) = Nat.min (mnv f a T) (f T) := rfl
theorem sm_s (f : Nat → Nat) (T : Nat) : sm f (T + 1) = sm f T + f T := rfl
/-- the greatest count is the least just when the set is balanced -/
theorem ext_bal {n k : Nat} {sz : Nat → Nat} {ce : Nat → Nat → Nat} {set : Nat} (hW : Wf n k sz ce) : mxv (ctA n k sz ce set) (tps sz set k) = mnv (ctA n k sz ce set) 36 (tps sz set k) ↔ bal n k sz ce set (mk (2 ^ n - 1)) := by
  have hT := tps_pos (sz := sz) (set := set) (k := k) (fun c hc => (hW.2.2.1 c hc).1)
  rw [show bal n k sz ce set (mk (2 ^ n - 1)) ↔ bal n k sz ce set aT from bal_cg (fun _ hr => mk_aT hr)]
  have hs := f_sum hW set
  constructor
  · intro h v hv
    have he : ∀ w, w < tps sz set k → ctA n k sz ce set w = ctA n k sz ce set v := fun w hw => by
      have a1 := mxv_ge (f := ctA n k sz ce set) hw
      have a2 := mnv_le (f := ctA n k sz ce set) (a := 36) hw
      have a3 := mxv_ge (f := ctA n k sz ce set) hv
      have a4 := mnv_le (f := ctA n k sz ce set) (a := 36) hv
      omega
    rw [sm_cg he, sm_const] at hs
    rw [cn_aT, Nat.mul_comm]
    exact hs
  · intro h
    have he : ∀ v, v < tps sz set k → ctA n k sz ce set v = ctA n k sz ce set 0 := fun v hv => by
      have a1 := h v hv
      have a2 := h 0 hT
      exact Nat.eq_of_mul_eq_mul_right hT (a1.trans a2.symm)
    have b1 : mxv (ctA n k sz ce set) (tps sz set k) ≤ ctA n k sz ce set 0 := mxv_le (fun v hv => by rw [he v hv]; exact Nat.le_refl _)
    have b2 := mxv_ge (f := ctA n k sz ce set) hT
    have b3 : ctA n k sz ce set 0 ≤ mnv (ctA n k sz ce set) 36 (tps sz set k) := mnv_ge (by have := f_le (n := n) (k := k) (sz := sz) (ce := ce) (set := set) (v := 0); have := hW.1; omega) (fun v hv => by rw [he v hv]; exact Nat.le_refl _)
    have b4 := mnv_le (f := ctA n k sz ce set) (a := 36) hT
    omega
/-- the first of them, looked for from the start -/
theorem fi_snoc (p : Nat → Prop) : ∀ (f i : Nat), fi p (f + 1) i = if fi p f i = -9 then cif (p (i + f)) ((i + f : Nat) : Int) (-9) else fi p f i
  | 0, i => by
    rw [if_pos (show fi p 0 i = -9 from rfl)]
    rfl
  | f + 1, i => by
    by_cases e : p i
    · rw [fi_t (f := f + 1) e, fi_t (f := f) e, if_neg (by omega)]
    · rw [fi_f (f := f + 1) e, fi_f (f := f) e, fi_snoc p f (i + 1), show i + 1 + f = i + (f + 1) by omega]
noncomputable def ubs (n k : Nat) (sz : Nat → Nat) (ce : Nat → Nat → Nat) (t s : Nat) : Prop := popn 12 s = t ∧ ¬ bal n k sz ce s (mk (2 ^ n - 1))
theorem fi_ub (n k : Nat) (sz : Nat → Nat) (ce : Nat → Nat → Nat) (t s : Nat) : fi (ubs n k sz ce t) (s + 1) 0 = if fi (ubs n k sz ce t) s 0 = -9 then cif (ubs n k sz ce t s) (s : Int) (-9) else fi (ubs n k sz ce t) s 0 := by
  rw [fi_snoc, Nat.zero_add]
/-- the least count, begun at 36 -/
noncomputable def lsL (n k : Nat) (sz : Nat → Nat) (ce : Nat → Nat → Nat) (t : Nat) : Nat → Nat
  | 0 => 36
  | s + 1 => cif (popn 12 s = t) (Nat.min (lsL n k sz ce t s) (mnv (ctA n k sz ce s) 36 (tps sz s k))) (lsL n k sz ce t s)
theorem mn36 {n k s : Nat} {sz : Nat → Nat} {ce : Nat → Nat → Nat} (hW : Wf n k sz ce) : mnv (ctA n k sz ce s) 36 (tps sz s k) = mnS n k sz ce s ∧ mnS n k sz ce s ≤ n := by
  have hT := tps_pos (sz := sz) (set := s) (k := k) (fun c hc => (hW.2.2.1 c hc).1)
  have h0 := f_le (n := n) (k := k) (sz := sz) (ce := ce) (set := s) (v := 0)
  have h1 := mnv_le (f := ctA n k sz ce s) (a := 36) hT
  have hn := hW.1
  have h2 := mnv_min (f := ctA n k sz ce s) (a := n) (b := 36) hn (tps sz s k)
  have h3 : Nat.min n (mnv (ctA n k sz ce s) 36 (tps sz s k)) = mnv (ctA n k sz ce s) 36 (tps sz s k) := Nat.min_eq_right (by omega)
  unfold mnS
  rw [← h2, h3]
  exact ⟨rfl, by omega⟩
theorem lsL_min {n k t : Nat} {sz : Nat → Nat} {ce : Nat → Nat → Nat} (hW : Wf n k sz ce) : ∀ s, Nat.min n (lsL n k sz ce t s) = lss n k sz ce t s
  | 0 => Nat.min_eq_left hW.1
  | s + 1 => by
    have ih := lsL_min (t := t) hW s
    by_cases e : popn 12 s = t
    · rw [lsL, lss, cif_t e, cif_t e, ← ih, (mn36 hW).1]
      exact (Nat.min_assoc _ _ _).symm
    · rw [lsL, lss, cif_f e, cif_f e, ih]
theorem lsL_le {n k t s0 : Nat} {sz : Nat → Nat} {ce : Nat → Nat → Nat} (hW : Wf n k sz ce) (h0 : popn 12 s0 = t) : ∀ s, s0 < s → lsL n k sz ce t s ≤ n
  | 0, h => absurd h (Nat.not_lt_zero _)
  | s + 1, h => by
    by_cases e : s0 = s
    · subst e
      rw [lsL, cif_t h0, (mn36 hW).1]
      exact Nat.le_trans (Nat.min_le_right _ _) (mn36 hW).2
    · have ih := lsL_le hW h0 s (by omega)
      by_cases e2 : popn 12 s = t
      · rw [lsL, cif_t e2]
        exact Nat.le_trans (Nat.min_le_left _ _) ih
      · rw [lsL, cif_f e2]
        exact ih
theorem pop_ones : ∀ t : Nat, t < 8 → popn 12 (2 ^ t - 1) = t := by decide +kernel
theorem lsL_end {n k t : Nat} {sz : Nat → Nat} {ce : Nat → Nat → Nat} (hW : Wf n k sz ce) (ht : t ≤ k) : lsL n k sz ce t (2 ^ k) = lss n k sz ce t (2 ^ k) := by
  have hk := hW.2.1
  have h1 : 2 ^ t ≤ 2 ^ k := Nat.pow_le_pow_right (by decide) ht
  have h2 : 0 < 2 ^ t := Nat.two_pow_pos t
  have := lsL_le (n := n) hW (pop_ones t (by omega)) (2 ^ k) (by omega)
  rw [← lsL_min hW]
  exact (Nat.min_eq_right this).symm
theorem gts_36 {n k t s : Nat} {sz : Nat → Nat} {ce : Nat → Nat → Nat} (hW : Wf n k sz ce) : gts n k sz ce t s ≤ 36 := Nat.le_trans (gts_le s) hW.1
theorem lsL_36 {n k t : Nat} {sz : Nat → Nat} {ce : Nat → Nat → Nat} : ∀ s, lsL n k sz ce t s ≤ 36
  | 0 => Nat.le_refl _
  | s + 1 => by
    have := lsL_36 (n := n) (k := k) (t := t) (sz := sz) (ce := ce) s
    by_cases e : popn 12 s = t
    · rw [lsL, cif_t e]
      exact Nat.le_trans (Nat.min_le_left _ _) this
    · rw [lsL, cif_f e]; exact this
/-! pairs of rows -/
theorem sm_swap (f : Nat → Nat → Nat) (m : Nat) : ∀ n, sm (fun j => sm (fun r => f j r) n) m = sm (fun r => sm (fun j => f j r) m) n
  | 0 => by rw [show (fun j => sm (fun r => f j r) 0) = fun _ => 0 from rfl, sm_const, Nat.mul_zero]; rfl
  | n + 1 => by
    rw [sm, ← sm_swap f m n, ← sm_add]
    rfl
theorem sm_id : ∀ n, sm (fun r => r) n * 2 = n * (n - 1)
  | 0 => rfl
  | n + 1 => by
    rw [sm, Nat.add_mul, sm_id n, Nat.add_sub_cancel]
    cases n with
    | zero => rfl
    | succ n =>
      rw [Nat.add_sub_cancel, ← Nat.mul_add, Nat.mul_comm]
theorem prs_all {n k : Nat} {ce : Nat → Nat → Nat} (hk : k ≤ 7) : sm (prs n k ce) 8 * 2 = n * (n - 1) := by
  have e : sm (prs n k ce) 8 = sm (fun r => r) n := by
    rw [show sm (prs n k ce) 8 = sm (fun j => sm (fun r => cn (fun q => agr ce r q k = j) r) n) 8 from rfl, sm_swap]
    refine sm_cg (fun r _ => ?_)
    have h := sm_cn (fun q => agr ce r q k) aT 8 r (fun q _ _ => by have := agr_le ce r q k; omega)
    rw [cn_aT] at h
    exact (sm_cg (fun v _ => cn_cg (p := fun q => agr ce r q k = v) (q := fun q => aT q ∧ agr ce r q k = v) (fun q _ => ⟨fun z => ⟨trivial, z⟩, fun z => z.2⟩))).trans h
  rw [e, sm_id]
theorem sm_0 {f : Nat → Nat} : ∀ {n : Nat}, sm f n = 0 ↔ ∀ v, v < n → f v = 0
  | 0 => ⟨fun _ v hv => absurd hv (Nat.not_lt_zero v), fun _ => rfl⟩
  | n + 1 => by
    rw [sm]
    have ih := sm_0 (f := f) (n := n)
    constructor
    · intro h v hv
      by_cases e : v = n
      · rw [e]; omega
      · exact ih.mp (by omega) v (by omega)
    · intro h
      rw [ih.mpr (fun v hv => h v (by omega)), h n (by omega)]
theorem agr_full {ce : Nat → Nat → Nat} {r q : Nat} : ∀ {k : Nat}, agr ce r q k = k ↔ ∀ c, c < k → ce r c = ce q c
  | 0 => ⟨fun _ c hc => absurd hc (Nat.not_lt_zero c), fun _ => rfl⟩
  | k + 1 => by
    have ih := agr_full (ce := ce) (r := r) (q := q) (k := k)
    have hl := agr_le ce r q k
    rw [agr]
    by_cases e : ce r k = ce q k
    · rw [if_pos e]
      constructor
      · intro h c hc
        by_cases e2 : c = k
        · rw [e2]; exact e
        · exact ih.mp (by omega) c (by omega)
      · intro h
        rw [ih.mpr (fun c hc => h c (by omega))]
    · rw [if_neg e]
      exact ⟨fun h => by omega, fun h => absurd (h k (by omega)) e⟩
theorem copies_0 {n k : Nat} {ce : Nat → Nat → Nat} : cn (isC ce k) n = 0 ↔ prs n k ce k = 0 := by
  unfold prs
  rw [cn_0, sm_0]
  constructor
  · intro h r hr
    rw [cn_0]
    intro q hq hz
    exact h r hr ⟨q, hq, ord_0.mpr (fun c hc => (agr_full.mp hz c hc).symm)⟩
  · rintro h r hr ⟨q, hq, hz⟩
    exact cn_0.mp (h r hr) q hq (agr_full.mpr (fun c hc => (ord_0.mp hz c hc).symm))
/-! spare rows -/
theorem spb_lt {n k t : Nat} {sz : Nat → Nat} {ce : Nat → Nat → Nat} : ∀ s, 0 < s → spb n k sz ce t s < s
  | 0, h => absurd h (Nat.not_lt_zero _)
  | s + 1, _ => by
    have := spb_le (n := n) (k := k) (t := t) (sz := sz) (ce := ce) s
    by_cases e : 0 < s ∧ popn 12 (spb n k sz ce t s) < popn 12 s ∧ okT n k sz ce t (fun r => ¬ mk s r)
    · rw [spb, cif_t e]; omega
    · rw [spb, cif_f e]; omega
/-! a column that is found -/
theorem lxE_0 {n k lv : Nat} {sz : Nat → Nat} {ce : Nat → Nat → Nat} (hl : lv ≤ 6) (hn : 0 < n) (h : ∃ x, ext n k sz ce lv x) : lxE n k sz ce lv 0 = 0 := by
  obtain ⟨x, hx⟩ := lext_ex hl h
  have := lext_used (lxE_of hx) (q := 0) hn
  have h0 : us (lxE n k sz ce lv) 0 = 0 := rfl
  omega
theorem lxE_ext {n k lv : Nat} {sz : Nat → Nat} {ce : Nat → Nat → Nat} (hl : lv ≤ 6) (h : ∃ x, ext n k sz ce lv x) : ext n k sz ce lv (lxE n k sz ce lv) := by
  obtain ⟨x, hx⟩ := lext_ex hl h
  exact (lxE_of hx).1
theorem ap_bal {n k lv set : Nat} {sz : Nat → Nat} {ce : Nat → Nat → Nat} {x : Nat → Nat} (hW' : Wf n (k + 1) (apS sz k lv) (apC ce k x)) (h : ext n k sz ce lv x) (hs : set < 2 ^ (k + 1)) (hk : 2 ^ k ≤ set) (hp : popn 12 set < 3) : bal n (k + 1) (apS sz k lv) (apC ce k x) set aT := by
  have hsk : mk set k := by
    unfold mk
    rw [Nat.pow_succ] at hs
    have h1 : set / 2 ^ k < 2 := Nat.div_lt_of_lt_mul hs
    have h2 : 1 ≤ set / 2 ^ k := Nat.div_pos hk (Nat.two_pow_pos k)
    omega
  have hk7 := hW'.2.1
  have hp1 : 1 ≤ popn 12 set := by
    rw [popn_12 (n := k + 1) (by omega) hs]
    exact cn_pos.mpr ⟨k, by omega, hsk⟩
  have sk : apS sz k lv k = lv := if_pos rfl
  have ck : ∀ q, apC ce k x q k = x q := fun q => if_pos rfl
  by_cases e : popn 12 set = 1
  · obtain ⟨d, hd, hb⟩ := single_set hk7 hs e
    have hdk : d = k := ((hb k).mp hsk).symm
    subst hdk
    rw [bal_sing hd hb, sk]
    intro a ha
    rw [show cn (fun q => apC ce d x q d = a) n = ca x a n from cn_cg (fun q _ => by rw [ck])]
    exact h.2.1 a ha
  · obtain ⟨c, d, hcd, hd, hb⟩ := pair_set hk7 hs (by omega)
    have hdk : d = k := by
      rcases (hb k).mp hsk with z | z <;> omega
    subst hdk
    have sc : apS sz d lv c = sz c := if_neg (by omega)
    rw [bal_pair hW' hcd hd hb, sk, sc]
    intro a ha b hb2
    rw [show cpr n (apC ce d x) c d a b = cp ce x c a b n from cn_cg (fun q _ => by rw [ck, show apC ce d x q c = ce q c from if_neg (by omega)])]
    exact h.2.2 c hcd a ha b hb2
theorem bal_eq {n k set v : Nat} {sz : Nat → Nat} {ce : Nat → Nat → Nat} (hW : Wf n k sz ce) (h : bal n k sz ce set aT) (hv : v < tps sz set k) : ctA n k sz ce set v = ctA n k sz ce set 0 := by
  have hT := tps_pos (sz := sz) (set := set) (k := k) (fun c hc => (hW.2.2.1 c hc).1)
  exact Nat.eq_of_mul_eq_mul_right hT ((h v hv).trans (h 0 hT).symm)
/-! what is developed has strength 2 -/
theorem cn_prod (P : Nat → Nat → Prop) (s : Nat) (hs : 0 < s) : ∀ n, cn (fun r => P (r / s) (r % s)) (n * s) = sm (fun a => cn (fun b => P a b) s) n
  | 0 => by rw [Nat.zero_mul]; rfl
  | n + 1 => by
    rw [Nat.succ_mul, cn_split, cn_prod P s hs n, sm]
    congr 1
    refine cn_cg (fun r hr => ?_)
    rw [Nat.mul_comm n s, Nat.mul_add_div hs, Nat.div_eq_of_lt hr, Nat.mul_add_mod, Nat.mod_eq_of_lt hr, Nat.add_zero]
theorem sh_dec : ∀ s : Nat, s < 7 → ∀ x : Nat, x < s → ∀ a : Nat, a < s → ((List.range s).all (fun j => ((x + j) % s == a) == (j == (a + s - x) % s))) = true := by decide +kernel
theorem sh_one {s x a j : Nat} (hs : s < 7) (hx : x < s) (ha : a < s) (hj : j < s) : (x + j) % s = a ↔ j = (a + s - x) % s := by
  have h := List.all_eq_true.mp (sh_dec s hs x hx a ha) j (List.mem_range.mpr hj)
  by_cases e : (x + j) % s = a
  · by_cases e2 : j = (a + s - x) % s
    · exact ⟨fun _ => e2, fun _ => e⟩
    · simp [e, e2] at h
  · by_cases e2 : j = (a + s - x) % s
    · exfalso
      rw [beq_iff_eq] at h
      rw [beq_eq_false_iff_ne.mpr e, beq_iff_eq.mpr e2] at h
      cases h
    · exact ⟨fun z => absurd z e, fun z => absurd z e2⟩
theorem df_dec : ∀ s : Nat, s < 7 → ∀ x : Nat, x < s → ∀ y : Nat, y < s → ∀ a : Nat, a < s → ((List.range s).all (fun b => ((y + (a + s - x) % s) % s == b) == ((y + s - x) % s == (b + s - a) % s))) = true := by decide +kernel
theorem df_iff {s x y a b : Nat} (hs : s < 7) (hx : x < s) (hy : y < s) (ha : a < s) (hb : b < s) : (y + (a + s - x) % s) % s = b ↔ (y + s - x) % s = (b + s - a) % s := by
  have h := List.all_eq_true.mp (df_dec s hs x hx y hy a ha) b (List.mem_range.mpr hb)
  by_cases e : (y + (a + s - x) % s) % s = b
  · by_cases e2 : (y + s - x) % s = (b + s - a) % s
    · exact ⟨fun _ => e2, fun _ => e⟩
    · exfalso
      rw [beq_iff_eq] at h
      rw [beq_iff_eq.mpr e, beq_eq_false_iff_ne.mpr e2] at h
      cases h
  · by_cases e2 : (y + s - x) % s = (b + s - a) % s
    · exfalso
      rw [beq_iff_eq] at h
      rw [beq_eq_false_iff_ne.mpr e, beq_iff_eq.mpr e2] at h
      cases h
    · exact ⟨fun z => absurd z e, fun z => absurd z e2⟩
theorem cn_and1 {p q : Nat → Prop} {s i : Nat} (hi : i < s) (h : ∀ j, j < s → (p j ↔ j = i)) : cn (fun j => p j ∧ q j) s = cif (q i) 1 0 := by
  by_cases e : q i
  · rw [cif_t e, ← cn_one hi]
    exact cn_cg (fun j hj => ⟨fun z => (h j hj).mp z.1, fun z => ⟨(h j hj).mpr z, by rw [z]; exact e⟩⟩)
  · rw [cif_f e]
    exact cn_0.mpr (fun j hj z => e (by rw [← (h j hj).mp z.1]; exact z.2))
theorem sm_cif (P : Nat → Prop) (n : Nat) : sm (fun r => cif (P r) 1 0) n = cn P n := (cn_eqsm P n).symm
theorem dev_ok {n k m : Nat} {sz : Nat → Nat} {ce : Nat → Nat → Nat} (hW : Wf n k sz ce) (hn : 0 < n) (hs : sch n k sz ce) (hm : m = dvm n) (h36 : n * sz 0 ≤ 36) (hk7 : k + m ≤ 7) : okT (n * sz 0) (k + m) (dvS sz k n) (dvC ce k (sz 0)) 2 aT := by
  obtain ⟨hk, hz, hev⟩ := hs
  have hW' := Wf_dv hW hk h36 hm hk7
  have hz0 := hW.2.2.1 0 hk
  rw [ok2 hW']
  intro c d hcd hd a ha b hb
  have m1 : m ≤ 1 := by
    rw [hm]; unfold dvm; split <;> omega
  have hck : c < k := by omega
  have sc : dvS sz k n c = sz 0 := if_pos hck
  rw [sc] at ha ⊢
  have hcc : ∀ r, dvC ce k (sz 0) r c = (ce (r / sz 0) c + r % sz 0) % sz 0 := fun r => if_pos hck
  by_cases hdk : d < k
  · have sd : dvS sz k n d = sz 0 := if_pos hdk
    rw [sd] at hb ⊢
    have hdd : ∀ r, dvC ce k (sz 0) r d = (ce (r / sz 0) d + r % sz 0) % sz 0 := fun r => if_pos hdk
    have e1 : cpr (n * sz 0) (dvC ce k (sz 0)) c d a b = dfc n ce (sz 0) c d ((b + sz 0 - a) % sz 0) := by
      have e2 : cpr (n * sz 0) (dvC ce k (sz 0)) c d a b = cn (fun r => (fun u j => (ce u c + j) % sz 0 = a ∧ (ce u d + j) % sz 0 = b) (r / sz 0) (r % sz 0)) (n * sz 0) := cn_cg (fun r _ => by rw [hcc, hdd])
      rw [e2, cn_prod (fun u j => (ce u c + j) % sz 0 = a ∧ (ce u d + j) % sz 0 = b) (sz 0) (by omega) n]
      unfold dfc
      rw [← sm_cif]
      refine sm_cg (fun u hu => ?_)
      have x1 : ce u c < sz 0 := by have := hW.2.2.2 u hu c hck; rwa [hz c hck] at this
      have x2 : ce u d < sz 0 := by have := hW.2.2.2 u hu d hdk; rwa [hz d hdk] at this
      rw [cn_and1 (p := fun j => (ce u c + j) % sz 0 = a) (q := fun j => (ce u d + j) % sz 0 = b) (i := (a + sz 0 - ce u c) % sz 0) (Nat.mod_lt _ (by omega)) (fun j hj => sh_one (by omega) x1 ha hj)]
      rw [df_iff (by omega) x1 x2 ha hb]
    rw [e1, ← Nat.mul_assoc, hev d hdk c hcd _ (Nat.mod_lt _ (by omega))]
  · have hdk2 : d = k := by omega
    subst hdk2
    have sd : dvS sz d n d = n := if_neg (by omega)
    rw [sd] at hb ⊢
    have hdd : ∀ r, dvC ce d (sz 0) r d = r / sz 0 := fun r => if_neg (by omega)
    have e2 : cpr (n * sz 0) (dvC ce d (sz 0)) c d a b = cn (fun r => (fun u j => (ce u c + j) % sz 0 = a ∧ u = b) (r / sz 0) (r % sz 0)) (n * sz 0) := cn_cg (fun r _ => by rw [hcc, hdd])
    rw [e2, cn_prod (fun u j => (ce u c + j) % sz 0 = a ∧ u = b) (sz 0) (by omega) n]
    have e3 : sm (fun u => cn (fun j => (ce u c + j) % sz 0 = a ∧ u = b) (sz 0)) n = sm (fun u => cif (u = b) 1 0) n := sm_cg (fun u hu => by
      have x1 : ce u c < sz 0 := by have := hW.2.2.2 u hu c hck; rwa [hz c hck] at this
      exact cn_and1 (p := fun j => (ce u c + j) % sz 0 = a) (q := fun _ => u = b) (i := (a + sz 0 - ce u c) % sz 0) (Nat.mod_lt _ (by omega)) (fun j hj => sh_one (by omega) x1 ha hj))
    rw [e3, sm_cif, cn_one hb, Nat.one_mul, Nat.mul_comm]
