/-! a search one place after the other -/
def nvb (b : Nat) (x : Nat → Nat) : Nat → Nat
  | 0 => 0
  | q + 1 => nvb b x q * b + x q
theorem nvb_cg {b : Nat} {x y : Nat → Nat} : ∀ {n : Nat}, (∀ q, q < n → x q = y q) → nvb b x n = nvb b y n
  | 0, _ => rfl
  | n + 1, h => by rw [nvb, nvb, nvb_cg (n := n) (fun q hq => h q (by omega)), h n (by omega)]
theorem nvb_lt {b : Nat} {x : Nat → Nat} (hb : 0 < b) : ∀ {n : Nat}, (∀ q, q < n → x q < b) → nvb b x n < b ^ n
  | 0, _ => Nat.one_pos
  | n + 1, h => by
    have h1 := nvb_lt hb (x := x) (n := n) (fun q hq => h q (by omega))
    have h2 := h n (by omega)
    have h3 : (nvb b x n + 1) * b ≤ b ^ n * b := Nat.mul_le_mul_right b h1
    rw [Nat.succ_mul] at h3
    rw [nvb, Nat.pow_succ]
    omega
def btT (b n r : Nat) (x : Nat → Nat) (j : Nat) : Nat := (nvb b x r * b + j) * b ^ (n - r)
/-- R is the place that is searched, from 1 on; 0 where the search failed -/
def btM (b n R : Nat) (x : Nat → Nat) (j : Nat) : Nat := if R = 0 then n + 1 else (b ^ (n + 1) - btT b n (R - 1) x j) * (n + 2) + (n + 2 - R)
theorem btT_lt {b n r j : Nat} {x : Nat → Nat} (hb : 0 < b) (hr : r ≤ n) (hx : ∀ q, q < r → x q < b) (hj : j < b) : btT b n r x j < b ^ (n + 1) := by
  have h1 := nvb_lt hb hx
  have h2 : (nvb b x r + 1) * b ≤ b ^ r * b := Nat.mul_le_mul_right b h1
  rw [Nat.succ_mul] at h2
  have h3 : nvb b x r * b + j < b ^ (r + 1) := by rw [Nat.pow_succ]; omega
  have h4 : (nvb b x r * b + j + 1) * b ^ (n - r) ≤ b ^ (r + 1) * b ^ (n - r) := Nat.mul_le_mul_right _ h3
  rw [← Nat.pow_add, show r + 1 + (n - r) = n + 1 by omega, Nat.succ_mul] at h4
  have h5 : 0 < b ^ (n - r) := Nat.pow_pos hb
  unfold btT
  omega
theorem btM_up {b n r j v : Nat} {x : Nat → Nat} (hb : 0 < b) (hr : r < n) (hx : ∀ q, q < r → x q < b) (hj : j ≤ v) (hv : v < b) : btM b n (r + 2) (upN x r v) 0 < btM b n (r + 1) x j := by
  have h1 : btT b n (r + 1) (upN x r v) 0 = (nvb b x r * b + v) * b ^ (n - r) := by
    unfold btT
    rw [nvb, upN_s, nvb_cg (x := upN x r v) (y := x) (fun q hq => upN_n (by omega)), Nat.add_zero, Nat.mul_assoc, ← Nat.pow_succ', show (n - (r + 1)).succ = n - r by omega]
  have h2 : btT b n r x j ≤ (nvb b x r * b + v) * b ^ (n - r) := Nat.mul_le_mul_right _ (by omega)
  unfold btM
  rw [if_neg (by omega), if_neg (by omega), show r + 2 - 1 = r + 1 by omega, show r + 1 - 1 = r by omega, h1]
  have h3 : (b ^ (n + 1) - (nvb b x r * b + v) * b ^ (n - r)) * (n + 2) ≤ (b ^ (n + 1) - btT b n r x j) * (n + 2) := Nat.mul_le_mul_right _ (by omega)
  omega
theorem btM_dn {b n r j : Nat} {x : Nat → Nat} (hb : 0 < b) (hr : r < n) (hx : ∀ q, q < r + 1 → x q + 1 < b) (hj : j < b) : btM b n (r + 1) x (x r + 1) < btM b n (r + 2) x j := by
  by_cases hr2 : r + 1 ≤ n
  · have h1 : btT b n r x (x r + 1) = (nvb b x (r + 1) * b + b) * b ^ (n - (r + 1)) := by
      unfold btT
      rw [← Nat.succ_mul, Nat.mul_assoc, ← Nat.pow_succ', show (n - (r + 1)).succ = n - r by omega]
      rfl
    have h5 : 0 < b ^ (n - (r + 1)) := Nat.pow_pos hb
    have h2 : btT b n (r + 1) x j < btT b n r x (x r + 1) := by
      rw [h1]
      exact (Nat.mul_lt_mul_right h5).mpr (by omega)
    have h6 := btT_lt (n := n) (r := r) (x := x) (j := x r + 1) hb (by omega) (fun q hq => by have := hx q (by omega); omega) (hx r (by omega))
    unfold btM
    rw [if_neg (by omega), if_neg (by omega), show r + 2 - 1 = r + 1 by omega, show r + 1 - 1 = r by omega]
    have h3 : (b ^ (n + 1) - btT b n r x (x r + 1) + 1) * (n + 2) ≤ (b ^ (n + 1) - btT b n (r + 1) x j) * (n + 2) := Nat.mul_le_mul_right _ (by omega)
    rw [Nat.succ_mul] at h3
    omega
  · omega
theorem btM_0 {b n j : Nat} {x : Nat → Nat} (hb : 0 < b) (hj : j < b) : btM b n 0 x 0 < btM b n 1 x j := by
  have h1 := btT_lt (n := n) (r := 0) (x := x) hb (Nat.zero_le _) (fun q hq => absurd hq (Nat.not_lt_zero q)) hj
  unfold btM
  rw [if_pos rfl, if_neg (by omega), show 1 - 1 = 0 by omega]
  have h3 : 1 * (n + 2) ≤ (b ^ (n + 1) - btT b n 0 x j) * (n + 2) := Nat.mul_le_mul_right _ (by omega)
  omega
/-! a column's notes -/
def TBL (M : Mem) (k : Nat) (ce : Nat → Nat → Nat) (x : Nat → Nat) (m : Nat) : Prop := (∀ g, g < 6 → M 174 g = (ca x g m : Int)) ∧ ∀ c, c < k → ∀ v, v < 6 → ∀ g, g < 6 → M 175 (36 * c + 6 * v + g) = (cp ce x c v g m : Int)
def NTS (M M' : Mem) (k : Nat) (ce : Nat → Nat → Nat) (r v : Nat) (d : Int) : Prop := (∀ g, g < 6 → M' 174 g = M 174 g + if g = v then d else 0) ∧ ∀ c, c < k → ∀ u, u < 6 → ∀ g, g < 6 → M' 175 (36 * c + 6 * u + g) = M 175 (36 * c + 6 * u + g) + if u = ce r c ∧ g = v then d else 0
theorem TBL_up {M M' : Mem} {k r v : Nat} {ce : Nat → Nat → Nat} {x : Nat → Nat} (h : TBL M k ce x r) (hn : NTS M M' k ce r v 1) : TBL M' k ce (upN x r v) (r + 1) := by
  refine ⟨fun g hg => ?_, fun c hc u hu g hg => ?_⟩
  · rw [hn.1 g hg, h.1 g hg, ca_up]
    by_cases e : g = v
    · rw [if_pos e, if_pos e.symm]; omega
    · rw [if_neg e, if_neg (fun z => e z.symm)]; omega
  · rw [hn.2 c hc u hu g hg, h.2 c hc u hu g hg, cp_up]
    by_cases e : u = ce r c ∧ g = v
    · rw [if_pos e, if_pos ⟨e.1.symm, e.2.symm⟩]; omega
    · rw [if_neg e, if_neg (fun z => e ⟨z.1.symm, z.2.symm⟩)]; omega
theorem upN_self {x : Nat → Nat} {r : Nat} : upN x r (x r) = x := by
  funext j
  unfold upN
  split
  · next e => rw [e]
  · rfl
theorem TBL_dn {M M' : Mem} {k r : Nat} {ce : Nat → Nat → Nat} {x : Nat → Nat} (h : TBL M k ce x (r + 1)) (hn : NTS M M' k ce r (x r) (-1)) : TBL M' k ce x r := by
  have e1 : ∀ g, ca x g (r + 1) = ca x g r + if x r = g then 1 else 0 := fun g => by
    have := ca_up (x := x) (r := r) (g := x r) (h := g)
    rw [upN_self] at this
    exact this
  have e2 : ∀ c u g, cp ce x c u g (r + 1) = cp ce x c u g r + if ce r c = u ∧ x r = g then 1 else 0 := fun c u g => by
    have := cp_up (ce := ce) (x := x) (c := c) (v := u) (r := r) (g := x r) (h := g)
    rw [upN_self] at this
    exact this
  refine ⟨fun g hg => ?_, fun c hc u hu g hg => ?_⟩
  · rw [hn.1 g hg, h.1 g hg, e1]
    by_cases e : g = x r
    · rw [if_pos e, if_pos e.symm]; omega
    · rw [if_neg e, if_neg (fun z => e z.symm)]; omega
  · rw [hn.2 c hc u hu g hg, h.2 c hc u hu g hg, e2]
    by_cases e : u = ce r c ∧ g = x r
    · rw [if_pos e, if_pos ⟨e.1.symm, e.2.symm⟩]; omega
    · rw [if_neg e, if_neg (fun z => e ⟨z.1.symm, z.2.symm⟩)]; omega
def fitM (n k lv : Nat) (sz : Nat → Nat) (ce : Nat → Nat → Nat) (x : Nat → Nat) (r g : Nat) : Prop := ca x g r * lv < n ∧ ∀ c, c < k → cp ce x c (ce r c) g r * lv * sz c < n
theorem fitM_fit {n k lv r g : Nat} {sz : Nat → Nat} {ce : Nat → Nat → Nat} {x : Nat → Nat} (hW : Wf n k sz ce) (hl : 0 < lv) (hb : canB n k sz ce lv) : fitM n k lv sz ce x r g ↔ fit n k lv sz ce x r g := by
  have hd : n / lv * lv = n := Nat.div_mul_cancel (Nat.dvd_of_mod_eq_zero hb.1)
  have key : ∀ a m q : Nat, 0 < m → q * m = n → (a * m < n ↔ a < q) := fun a m q hm hq => by
    rw [← hq]
    exact Nat.mul_lt_mul_right hm
  have hd2 : ∀ c, c < k → n / (sz c * lv) * (sz c * lv) = n := fun c hc => Nat.div_mul_cancel (Nat.dvd_of_mod_eq_zero (hb.2 c hc).1)
  have h2 : ∀ c, c < k → (cp ce x c (ce r c) g r * lv * sz c < n ↔ cp ce x c (ce r c) g r < n / (sz c * lv)) := fun c hc => by
    have := hW.2.2.1 c hc
    rw [Nat.mul_assoc, Nat.mul_comm lv]
    exact key _ _ _ (Nat.mul_pos (by omega) hl) (hd2 c hc)
  exact ⟨fun h => ⟨(key _ _ _ hl hd).mp h.1, fun c hc => (h2 c hc).mp (h.2 c hc)⟩, fun h => ⟨(key _ _ _ hl hd).mpr h.1, fun c hc => (h2 c hc).mpr (h.2 c hc)⟩⟩
theorem feas_less {n k lv r s : Nat} {sz : Nat → Nat} {ce : Nat → Nat → Nat} {x : Nat → Nat} (h : feas n k sz ce lv x r) (hs : s ≤ r) : feas n k sz ce lv x s := ⟨fun q hq => h.1 q (by omega), fun g hg => Nat.le_trans (cn_mono _ hs) (h.2.1 g hg), fun c hc v hv g hg => Nat.le_trans (cn_mono _ hs) (h.2.2 c hc v hv g hg)⟩
theorem mk_2 (c b : Nat) : mk (2 ^ c) b ↔ b = c := by
  have := mk_or 0 c b
  rw [Nat.zero_or] at this
  rw [this]
  exact ⟨fun z => z.resolve_left (nmk0 b), Or.inr⟩
theorem tp_one {sz row : Nat → Nat} {c : Nat} : ∀ {k : Nat}, (k ≤ c → tps sz (2 ^ c) k = 1 ∧ tpo sz row (2 ^ c) k = 0) ∧ (c < k → tps sz (2 ^ c) k = sz c ∧ tpo sz row (2 ^ c) k = row c)
  | 0 => ⟨fun _ => ⟨rfl, rfl⟩, fun h => absurd h (Nat.not_lt_zero c)⟩
  | k + 1 => by
    obtain ⟨h1, h2⟩ := tp_one (sz := sz) (row := row) (c := c) (k := k)
    refine ⟨fun h => ?_, fun h => ?_⟩
    · have hb : ¬ 2 ^ c / 2 ^ k % 2 = 1 := fun z => by
        have := (mk_2 c k).mp z
        omega
      rw [tps, tpo, if_neg hb, if_neg hb]
      exact h1 (by omega)
    · by_cases e : k = c
      · have hb : 2 ^ c / 2 ^ k % 2 = 1 := (mk_2 c k).mpr e
        obtain ⟨a1, a2⟩ := h1 (by omega)
        rw [tps, tpo, if_pos hb, if_pos hb, a1, a2, e, Nat.one_mul, Nat.zero_mul, Nat.zero_add]
        exact ⟨rfl, rfl⟩
      · have hb : ¬ 2 ^ c / 2 ^ k % 2 = 1 := fun z => e ((mk_2 c k).mp z)
        rw [tps, tpo, if_neg hb, if_neg hb]
        exact h2 (by omega)
theorem bal_evc {n k c : Nat} {sz : Nat → Nat} {ce : Nat → Nat → Nat} (hc : c < k) : bal n k sz ce (2 ^ c) aT ↔ evc n sz ce c := by
  have h1 := ((tp_one (sz := sz) (row := ce 0) (c := c) (k := k)).2 hc).1
  have h3 : cn aT n = n := cn_full.mpr (fun _ _ => trivial)
  have h2 : ∀ v, tc sz ce (2 ^ c) k aT v n = cn (fun q => ce q c = v) n := fun v => cn_cg (fun q _ => by
    rw [((tp_one (sz := sz) (row := ce q) (c := c) (k := k)).2 hc).2]
    exact ⟨fun z => z.2, fun z => ⟨trivial, z⟩⟩)
  unfold bal evc
  rw [h1, h3]
  exact ⟨fun h v hv => by rw [← h2]; exact h v hv, fun h v hv => by rw [h2]; exact h v hv⟩
set_option maxHeartbeats 4000000 in
set_option maxRecDepth 20000 in
theorem w_placeOf {M : Mem} {n k : Nat} {sz : Nat → Nat} {ce : Nat → Nat → Nat} {r c v : Nat} (hA : BX (M 168) n k sz ce) (hW : Wf n k sz ce) (hr : r < n) (hc : c < k) : CT 2 m_X8_placeOf [vR 167, vI ((r : Nat) : Int), vI ((c : Nat) : Int), vI ((v : Nat) : Int)] M (Rt (some (vI ((36 * c + 6 * ce r c + v : Nat) : Int))) M) := by
  have b1 := hW.1
  have b2 := hW.2.1
  refine CT.ofWP (by decide +kernel) (Nat.le_of_ble_eq_true rfl) ?_
  show WP sc0 2 m_X8_placeOf 0 [vR 167, vI ((r : Nat) : Int), vI ((c : Nat) : Int), vI ((v : Nat) : Int)] [] M (Rt (some (vI ((36 * c + 6 * ce r c + v : Nat) : Int))) M)
  refine WP.bipush dX8_placeOf_0 (by decide) ?_
  refine WP.iload_n dX8_placeOf_2 rfl ?_
  refine WP.imul dX8_placeOf_3 ?_
  refine WP.bipush dX8_placeOf_4 (by decide) ?_
  refine WP.aload_n dX8_placeOf_6 rfl ?_
  refine WP.iload_n dX8_placeOf_7 rfl ?_
  refine WP.iload_n dX8_placeOf_8 rfl ?_
  refine WP.callVp (as := [vI ((r : Nat) : Int), vI ((c : Nat) : Int)]) dX8_placeOf_9 mv_X8_62 rfl (rfl) (by decide) rfl rfl (w_at (r := r) (c := c) (by omega) (by omega) (hA.2.2.2 (r) (by omega) (c) (by omega))) rfl (Nat.le_of_ble_eq_true rfl) (by omega) ?_
  refine WP.imul dX8_placeOf_12 ?_
  refine WP.iadd dX8_placeOf_13 ?_
  refine WP.iload_n dX8_placeOf_14 rfl ?_
  refine WP.iadd dX8_placeOf_15 ?_
  refine WP.iret dX8_placeOf_16 rfl ?_
  exact ⟨congrArg some (congrArg vI (by omega)), rfl⟩
set_option maxHeartbeats 4000000 in
set_option maxRecDepth 20000 in
theorem w_notes {M : Mem} {n k : Nat} {sz : Nat → Nat} {ce : Nat → Nat → Nat} {r v : Nat} {d : Int} (hA : BX (M 168) n k sz ce) (hW : Wf n k sz ce) (hr : r < n) (hv : v < 6) : CT 3 m_X8_notes [vR 167, vI ((r : Nat) : Int), vI ((v : Nat) : Int), vI d] M (fun z M' => z = none ∧ (∀ a, a ≠ 174 → a ≠ 175 → M' a = M a) ∧ NTS M M' k ce r v d) := by
  have b1 := hW.1
  have b2 := hW.2.1
  refine CT.ofWP (by decide +kernel) (Nat.le_of_ble_eq_true rfl) ?_
  show WP sc0 3 m_X8_notes 0 [vR 167, vI ((r : Nat) : Int), vI ((v : Nat) : Int), vI d, vU] [] M (fun z M' => z = none ∧ (∀ a, a ≠ 174 → a ≠ 175 → M' a = M a) ∧ NTS M M' k ce r v d)
  refine WP.aload_n dX8_notes_0 rfl ?_
  refine WP.getR (y := 174) dX8_notes_1 fl_X8_28 (rfl) (by decide) (rfl) ?_
  refine WP.iload_n dX8_notes_4 rfl ?_
  refine WP.dup2 dX8_notes_5 rfl rfl ?_
  refine WP.iaload (y := v) (x := (M 174 v)) dX8_notes_6 (rfl) (by omega) (by omega) (rfl) ?_
  refine WP.iload_n dX8_notes_7 rfl ?_
  refine WP.iadd dX8_notes_8 ?_
  refine WP.iastore (y := v) dX8_notes_9 (rfl) (by omega) (by omega) rfl ?_
  obtain ⟨M1, hM1⟩ : ∃ z, z = (mset M 174 v ((M 174 v) + d)) := ⟨_, rfl⟩
  refine WP.eqM hM1.symm ?_
  have hO1 : ∀ a, a ≠ 174 → M1 a = M a := fun a ha => by rw [hM1]; exact mset_o a ha
  refine WP.iconst dX8_notes_10 ?_
  refine WP.istore (lt := [vR 167, vI ((r : Nat) : Int), vI ((v : Nat) : Int), vI d, vI (0 : Int)]) dX8_notes_11 (by decide) rfl ?_
  have L13 : ∀ (n9 : Nat) (c : Nat) (M2 : Mem) (hc : c ≤ k) (hF2 : ∀ a, a ≠ 175 → M2 a = M1 a) (hB2 : ∀ b, b < k → ∀ u, u < 6 → ∀ g, g < 6 → M2 175 (36 * b + 6 * u + g) = M 175 (36 * b + 6 * u + g) + if b < c ∧ u = ce r b ∧ g = v then d else 0), k - c < n9 → WP sc0 3 m_X8_notes 13 [vR 167, vI ((r : Nat) : Int), vI ((v : Nat) : Int), vI d, vI ((c : Nat) : Int)] [] M2 (fun z M' => z = none ∧ (∀ a, a ≠ 174 → a ≠ 175 → M' a = M a) ∧ NTS M M' k ce r v d) := by
    intro n9
    induction n9 with
    | zero =>
      intro c M2 hc hF2 hB2 hm9
      exact absurd hm9 (Nat.not_lt_zero _)
    | succ n9 ih13 =>
      intro c M2 hc hF2 hB2 hm9
      have hA2 : BX (M2 168) n k sz ce := by rw [hF2 168 (by decide), hO1 168 (by decide)]; exact hA
      refine WP.iload dX8_notes_13 rfl ?_
      refine WP.aload_n dX8_notes_15 rfl ?_
      refine WP.getR (y := 168) dX8_notes_16 fl_X8_7 (rfl) (by decide) (rfl) ?_
      refine WP.iconst dX8_notes_19 ?_
      refine WP.iaload (y := 1) (x := ((k : Nat) : Int)) dX8_notes_20 (rfl) (by omega) (by omega) (hA2.2.1) ?_
      refine WP.icmp_ge (tgt := 47) dX8_notes_21 (by decide) (by omega) (by omega) (fun h21 => ?_) (fun h21 => ?_)
      · skip
        refine WP.vret dX8_notes_47 rfl ?_
        refine ⟨rfl, fun a i1 i2 => by rw [hF2 a i2, hO1 a i1], fun g hg => ?_, fun b hb u hu g hg => ?_⟩
        · rw [hF2 174 (by decide), hM1]
          by_cases e : g = v
          · rw [e, mset_s, if_pos rfl]
          · rw [mset_n (Or.inr e), if_neg e, Int.add_zero]
        · rw [hB2 b hb u hu g hg]
          by_cases e : u = ce r b ∧ g = v
          · rw [if_pos e, if_pos ⟨by omega, e⟩]
          · rw [if_neg e, if_neg (fun z => e z.2)]
      · skip
        have w1 := hW.2.2.2 r hr c (by omega)
        have w2 := hW.2.2.1 c (by omega)
        refine WP.aload_n dX8_notes_24 rfl ?_
        refine WP.getR (y := 175) dX8_notes_25 fl_X8_31 (rfl) (by decide) (rfl) ?_
        refine WP.aload_n dX8_notes_28 rfl ?_
        refine WP.iload_n dX8_notes_29 rfl ?_
        refine WP.iload dX8_notes_30 rfl ?_
        refine WP.iload_n dX8_notes_32 rfl ?_
        refine WP.callVp (as := [vI ((r : Nat) : Int), vI ((c : Nat) : Int), vI ((v : Nat) : Int)]) dX8_notes_33 mv_X8_165 rfl (rfl) (by decide) rfl rfl (w_placeOf (r := r) (c := c) (v := v) hA2 hW hr (by omega)) rfl (Nat.le_of_ble_eq_true rfl) (by omega) ?_
        refine WP.dup2 dX8_notes_36 rfl rfl ?_
        refine WP.iaload (y := (36 * c + 6 * ce r c + v)) (x := (M 175 (36 * c + 6 * ce r c + v) + if c < c ∧ ce r c = ce r c ∧ v = v then d else 0)) dX8_notes_37 (rfl) (by omega) (by omega) (hB2 c (by omega) (ce r c) (by omega) v hv) ?_
        refine WP.iload_n dX8_notes_38 rfl ?_
        refine WP.iadd dX8_notes_39 ?_
        refine WP.iastore (y := (36 * c + 6 * ce r c + v)) dX8_notes_40 (rfl) (by omega) (by omega) rfl ?_
        obtain ⟨M3, hM3⟩ : ∃ z, z = (mset M2 175 ((36 * c + 6 * ce r c + v)) ((M 175 (36 * c + 6 * ce r c + v) + if c < c ∧ ce r c = ce r c ∧ v = v then d else 0) + d)) := ⟨_, rfl⟩
        refine WP.eqM hM3.symm ?_
        have hO3 : ∀ a, a ≠ 175 → M3 a = M2 a := fun a ha => by rw [hM3]; exact mset_o a ha
        refine WP.iinc (lt := [vR 167, vI ((r : Nat) : Int), vI ((v : Nat) : Int), vI d, vI (((c : Nat) : Int) + 1)]) dX8_notes_41 rfl (by decide) rfl ?_
        refine WP.goto (tgt := 13) dX8_notes_44 (by decide) ?_
        refine WP.fgt (lt := [vR 167, vI ((r : Nat) : Int), vI ((v : Nat) : Int), vI d, vI (((c + 1) : Nat) : Int)]) ⟨Or.inr rfl, Or.inr rfl, Or.inr rfl, Or.inr rfl, Or.inr (congrArg vI (by omega)), trivial⟩ ?_
        exact ih13 (c + 1) (M3) (by omega) (fun a ha => (hO3 a ha).trans (hF2 a ha)) (fun b hb u hu g9 hg => by
          have w9 := hW.2.2.2 r hr b hb
          have w8 := hW.2.2.1 b hb
          rw [hM3]
          by_cases e9 : b = c ∧ u = ce r c ∧ g9 = v
          · rw [e9.1, e9.2.1, e9.2.2, mset_s, if_neg (fun z => Nat.lt_irrefl _ z.1), if_pos ⟨Nat.lt_succ_self _, rfl, rfl⟩, Int.add_zero]
          · rw [mset_n (Or.inr (by omega)), hB2 b hb u hu g9 hg]
            by_cases e8 : b < c ∧ u = ce r b ∧ g9 = v
            · rw [if_pos e8, if_pos (by omega)]
            · rw [if_neg e8, if_neg (fun z => by
                by_cases e7 : b = c
                · rw [e7] at z; exact e9 ⟨e7, z.2⟩
                · omega)]) (by omega)
  refine WP.fgt (lt := [vR 167, vI ((r : Nat) : Int), vI ((v : Nat) : Int), vI d, vI ((0 : Nat) : Int)]) ⟨Or.inr rfl, Or.inr rfl, Or.inr rfl, Or.inr rfl, Or.inr (congrArg vI (by omega)), trivial⟩ ?_
  exact L13 _ (0) (M1) (Nat.zero_le _) (fun _ _ => rfl) (fun b hb u hu g hg => by rw [if_neg (by omega), hO1 175 (by decide), Int.add_zero]) (Nat.lt_succ_self _)
set_option maxHeartbeats 4000000 in
set_option maxRecDepth 20000 in
theorem w_mayBe {M : Mem} {n k : Nat} {sz : Nat → Nat} {ce : Nat → Nat → Nat} {r v lv : Nat} {x : Nat → Nat} (hA : BX (M 168) n k sz ce) (hW : Wf n k sz ce) (hr : r < n) (hn : n ≤ 16) (hv : v < lv) (hlv : lv ≤ 6) (hT : TBL M k ce x r) : CT 3 m_X8_mayBe [vR 167, vI ((r : Nat) : Int), vI ((v : Nat) : Int), vI ((lv : Nat) : Int)] M (Rt (some (vI (bi (fitM n k lv sz ce x r v)))) M) := by
  have b1 := hW.1
  have b2 := hW.2.1
  refine CT.ofWP (by decide +kernel) (Nat.le_of_ble_eq_true rfl) ?_
  show WP sc0 3 m_X8_mayBe 0 [vR 167, vI ((r : Nat) : Int), vI ((v : Nat) : Int), vI ((lv : Nat) : Int), vU] [] M (Rt (some (vI (bi (fitM n k lv sz ce x r v)))) M)
  refine WP.aload_n dX8_mayBe_0 rfl ?_
  refine WP.getR (y := 174) dX8_mayBe_1 fl_X8_28 (rfl) (by decide) (rfl) ?_
  refine WP.iload_n dX8_mayBe_4 rfl ?_
  refine WP.iaload (y := v) (x := ((ca x v r : Nat) : Int)) dX8_mayBe_5 (rfl) (by omega) (by omega) (hT.1 v (by omega)) ?_
  refine WP.iload_n dX8_mayBe_6 rfl ?_
  have hca : ca x v r ≤ r := cn_le _ r
  have hcm : ca x v r * lv ≤ 16 * 6 := Nat.mul_le_mul (by omega) (by omega)
  refine WP.imul dX8_mayBe_7 ?_
  refine WP.eqs (st' := [vI ((ca x v r * lv : Nat) : Int)]) rfl (lc (congrArg vI (by rw [Int.natCast_mul])) rfl) ?_
  refine WP.aload_n dX8_mayBe_8 rfl ?_
  refine WP.getR (y := 168) dX8_mayBe_9 fl_X8_7 (rfl) (by decide) (rfl) ?_
  refine WP.iconst dX8_mayBe_12 ?_
  refine WP.iaload (y := 0) (x := ((n : Nat) : Int)) dX8_mayBe_13 (rfl) (by omega) (by omega) (hA.1) ?_
  refine WP.icmp_lt (tgt := 19) dX8_mayBe_14 (by decide) (by omega) (by omega) (fun h14 => ?_) (fun h14 => ?_)
  · skip
    refine WP.iconst dX8_mayBe_19 ?_
    refine WP.istore (lt := [vR 167, vI ((r : Nat) : Int), vI ((v : Nat) : Int), vI ((lv : Nat) : Int), vI (0 : Int)]) dX8_mayBe_20 (by decide) rfl ?_
    have L22 : ∀ (n9 : Nat) (c : Nat) (hc : c ≤ k) (hok : ∀ b, b < c → cp ce x b (ce r b) v r * lv * sz b < n), k - c < n9 → WP sc0 3 m_X8_mayBe 22 [vR 167, vI ((r : Nat) : Int), vI ((v : Nat) : Int), vI ((lv : Nat) : Int), vI ((c : Nat) : Int)] [] M (Rt (some (vI (bi (fitM n k lv sz ce x r v)))) M) := by
      intro n9
      induction n9 with
      | zero =>
        intro c hc hok hm9
        exact absurd hm9 (Nat.not_lt_zero _)
      | succ n9 ih22 =>
        intro c hc hok hm9
        refine WP.iload dX8_mayBe_22 rfl ?_
        refine WP.aload_n dX8_mayBe_24 rfl ?_
        refine WP.getR (y := 168) dX8_mayBe_25 fl_X8_7 (rfl) (by decide) (rfl) ?_
        refine WP.iconst dX8_mayBe_28 ?_
        refine WP.iaload (y := 1) (x := ((k : Nat) : Int)) dX8_mayBe_29 (rfl) (by omega) (by omega) (hA.2.1) ?_
        refine WP.icmp_ge (tgt := 75) dX8_mayBe_30 (by decide) (by omega) (by omega) (fun h30 => ?_) (fun h30 => ?_)
        · skip
          refine WP.iconst dX8_mayBe_75 ?_
          refine WP.zret dX8_mayBe_76 rfl (by decide) ?_
          exact ⟨congrArg some (congrArg vI (bi_t ⟨by omega, fun b hb => hok b (by omega)⟩).symm), rfl⟩
        · skip
          have w1 := hW.2.2.2 r hr c (by omega)
          have w2 := hW.2.2.1 c (by omega)
          have hcp : cp ce x c (ce r c) v r ≤ r := cn_le _ r
          have hcq : cp ce x c (ce r c) v r * lv ≤ 16 * 6 := Nat.mul_le_mul (by omega) (by omega)
          have hcr : cp ce x c (ce r c) v r * lv * sz c ≤ 16 * 6 * 6 := Nat.mul_le_mul hcq w2.2
          refine WP.aload_n dX8_mayBe_33 rfl ?_
          refine WP.getR (y := 175) dX8_mayBe_34 fl_X8_31 (rfl) (by decide) (rfl) ?_
          refine WP.aload_n dX8_mayBe_37 rfl ?_
          refine WP.iload_n dX8_mayBe_38 rfl ?_
          refine WP.iload dX8_mayBe_39 rfl ?_
          refine WP.iload_n dX8_mayBe_41 rfl ?_
          refine WP.callVp (as := [vI ((r : Nat) : Int), vI ((c : Nat) : Int), vI ((v : Nat) : Int)]) dX8_mayBe_42 mv_X8_165 rfl (rfl) (by decide) rfl rfl (w_placeOf (r := r) (c := c) (v := v) hA hW hr (by omega)) rfl (Nat.le_of_ble_eq_true rfl) (by omega) ?_
          refine WP.iaload (y := (36 * c + 6 * ce r c + v)) (x := ((cp ce x c (ce r c) v r : Nat) : Int)) dX8_mayBe_45 (rfl) (by omega) (by omega) (hT.2 c (by omega) (ce r c) (by omega) v (by omega)) ?_
          refine WP.iload_n dX8_mayBe_46 rfl ?_
          refine WP.imul dX8_mayBe_47 ?_
          refine WP.eqs (st' := [vI ((cp ce x c (ce r c) v r * lv : Nat) : Int)]) rfl (lc (congrArg vI (by rw [Int.natCast_mul])) rfl) ?_
          refine WP.aload_n dX8_mayBe_48 rfl ?_
          refine WP.getR (y := 168) dX8_mayBe_49 fl_X8_7 (rfl) (by decide) (rfl) ?_
          refine WP.iconst dX8_mayBe_52 ?_
          refine WP.iload dX8_mayBe_53 rfl ?_
          refine WP.iadd dX8_mayBe_55 ?_
          refine WP.iaload (y := (2 + c)) (x := ((sz c : Nat) : Int)) dX8_mayBe_56 (rfl) (by omega) (by omega) (hA.2.2.1 _ (by omega)) ?_
          refine WP.imul dX8_mayBe_57 ?_
          refine WP.eqs (st' := [vI ((cp ce x c (ce r c) v r * lv * sz c : Nat) : Int)]) rfl (lc (congrArg vI (by rw [← Int.natCast_mul])) rfl) ?_
          refine WP.aload_n dX8_mayBe_58 rfl ?_
          refine WP.getR (y := 168) dX8_mayBe_59 fl_X8_7 (rfl) (by decide) (rfl) ?_
          refine WP.iconst dX8_mayBe_62 ?_
          refine WP.iaload (y := 0) (x := ((n : Nat) : Int)) dX8_mayBe_63 (rfl) (by omega) (by omega) (hA.1) ?_
          refine WP.icmp_lt (tgt := 69) dX8_mayBe_64 (by decide) (by omega) (by omega) (fun h64 => ?_) (fun h64 => ?_)
          · skip
            refine WP.iinc (lt := [vR 167, vI ((r : Nat) : Int), vI ((v : Nat) : Int), vI ((lv : Nat) : Int), vI (((c : Nat) : Int) + 1)]) dX8_mayBe_69 rfl (by decide) rfl ?_
            refine WP.goto (tgt := 22) dX8_mayBe_72 (by decide) ?_
            refine WP.fgt (lt := [vR 167, vI ((r : Nat) : Int), vI ((v : Nat) : Int), vI ((lv : Nat) : Int), vI (((c + 1) : Nat) : Int)]) ⟨Or.inr rfl, Or.inr rfl, Or.inr rfl, Or.inr rfl, Or.inr (congrArg vI (by omega)), trivial⟩ ?_
            exact ih22 (c + 1) (by omega) (fun b hb => by
              by_cases e9 : b = c
              · rw [e9]; omega
              · exact hok b (by omega)) (by omega)
          · skip
            have hbad : ¬ fitM n k lv sz ce x r v := fun z => by have := z.2 c (by omega); omega
            refine WP.iconst dX8_mayBe_67 ?_
            refine WP.zret dX8_mayBe_68 rfl (by decide) ?_
            exact ⟨congrArg some (congrArg vI (bi_f hbad).symm), rfl⟩
    refine WP.fgt (lt := [vR 167, vI ((r : Nat) : Int), vI ((v : Nat) : Int), vI ((lv : Nat) : Int), vI ((0 : Nat) : Int)]) ⟨Or.inr rfl, Or.inr rfl, Or.inr rfl, Or.inr rfl, Or.inr (congrArg vI (by omega)), trivial⟩ ?_
    exact L22 _ (0) (Nat.zero_le _) (fun b hb => absurd hb (Nat.not_lt_zero b)) (Nat.lt_succ_self _)
  · skip
    have hbad : ¬ fitM n k lv sz ce x r v := fun z => by have := z.1; omega
    refine WP.iconst dX8_mayBe_17 ?_
    refine WP.zret dX8_mayBe_18 rfl (by decide) ?_
    exact ⟨congrArg some (congrArg vI (bi_f hbad).symm), rfl⟩
set_option maxHeartbeats 4000000 in
set_option maxRecDepth 20000 in
theorem w_canDivide {M : Mem} {n k : Nat} {sz : Nat → Nat} {ce : Nat → Nat → Nat} {lv : Nat} (hA : BX (M 168) n k sz ce) (hW : Wf n k sz ce) (hlv : 2 ≤ lv ∧ lv ≤ 6) : CT 5 m_X8_canDivide [vR 167, vI ((lv : Nat) : Int)] M (fun z M' => z = some (vI (bi (canB n k sz ce lv))) ∧ (∀ a, a ≠ 167 → M' a = M a) ∧ ∀ j, j ≠ 8 → j ≠ 9 → M' 167 j = M 167 j) := by
  have b1 := hW.1
  have b2 := hW.2.1
  refine CT.ofWP (by decide +kernel) (Nat.le_of_ble_eq_true rfl) ?_
  show WP sc0 5 m_X8_canDivide 0 [vR 167, vI ((lv : Nat) : Int), vU] [] M (fun z M' => z = some (vI (bi (canB n k sz ce lv))) ∧ (∀ a, a ≠ 167 → M' a = M a) ∧ ∀ j, j ≠ 8 → j ≠ 9 → M' 167 j = M 167 j)
  refine WP.iconst dX8_canDivide_0 ?_
  refine WP.istore_n (lt := [vR 167, vI ((lv : Nat) : Int), vI (0 : Int)]) dX8_canDivide_1 (by decide) rfl ?_
  have L2 : ∀ (n9 : Nat) (c : Nat) (M1 : Mem) (hc : c ≤ k) (hF1 : ∀ a, a ≠ 167 → M1 a = M a) (hG1 : ∀ j, j ≠ 8 → j ≠ 9 → M1 167 j = M 167 j) (hok : ∀ b, b < c → n % (sz b * lv) = 0 ∧ evc n sz ce b), k - c < n9 → WP sc0 5 m_X8_canDivide 2 [vR 167, vI ((lv : Nat) : Int), vI ((c : Nat) : Int)] [] M1 (fun z M' => z = some (vI (bi (canB n k sz ce lv))) ∧ (∀ a, a ≠ 167 → M' a = M a) ∧ ∀ j, j ≠ 8 → j ≠ 9 → M' 167 j = M 167 j) := by
    intro n9
    induction n9 with
    | zero =>
      intro c M1 hc hF1 hG1 hok hm9
      exact absurd hm9 (Nat.not_lt_zero _)
    | succ n9 ih2 =>
      intro c M1 hc hF1 hG1 hok hm9
      have hA1 : BX (M1 168) n k sz ce := by rw [hF1 168 (by decide)]; exact hA
      refine WP.iload_n dX8_canDivide_2 rfl ?_
      refine WP.aload_n dX8_canDivide_3 rfl ?_
      refine WP.getR (y := 168) dX8_canDivide_4 fl_X8_7 (rfl) (by decide) (rfl) ?_
      refine WP.iconst dX8_canDivide_7 ?_
      refine WP.iaload (y := 1) (x := ((k : Nat) : Int)) dX8_canDivide_8 (rfl) (by omega) (by omega) (hA1.2.1) ?_
      refine WP.icmp_ge (tgt := 51) dX8_canDivide_9 (by decide) (by omega) (by omega) (fun h9 => ?_) (fun h9 => ?_)
      · skip
        refine WP.aload_n dX8_canDivide_51 rfl ?_
        refine WP.getR (y := 168) dX8_canDivide_52 fl_X8_7 (rfl) (by decide) (rfl) ?_
        refine WP.iconst dX8_canDivide_55 ?_
        refine WP.iaload (y := 0) (x := ((n : Nat) : Int)) dX8_canDivide_56 (rfl) (by omega) (by omega) (hA1.1) ?_
        refine WP.iload_n dX8_canDivide_57 rfl ?_
        refine WP.irem dX8_canDivide_58 (by omega) (by omega) ?_
        refine WP.eqs (st' := [vI ((n % lv : Nat) : Int)]) rfl (lc (congrArg vI (by rw [Int.natCast_emod])) rfl) ?_
        have hmm := Nat.mod_lt n (show 0 < lv by omega)
        refine WP.if_ne (tgt := 66) dX8_canDivide_59 (by decide) (by omega) (fun h59 => ?_) (fun h59 => ?_)
        · skip
          have hbad : ¬ canB n k sz ce lv := fun z => by have := z.1; omega
          refine WP.iconst dX8_canDivide_66 ?_
          refine WP.zret dX8_canDivide_67 rfl (by decide) ?_
          exact ⟨congrArg some (congrArg vI (bi_f hbad).symm), hF1, hG1⟩
        · skip
          refine WP.iconst dX8_canDivide_62 ?_
          refine WP.goto (tgt := 67) dX8_canDivide_63 (by decide) ?_
          refine WP.zret dX8_canDivide_67 rfl (by decide) ?_
          exact ⟨congrArg some (congrArg vI (bi_t ⟨by omega, fun b hb => hok b (by omega)⟩).symm), hF1, hG1⟩
      · skip
        have w2 := hW.2.2.1 c (by omega)
        have hml : lv * sz c ≤ 6 * 6 := Nat.mul_le_mul (by omega) w2.2
        have hmp : 0 < lv * sz c := Nat.mul_pos (by omega) (by omega)
        refine WP.aload_n dX8_canDivide_12 rfl ?_
        refine WP.getR (y := 168) dX8_canDivide_13 fl_X8_7 (rfl) (by decide) (rfl) ?_
        refine WP.iconst dX8_canDivide_16 ?_
        refine WP.iaload (y := 0) (x := ((n : Nat) : Int)) dX8_canDivide_17 (rfl) (by omega) (by omega) (hA1.1) ?_
        refine WP.iload_n dX8_canDivide_18 rfl ?_
        refine WP.aload_n dX8_canDivide_19 rfl ?_
        refine WP.getR (y := 168) dX8_canDivide_20 fl_X8_7 (rfl) (by decide) (rfl) ?_
        refine WP.iconst dX8_canDivide_23 ?_
        refine WP.iload_n dX8_canDivide_24 rfl ?_
        refine WP.iadd dX8_canDivide_25 ?_
        refine WP.iaload (y := (2 + c)) (x := ((sz c : Nat) : Int)) dX8_canDivide_26 (rfl) (by omega) (by omega) (hA1.2.2.1 _ (by omega)) ?_
        refine WP.imul dX8_canDivide_27 ?_
        refine WP.eqs (st' := [vI ((lv * sz c : Nat) : Int), vI ((n : Nat) : Int)]) rfl (lc (congrArg vI (by rw [Int.natCast_mul])) rfl) ?_
        refine WP.irem dX8_canDivide_28 (by omega) (by omega) ?_
        refine WP.eqs (st' := [vI ((n % (lv * sz c) : Nat) : Int)]) rfl (lc (congrArg vI (by rw [Int.natCast_emod])) rfl) ?_
        have hmm := Nat.mod_lt n hmp
        refine WP.if_ne (tgt := 43) dX8_canDivide_29 (by decide) (by omega) (fun h29 => ?_) (fun h29 => ?_)
        · skip
          have hbad : ¬ canB n k sz ce lv := fun z => by have := (z.2 c (by omega)).1; rw [Nat.mul_comm] at this; omega
          refine WP.iconst dX8_canDivide_43 ?_
          refine WP.zret dX8_canDivide_44 rfl (by decide) ?_
          exact ⟨congrArg some (congrArg vI (bi_f hbad).symm), hF1, hG1⟩
        · skip
          have hmd : n % (sz c * lv) = 0 := by rw [Nat.mul_comm]; omega
          refine WP.aload_n dX8_canDivide_32 rfl ?_
          refine WP.iconst dX8_canDivide_33 ?_
          refine WP.iload_n dX8_canDivide_34 rfl ?_
          refine WP.ishl (z := ((2 ^ c : Nat) : Int)) dX8_canDivide_35 (shl_ok c (by omega)) ?_
          refine WP.iconst dX8_canDivide_36 ?_
          refine WP.eqs (st' := [vI ((0 : Nat) : Int), vI ((2 ^ c : Nat) : Int), vR 167]) rfl (lc (congrArg vI (rfl)) (lc (rfl) (rfl))) ?_
          refine WP.callV (as := [vI ((2 ^ c : Nat) : Int), vI ((0 : Nat) : Int)]) dX8_canDivide_37 mv_X8_141 rfl (rfl) (by decide) rfl rfl (w_isBalanced (set := 2 ^ c) (sp := 0) (P := aT) hA1 hW (by have : 2 ^ c ≤ 2 ^ 7 := Nat.pow_le_pow_right (by decide) (by omega); have : 2 ^ 7 = 128 := rfl; omega) (by decide) (fun q _ => ⟨fun _ => nmk0 q, fun _ => trivial⟩)) rfl (Nat.le_of_ble_eq_true rfl) (by omega) (fun r9 M2 h9 => ?_)
          obtain ⟨rfl, f2, g2, e8, e9⟩ := h9
          have hF2 : ∀ a, a ≠ 167 → M2 a = M a := fun a ha => (f2 a ha).trans (hF1 a ha)
          have hG2 : ∀ j, j ≠ 8 → j ≠ 9 → M2 167 j = M 167 j := fun j i1 i2 => (g2 j i1 i2).trans (hG1 j i1 i2)
          show WP sc0 5 m_X8_canDivide 40 [vR 167, vI ((lv : Nat) : Int), vI ((c : Nat) : Int)] [vI (bi (bal n k sz ce (2 ^ c) aT))] M2 (fun z M' => z = some (vI (bi (canB n k sz ce lv))) ∧ (∀ a, a ≠ 167 → M' a = M a) ∧ ∀ j, j ≠ 8 → j ≠ 9 → M' 167 j = M 167 j)
          refine WP.if_ne (tgt := 45) dX8_canDivide_40 (by decide) (bi_rng) (fun h40 => ?_) (fun h40 => ?_)
          · skip
            have q40 : evc n sz ce c := (bal_evc (by omega)).mp (bi_1 h40)
            refine WP.iinc (lt := [vR 167, vI ((lv : Nat) : Int), vI (((c : Nat) : Int) + 1)]) dX8_canDivide_45 rfl (by decide) rfl ?_
            refine WP.goto (tgt := 2) dX8_canDivide_48 (by decide) ?_
            refine WP.fgt (lt := [vR 167, vI ((lv : Nat) : Int), vI (((c + 1) : Nat) : Int)]) ⟨Or.inr rfl, Or.inr rfl, Or.inr (congrArg vI (by omega)), trivial⟩ ?_
            exact ih2 (c + 1) (M2) (by omega) (hF2) (hG2) (fun b hb => by
              by_cases e9 : b = c
              · rw [e9]; exact ⟨hmd, q40⟩
              · exact hok b (by omega)) (by omega)
          · skip
            have hbad : ¬ canB n k sz ce lv := fun z => bi_0 h40 ((bal_evc (by omega)).mpr (z.2 c (by omega)).2)
            refine WP.iconst dX8_canDivide_43 ?_
            refine WP.zret dX8_canDivide_44 rfl (by decide) ?_
            exact ⟨congrArg some (congrArg vI (bi_f hbad).symm), hF2, hG2⟩
  refine WP.fgt (lt := [vR 167, vI ((lv : Nat) : Int), vI ((0 : Nat) : Int)]) ⟨Or.inr rfl, Or.inr rfl, Or.inr (congrArg vI (by omega)), trivial⟩ ?_
  exact L2 _ (0) (M) (Nat.zero_le _) (fun _ _ => rfl) (fun _ _ _ => rfl) (fun b hb => absurd hb (Nat.not_lt_zero b)) (Nat.lt_succ_self _)
