theorem nz {a : Int} : -2147483648 ≤ a ∧ a < 2147483648 ↔ ¬ (a < -2147483648) ∧ a < 2147483648 := by omega
theorem cell_set {M : Mem} {t r0 c0 : Nat} {x : Int} (h0 : c0 < 7) (r c : Nat) (hc : c < 7) : mset M (t + 2) (r0 * 7 + c0) x (t + 2) (r * 7 + c) = if r = r0 ∧ c = c0 then x else M (t + 2) (r * 7 + c) := by
  unfold mset
  by_cases h : r = r0 ∧ c = c0
  · rw [if_pos h, if_pos]
    exact ⟨rfl, by rw [h.1, h.2]⟩
  · rw [if_neg h, if_neg]
    rintro ⟨-, h2⟩
    exact h ⟨by omega, by omega⟩
/-- the order of two rows, as the methods tell it: the first difference -/
def ordv (ce : Nat → Nat → Nat) (r q k : Nat) : Nat → Int
  | 0 => 0
  | i + 1 => if ce r (k - (i + 1)) ≠ ce q (k - (i + 1)) then (ce r (k - (i + 1)) : Int) - ce q (k - (i + 1)) else ordv ce r q k i
/-- first difference of two rows from column c on -/
def ord (ce : Nat → Nat → Nat) (r q k : Nat) : Int := ordv ce r q k k
theorem ordv_step {ce : Nat → Nat → Nat} {r q k c : Nat} (hc : c < k) : ordv ce r q k (k - c) = if ce r c ≠ ce q c then (ce r c : Int) - ce q c else ordv ce r q k (k - (c + 1)) := by
  obtain ⟨i, hi⟩ : ∃ i, k - c = i + 1 := ⟨k - c - 1, by omega⟩
  rw [hi, ordv, show k - (i + 1) = c by omega, show k - (c + 1) = i by omega]
theorem ordv_rng {n k : Nat} {sz : Nat → Nat} {ce : Nat → Nat → Nat} (hW : Wf n k sz ce) {r q : Nat} (hr : r < n) (hq : q < n) : ∀ i, i ≤ k → -6 ≤ ordv ce r q k i ∧ ordv ce r q k i ≤ 6
  | 0, _ => by simp [ordv]
  | i + 1, h => by
    have ih := ordv_rng hW hr hq i (by omega)
    have a1 := hW.2.2.2 r hr (k - (i + 1)) (by omega)
    have a2 := hW.2.2.2 q hq (k - (i + 1)) (by omega)
    have a3 := hW.2.2.1 (k - (i + 1)) (by omega)
    unfold ordv
    split <;> omega
theorem ord_0 {ce : Nat → Nat → Nat} {r q k : Nat} : ord ce r q k = 0 ↔ ∀ c, c < k → ce r c = ce q c := by
  have key : ∀ i, i ≤ k → (ordv ce r q k i = 0 ↔ ∀ c, k - i ≤ c → c < k → ce r c = ce q c) := by
    intro i
    induction i with
    | zero =>
      intro _
      simp only [ordv, true_iff]
      intro c h1 h2
      omega
    | succ i ih =>
      intro hi
      unfold ordv
      by_cases e : ce r (k - (i + 1)) ≠ ce q (k - (i + 1))
      · rw [if_pos e]
        constructor
        · intro h
          exact absurd (show ce r (k - (i + 1)) = ce q (k - (i + 1)) by omega) e
        · intro h
          exact absurd (h (k - (i + 1)) (by omega) (by omega)) e
      · rw [if_neg e, ih (by omega)]
        constructor
        · intro h c h1 h2
          by_cases hc : c = k - (i + 1)
          · rw [hc]; exact Classical.byContradiction e
          · exact h c (by omega) h2
        · intro h c h1 h2
          exact h c (by omega) h2
  rw [ord, key k (Nat.le_refl _)]
  constructor
  · intro h c hc
    exact h c (by omega) hc
  · intro h c _ hc
    exact h c hc
set_option maxHeartbeats 4000000 in
set_option maxRecDepth 20000 in
theorem c_T_order {M : Mem} {t n k : Nat} {sz : Nat → Nat} {ce : Nat → Nat → Nat} {r q : Nat} (ht : isT t) (hT : TX M t n k sz ce) (hW : Wf n k sz ce) (hr : r < n) (hq : q < n) : CT 2 m_X6_order [vR t, vI ((r : Nat) : Int), vI ((q : Nat) : Int)] M (Rt (some (vI (ord ce r q k))) M) := by
  have b1 := hW.1
  have b2 := hW.2.1
  refine CT.ofWP (by decide +kernel) (Nat.le_of_ble_eq_true rfl) ?_
  show WP sc0 2 m_X6_order 0 [vR t, vI ((r : Nat) : Int), vI ((q : Nat) : Int), vU, vU] [] M (Rt (some (vI (ord ce r q k))) M)
  refine WP.iconst dX6_order_0 ?_
  refine WP.istore_n (lt := [vR t, vI ((r : Nat) : Int), vI ((q : Nat) : Int), vI (0 : Int), vU]) dX6_order_1 (by decide) rfl ?_
  have L2 : ∀ (n9 : Nat) (c : Nat) (hc : c ≤ k) (ha : ord ce r q k = ordv ce r q k (k - c)), k - c < n9 → WP sc0 2 m_X6_order 2 [vR t, vI ((r : Nat) : Int), vI ((q : Nat) : Int), vI ((c : Nat) : Int), vU] [] M (Rt (some (vI (ord ce r q k))) M) := by
    intro n9
    induction n9 with
    | zero =>
      intro c hc ha hm9
      exact absurd hm9 (Nat.not_lt_zero _)
    | succ n9 ih2 =>
      intro c hc ha hm9
      have b1 := hW.1
      have b2 := hW.2.1
      refine WP.iload_n dX6_order_2 rfl ?_
      refine WP.aload_n dX6_order_3 rfl ?_
      refine WP.getI (x := ((k : Nat) : Int)) dX6_order_4 fl_X6_15 (shT0 ht) (by decide) (hT.2.1) ?_
      refine WP.icmp_ge (tgt := 39) dX6_order_7 (by decide) (by omega) (by omega) (fun h7 => ?_) (fun h7 => ?_)
      · skip
        have e1 : k = c := by omega
        subst e1
        refine WP.iconst dX6_order_39 ?_
        refine WP.iret dX6_order_40 rfl ?_
        rw [ha, Nat.sub_self]
        exact ⟨rfl, rfl⟩
      · skip
        refine WP.aload_n dX6_order_10 rfl ?_
        refine WP.iload_n dX6_order_11 rfl ?_
        refine WP.iload_n dX6_order_12 rfl ?_
        refine WP.eqs (st' := [vI ((c : Nat) : Int), vI ((r : Nat) : Int), vR t]) rfl (lc (rfl) (lc (rfl) (rfl))) ?_
        refine WP.callVp (as := [vI ((r : Nat) : Int), vI ((c : Nat) : Int)]) dX6_order_13 mv_X6_35 rfl (shT0 ht) (by decide) rfl rfl (c_T_at (r := r) (c := c) ht (by omega) (by omega) (hT.2.2.2 r (by omega) c (by omega))) rfl (Nat.le_of_ble_eq_true rfl) (by omega) ?_
        refine WP.aload_n dX6_order_16 rfl ?_
        refine WP.iload_n dX6_order_17 rfl ?_
        refine WP.iload_n dX6_order_18 rfl ?_
        refine WP.eqs (st' := [vI ((c : Nat) : Int), vI ((q : Nat) : Int), vR t, vI ((ce r c : Nat) : Int)]) rfl (lc (rfl) (lc (rfl) (rfl))) ?_
        refine WP.callVp (as := [vI ((q : Nat) : Int), vI ((c : Nat) : Int)]) dX6_order_19 mv_X6_35 rfl (shT0 ht) (by decide) rfl rfl (c_T_at (r := q) (c := c) ht (by omega) (by omega) (hT.2.2.2 q (by omega) c (by omega))) rfl (Nat.le_of_ble_eq_true rfl) (by omega) ?_
        refine WP.isub dX6_order_22 ?_
        refine WP.istore (lt := [vR t, vI ((r : Nat) : Int), vI ((q : Nat) : Int), vI ((c : Nat) : Int), vI (((ce r c : Nat) : Int) - ((ce q c : Nat) : Int))]) dX6_order_23 (by decide) rfl ?_
        refine WP.iload dX6_order_25 rfl ?_
        refine WP.if_eq (tgt := 33) dX6_order_27 (by decide) (by have := hW.2.2.2 r hr c (by omega); have := hW.2.2.2 q hq c (by omega); have := hW.2.2.1 c (by omega); omega) (fun h27 => ?_) (fun h27 => ?_)
        · skip
          refine WP.iinc (lt := [vR t, vI ((r : Nat) : Int), vI ((q : Nat) : Int), vI (((c : Nat) : Int) + 1), vI (((ce r c : Nat) : Int) - ((ce q c : Nat) : Int))]) dX6_order_33 rfl (by decide) rfl ?_
          refine WP.goto (tgt := 2) dX6_order_36 (by decide) ?_
          refine WP.fgt (lt := [vR t, vI ((r : Nat) : Int), vI ((q : Nat) : Int), vI (((c + 1) : Nat) : Int), vU]) ⟨Or.inr rfl, Or.inr rfl, Or.inr rfl, Or.inr (congrArg vI (by omega)), Or.inl rfl, trivial⟩ ?_
          exact ih2 (c + 1) (by omega) (by rw [ha, ordv_step (by omega), if_neg (by omega)]) (by omega)
        · skip
          refine WP.iload dX6_order_30 rfl ?_
          refine WP.iret dX6_order_32 rfl ?_
          rw [ha, ordv_step (by omega), if_pos (by omega)]
          exact ⟨rfl, rfl⟩
  refine WP.fgt (lt := [vR t, vI ((r : Nat) : Int), vI ((q : Nat) : Int), vI ((0 : Nat) : Int), vU]) ⟨Or.inr rfl, Or.inr rfl, Or.inr rfl, Or.inr (congrArg vI (by omega)), Or.inl rfl, trivial⟩ ?_
  exact L2 _ (0) (Nat.zero_le _) (rfl) (Nat.lt_succ_self _)

set_option maxHeartbeats 4000000 in
set_option maxRecDepth 20000 in
theorem c_T_occursBefore {M : Mem} {t n k : Nat} {sz : Nat → Nat} {ce : Nat → Nat → Nat} {r e : Nat} (ht : isT t) (hT : TX M t n k sz ce) (hW : Wf n k sz ce) (hr : r < n) (he : e ≤ n) : CT 3 m_X6_occursBefore [vR t, vI ((r : Nat) : Int), vI ((e : Nat) : Int)] M (Rt (some (vI (bi (∃ q, q < e ∧ ord ce q r k = 0)))) M) := by
  have b1 := hW.1
  have b2 := hW.2.1
  refine CT.ofWP (by decide +kernel) (Nat.le_of_ble_eq_true rfl) ?_
  show WP sc0 3 m_X6_occursBefore 0 [vR t, vI ((r : Nat) : Int), vI ((e : Nat) : Int), vU] [] M (Rt (some (vI (bi (∃ q, q < e ∧ ord ce q r k = 0)))) M)
  refine WP.iconst dX6_occursBefore_0 ?_
  refine WP.istore_n (lt := [vR t, vI ((r : Nat) : Int), vI ((e : Nat) : Int), vI (0 : Int)]) dX6_occursBefore_1 (by decide) rfl ?_
  have L2 : ∀ (n9 : Nat) (q : Nat) (hq : q ≤ e) (hn : ∀ p, p < q → ord ce p r k ≠ 0), e - q < n9 → WP sc0 3 m_X6_occursBefore 2 [vR t, vI ((r : Nat) : Int), vI ((e : Nat) : Int), vI ((q : Nat) : Int)] [] M (Rt (some (vI (bi (∃ q, q < e ∧ ord ce q r k = 0)))) M) := by
    intro n9
    induction n9 with
    | zero =>
      intro q hq hn hm9
      exact absurd hm9 (Nat.not_lt_zero _)
    | succ n9 ih2 =>
      intro q hq hn hm9
      have b1 := hW.1
      have b2 := hW.2.1
      refine WP.iload_n dX6_occursBefore_2 rfl ?_
      refine WP.iload_n dX6_occursBefore_3 rfl ?_
      refine WP.icmp_ge (tgt := 24) dX6_occursBefore_4 (by decide) (by omega) (by omega) (fun h4 => ?_) (fun h4 => ?_)
      · skip
        have e1 : q = e := by omega
        subst e1
        refine WP.iconst dX6_occursBefore_24 ?_
        refine WP.zret dX6_occursBefore_25 rfl (by decide) ?_
        exact ⟨congrArg some (congrArg vI (bi_f (fun ⟨p, hp, h⟩ => hn p hp h)).symm), rfl⟩
      · skip
        refine WP.aload_n dX6_occursBefore_7 rfl ?_
        refine WP.iload_n dX6_occursBefore_8 rfl ?_
        refine WP.iload_n dX6_occursBefore_9 rfl ?_
        refine WP.callVp (as := [vI ((q : Nat) : Int), vI ((r : Nat) : Int)]) dX6_occursBefore_10 mv_X6_47 rfl (shT0 ht) (by decide) rfl rfl (c_T_order (r := q) (q := r) ht hT hW (by omega) (by omega)) rfl (Nat.le_of_ble_eq_true rfl) (by omega) ?_
        refine WP.if_ne (tgt := 18) dX6_occursBefore_13 (by decide) (by have := ordv_rng hW (r := q) (q := r) (by omega) hr k (Nat.le_refl _); unfold ord; omega) (fun h13 => ?_) (fun h13 => ?_)
        · skip
          refine WP.iinc (lt := [vR t, vI ((r : Nat) : Int), vI ((e : Nat) : Int), vI (((q : Nat) : Int) + 1)]) dX6_occursBefore_18 rfl (by decide) rfl ?_
          refine WP.goto (tgt := 2) dX6_occursBefore_21 (by decide) ?_
          refine WP.fgt (lt := [vR t, vI ((r : Nat) : Int), vI ((e : Nat) : Int), vI (((q + 1) : Nat) : Int)]) ⟨Or.inr rfl, Or.inr rfl, Or.inr rfl, Or.inr (congrArg vI (by omega)), trivial⟩ ?_
          exact ih2 (q + 1) (by omega) (fun p hp => by
            by_cases e9 : p = q
            · rw [e9]; exact h13
            · exact hn p (by omega)) (by omega)
        · skip
          refine WP.iconst dX6_occursBefore_16 ?_
          refine WP.zret dX6_occursBefore_17 rfl (by decide) ?_
          exact ⟨congrArg some (congrArg vI (bi_t ⟨q, by omega, h13⟩).symm), rfl⟩
  refine WP.fgt (lt := [vR t, vI ((r : Nat) : Int), vI ((e : Nat) : Int), vI ((0 : Nat) : Int)]) ⟨Or.inr rfl, Or.inr rfl, Or.inr rfl, Or.inr (congrArg vI (by omega)), trivial⟩ ?_
  exact L2 _ (0) (Nat.zero_le _) (fun p hp => absurd hp (Nat.not_lt_zero p)) (Nat.lt_succ_self _)
set_option maxHeartbeats 4000000 in
set_option maxRecDepth 20000 in
theorem c_T_copyRow {M : Mem} {t k : Nat} {r e : Nat} (ht : isT t) (hk : M t 1 = (k : Int)) (b2 : k ≤ 7) (hr : r < 36) (he : e < 36) : CT 2 m_X6_copyRow [vR t, vI ((r : Nat) : Int), vI ((e : Nat) : Int)] M (fun z M' => z = none ∧ (∀ a, a ≠ t + 2 → M' a = M a) ∧ ∀ q b, b < 7 → M' (t + 2) (q * 7 + b) = if q = e ∧ b < k then M (t + 2) (r * 7 + b) else M (t + 2) (q * 7 + b)) := by
  refine CT.ofWP (by decide +kernel) (Nat.le_of_ble_eq_true rfl) ?_
  show WP sc0 2 m_X6_copyRow 0 [vR t, vI ((r : Nat) : Int), vI ((e : Nat) : Int), vU] [] M (fun z M' => z = none ∧ (∀ a, a ≠ t + 2 → M' a = M a) ∧ ∀ q b, b < 7 → M' (t + 2) (q * 7 + b) = if q = e ∧ b < k then M (t + 2) (r * 7 + b) else M (t + 2) (q * 7 + b))
  refine WP.iconst dX6_copyRow_0 ?_
  refine WP.istore_n (lt := [vR t, vI ((r : Nat) : Int), vI ((e : Nat) : Int), vI (0 : Int)]) dX6_copyRow_1 (by decide) rfl ?_
  have L2 : ∀ (n9 : Nat) (c : Nat) (M1 : Mem) (hc : c ≤ k) (hF : ∀ a, a ≠ t + 2 → M1 a = M a) (hC : ∀ q b, b < 7 → M1 (t + 2) (q * 7 + b) = if q = e ∧ b < c then M (t + 2) (r * 7 + b) else M (t + 2) (q * 7 + b)), k - c < n9 → WP sc0 2 m_X6_copyRow 2 [vR t, vI ((r : Nat) : Int), vI ((e : Nat) : Int), vI ((c : Nat) : Int)] [] M1 (fun z M' => z = none ∧ (∀ a, a ≠ t + 2 → M' a = M a) ∧ ∀ q b, b < 7 → M' (t + 2) (q * 7 + b) = if q = e ∧ b < k then M (t + 2) (r * 7 + b) else M (t + 2) (q * 7 + b)) := by
    intro n9
    induction n9 with
    | zero =>
      intro c M1 hc hF hC hm9
      exact absurd hm9 (Nat.not_lt_zero _)
    | succ n9 ih2 =>
      intro c M1 hc hF hC hm9
      refine WP.iload_n dX6_copyRow_2 rfl ?_
      refine WP.aload_n dX6_copyRow_3 rfl ?_
      refine WP.getI (x := ((k : Nat) : Int)) dX6_copyRow_4 fl_X6_15 (shT0 ht) (by decide) (by rw [hF t (by omega)]; exact hk) ?_
      refine WP.icmp_ge (tgt := 28) dX6_copyRow_7 (by decide) (by omega) (by omega) (fun h7 => ?_) (fun h7 => ?_)
      · skip
        refine WP.vret dX6_copyRow_28 rfl ?_
        have e1 : k = c := by omega
        subst e1
        exact ⟨rfl, hF, hC⟩
      · skip
        refine WP.aload_n dX6_copyRow_10 rfl ?_
        refine WP.iload_n dX6_copyRow_11 rfl ?_
        refine WP.iload_n dX6_copyRow_12 rfl ?_
        refine WP.aload_n dX6_copyRow_13 rfl ?_
        refine WP.iload_n dX6_copyRow_14 rfl ?_
        refine WP.iload_n dX6_copyRow_15 rfl ?_
        refine WP.callVp (as := [vI ((r : Nat) : Int), vI ((c : Nat) : Int)]) dX6_copyRow_16 mv_X6_35 rfl (shT0 ht) (by decide) rfl rfl (c_T_at (r := r) (c := c) ht (by omega) (by omega) (hC r c (by omega))) rfl (Nat.le_of_ble_eq_true rfl) (by omega) ?_
        refine WP.callV (as := [vI ((e : Nat) : Int), vI ((c : Nat) : Int), vI (if r = e ∧ c < c then M (t + 2) (r * 7 + c) else M (t + 2) (r * 7 + c))]) dX6_copyRow_19 mv_X6_31 rfl (shT0 ht) (by decide) rfl rfl (c_T_set (r := e) (c := c) ht (by omega) (by omega)) rfl (Nat.le_of_ble_eq_true rfl) (by omega) (fun r9 M2 h9 => ?_)
        obtain ⟨rfl, rfl⟩ := h9
        have hS := cell_set (M := M1) (t := t) (r0 := e) (c0 := c) (x := (if r = e ∧ c < c then M (t + 2) (r * 7 + c) else M (t + 2) (r * 7 + c))) (by omega)
        have hO := mset_o (M := M1) (id := t + 2) (i := e * 7 + c) (x := (if r = e ∧ c < c then M (t + 2) (r * 7 + c) else M (t + 2) (r * 7 + c)))
        generalize mset M1 (t + 2) (e * 7 + c) (if r = e ∧ c < c then M (t + 2) (r * 7 + c) else M (t + 2) (r * 7 + c)) = M2 at hS hO ⊢
        refine WP.iinc (lt := [vR t, vI ((r : Nat) : Int), vI ((e : Nat) : Int), vI (((c : Nat) : Int) + 1)]) dX6_copyRow_22 rfl (by decide) rfl ?_
        refine WP.goto (tgt := 2) dX6_copyRow_25 (by decide) ?_
        refine WP.fgt (lt := [vR t, vI ((r : Nat) : Int), vI ((e : Nat) : Int), vI (((c + 1) : Nat) : Int)]) ⟨Or.inr rfl, Or.inr rfl, Or.inr rfl, Or.inr (congrArg vI (by omega)), trivial⟩ ?_
        exact ih2 (c + 1) (M2) (by omega) (fun a ha => (hO a ha).trans (hF a ha)) (fun q b hb => by
          rw [hS q b hb, hC q b hb]
          by_cases e1 : q = e
          · by_cases e2 : b = c
            · subst e1; subst e2; simp
            · have : (b < c + 1) ↔ b < c := by omega
              simp [e1, e2, this]
          · simp [e1]) (by omega)
  refine WP.fgt (lt := [vR t, vI ((r : Nat) : Int), vI ((e : Nat) : Int), vI ((0 : Nat) : Int)]) ⟨Or.inr rfl, Or.inr rfl, Or.inr rfl, Or.inr (congrArg vI (by omega)), trivial⟩ ?_
  exact L2 _ (0) (M) (Nat.zero_le _) (fun _ _ => rfl) (fun q b _ => by simp) (Nat.lt_succ_self _)
