theorem lc {a b : V} {l m : List V} (h : a = b) (h2 : l = m) : a :: l = b :: m := by rw [h, h2]
def Rt (v : Option V) (M : Mem) : Option V → Mem → Prop := fun r M' => r = v ∧ M' = M
section PURE
variable {sc : Nat × (Nat → Int)} {d : Nat} {mt : Mth} {pc : Nat} {ls st : List V} {M : Mem} {Q : Option V → Mem → Prop}
theorem WP.callVp {d' index n ci q9 b : Nat} {mt' : Mth} {as st0 : List V} {r9 : vw_C} {v : V} (hd : decode mt.2.1 pc = .ok (.invokevirtual index, 3)) (hm : MV mt.1.cls index mt' n) (hn : as.length = n) (hs : shp b = (ci, q9)) (hci : ci < 10) (hc : cl9[ci]? = some r9) (hcn : mt'.1.cls = r9.1) (hc1 : CT d' mt' (vR b :: as) M (Rt (some v) M)) (hst : st0 = as.reverse ++ vR b :: st) (hcat : (st.map cat).sum ≤ 8) (hdd : d' + 1 ≤ d)
    (k : WP sc d mt (pc + 3) ls (v :: st) M Q) : WP sc d mt pc ls st0 M Q :=
  WP.callV hd hm hn hs hci hc hcn hc1 hst hcat hdd (fun r M' h => by obtain ⟨rfl, rfl⟩ := h; exact k)
theorem WP.callSp {d' index n : Nat} {mt' : Mth} {as st0 : List V} {v : V} (hd : decode mt.2.1 pc = .ok (.invokestatic index, 3)) (hm : MS mt.1.cls index mt' n) (hn : as.length = n) (hc1 : CT d' mt' as M (Rt (some v) M)) (hst : st0 = as.reverse ++ st) (hcat : (st.map cat).sum ≤ 8) (hdd : d' + 1 ≤ d)
    (k : WP sc d mt (pc + 3) ls (v :: st) M Q) : WP sc d mt pc ls st0 M Q :=
  WP.callS hd hm hn hc1 hst hcat hdd (fun r M' h => by obtain ⟨rfl, rfl⟩ := h; exact k)
end PURE
noncomputable def bi (b : Prop) : Int := @ite Int b (Classical.propDecidable b) 1 0
theorem bi_t {b : Prop} (h : b) : bi b = 1 := @if_pos b (Classical.propDecidable b) h Int 1 0
theorem bi_f {b : Prop} (h : ¬ b) : bi b = 0 := @if_neg b (Classical.propDecidable b) h Int 1 0
theorem bi_01 {b : Prop} : bi b = 0 ∨ bi b = 1 := (Classical.em b).elim (fun h => Or.inr (bi_t h)) (fun h => Or.inl (bi_f h))
theorem bi_1 {b : Prop} (h : bi b ≠ 0) : b := Classical.byContradiction (fun q => h (bi_f q))
theorem bi_0 {b : Prop} (h : bi b = 0) : ¬ b := fun q => by
  rw [bi_t q] at h
  exact absurd h (by decide)
theorem bi_rng {b : Prop} : -2147483648 ≤ bi b ∧ bi b < 2147483648 := by
  rcases bi_01 (b := b) with h | h <;> rw [h] <;> omega
theorem bi_cg {a b : Prop} (h : a ↔ b) : bi a = bi b := by
  rw [propext h]
/-! an array in a Table of the class -/
def isT (t : Nat) : Prop := t % 3 = 0 ∧ t < 42
theorem shT0 {t : Nat} (h : isT t) : shp t = (6, 0) := by
  unfold shp; rw [if_pos h.2, if_pos h.1]
theorem shT1 {t : Nat} (h : isT t) : shp (t + 1) = (10, 7) := by
  obtain ⟨h1, h2⟩ := h
  unfold shp; rw [if_pos (by omega), if_neg (by omega), if_pos (by omega)]
theorem shT2 {t : Nat} (h : isT t) : shp (t + 2) = (10, 252) := by
  obtain ⟨h1, h2⟩ := h
  unfold shp; rw [if_pos (by omega), if_neg (by omega), if_neg (by omega)]
theorem srT1 {t : Nat} (h : isT t) : srf t 2 = t + 1 := by unfold srf; rw [if_pos h.2]
theorem srT2 {t : Nat} (h : isT t) : srf t 3 = t + 2 := by unfold srf; rw [if_pos h.2]
/-- well formed -/
def Wf (n k : Nat) (sz : Nat → Nat) (ce : Nat → Nat → Nat) : Prop := n ≤ 36 ∧ k ≤ 7 ∧ (∀ c, c < k → 2 ≤ sz c ∧ sz c ≤ 6) ∧ ∀ r, r < n → ∀ c, c < k → ce r c < sz c
def TX (M : Mem) (t n k : Nat) (sz : Nat → Nat) (ce : Nat → Nat → Nat) : Prop := M t 0 = (n : Int) ∧ M t 1 = (k : Int) ∧ (∀ c, c < k → M (t + 1) c = (sz c : Int)) ∧ ∀ r, r < n → ∀ c, c < k → M (t + 2) (r * 7 + c) = (ce r c : Int)
set_option maxHeartbeats 4000000 in
set_option maxRecDepth 20000 in
theorem c_T_hasRow {M : Mem} {t n : Nat} {x : Int} (ht : isT t) (hM : M t 0 = (n : Int)) (hn : n ≤ 36) (hx : -2147483648 ≤ x ∧ x < 2147483648) : CT 1 m_X6_hasRow [vR t, vI x] M (Rt (some (vI (bi (0 ≤ x ∧ x < (n : Int))))) M) := by
  refine CT.ofWP (by decide +kernel) (Nat.le_of_ble_eq_true rfl) ?_
  show WP sc0 1 m_X6_hasRow 0 [vR t, vI x] [] M (Rt (some (vI (bi (0 ≤ x ∧ x < (n : Int))))) M)
  refine WP.iload_n dX6_hasRow_0 rfl ?_
  refine WP.if_lt (tgt := 16) dX6_hasRow_1 (by decide) (by omega) (fun h1 => ?_) (fun h1 => ?_)
  · skip
    refine WP.iconst dX6_hasRow_16 ?_
    refine WP.zret dX6_hasRow_17 rfl (by decide) ?_
    exact ⟨congrArg some (congrArg vI (bi_f (by omega)).symm), rfl⟩
  · skip
    refine WP.iload_n dX6_hasRow_4 rfl ?_
    refine WP.aload_n dX6_hasRow_5 rfl ?_
    refine WP.getI (x := ((n : Nat) : Int)) dX6_hasRow_6 fl_X6_9 (shT0 ht) (by decide) (hM) ?_
    refine WP.icmp_ge (tgt := 16) dX6_hasRow_9 (by decide) (by omega) (by omega) (fun h9 => ?_) (fun h9 => ?_)
    · skip
      refine WP.iconst dX6_hasRow_16 ?_
      refine WP.zret dX6_hasRow_17 rfl (by decide) ?_
      exact ⟨congrArg some (congrArg vI (bi_f (by omega)).symm), rfl⟩
    · skip
      refine WP.iconst dX6_hasRow_12 ?_
      refine WP.goto (tgt := 17) dX6_hasRow_13 (by decide) ?_
      refine WP.zret dX6_hasRow_17 rfl (by decide) ?_
      exact ⟨congrArg some (congrArg vI (bi_t (by omega)).symm), rfl⟩
set_option maxHeartbeats 4000000 in
set_option maxRecDepth 20000 in
theorem c_T_hasColumn {M : Mem} {t k : Nat} {x : Int} (ht : isT t) (hM : M t 1 = (k : Int)) (hn : k ≤ 36) (hx : -2147483648 ≤ x ∧ x < 2147483648) : CT 1 m_X6_hasColumn [vR t, vI x] M (Rt (some (vI (bi (0 ≤ x ∧ x < (k : Int))))) M) := by
  refine CT.ofWP (by decide +kernel) (Nat.le_of_ble_eq_true rfl) ?_
  show WP sc0 1 m_X6_hasColumn 0 [vR t, vI x] [] M (Rt (some (vI (bi (0 ≤ x ∧ x < (k : Int))))) M)
  refine WP.iload_n dX6_hasColumn_0 rfl ?_
  refine WP.if_lt (tgt := 16) dX6_hasColumn_1 (by decide) (by omega) (fun h1 => ?_) (fun h1 => ?_)
  · skip
    refine WP.iconst dX6_hasColumn_16 ?_
    refine WP.zret dX6_hasColumn_17 rfl (by decide) ?_
    exact ⟨congrArg some (congrArg vI (bi_f (by omega)).symm), rfl⟩
  · skip
    refine WP.iload_n dX6_hasColumn_4 rfl ?_
    refine WP.aload_n dX6_hasColumn_5 rfl ?_
    refine WP.getI (x := ((k : Nat) : Int)) dX6_hasColumn_6 fl_X6_15 (shT0 ht) (by decide) (hM) ?_
    refine WP.icmp_ge (tgt := 16) dX6_hasColumn_9 (by decide) (by omega) (by omega) (fun h9 => ?_) (fun h9 => ?_)
    · skip
      refine WP.iconst dX6_hasColumn_16 ?_
      refine WP.zret dX6_hasColumn_17 rfl (by decide) ?_
      exact ⟨congrArg some (congrArg vI (bi_f (by omega)).symm), rfl⟩
    · skip
      refine WP.iconst dX6_hasColumn_12 ?_
      refine WP.goto (tgt := 17) dX6_hasColumn_13 (by decide) ?_
      refine WP.zret dX6_hasColumn_17 rfl (by decide) ?_
      exact ⟨congrArg some (congrArg vI (bi_t (by omega)).symm), rfl⟩
set_option maxHeartbeats 4000000 in
set_option maxRecDepth 20000 in
theorem c_T_at {M : Mem} {t r c : Nat} {x : Int} (ht : isT t) (hr : r < 36) (hc : c < 7) (hM : M (t + 2) (r * 7 + c) = x) : CT 1 m_X6_at [vR t, vI ((r : Nat) : Int), vI ((c : Nat) : Int)] M (Rt (some (vI x)) M) := by
  refine CT.ofWP (by decide +kernel) (Nat.le_of_ble_eq_true rfl) ?_
  show WP sc0 1 m_X6_at 0 [vR t, vI ((r : Nat) : Int), vI ((c : Nat) : Int)] [] M (Rt (some (vI x)) M)
  refine WP.aload_n dX6_at_0 rfl ?_
  refine WP.getR (y := (t + 2)) dX6_at_1 fl_X6_22 (shT0 ht) (by decide) (srT2 ht) ?_
  refine WP.iload_n dX6_at_4 rfl ?_
  refine WP.bipush dX6_at_5 (by decide) ?_
  refine WP.imul dX6_at_7 ?_
  refine WP.iload_n dX6_at_8 rfl ?_
  refine WP.iadd dX6_at_9 ?_
  refine WP.iaload (y := (r * 7 + c)) (x := x) dX6_at_10 (shT2 ht) (by omega) (by omega) (hM) ?_
  refine WP.iret dX6_at_11 rfl ?_
  exact ⟨rfl, rfl⟩
set_option maxHeartbeats 4000000 in
set_option maxRecDepth 20000 in
theorem c_T_set {M : Mem} {t r c : Nat} {x : Int} (ht : isT t) (hr : r < 36) (hc : c < 7) : CT 1 m_X6_set [vR t, vI ((r : Nat) : Int), vI ((c : Nat) : Int), vI x] M (Rt none (mset M (t + 2) (r * 7 + c) x)) := by
  refine CT.ofWP (by decide +kernel) (Nat.le_of_ble_eq_true rfl) ?_
  show WP sc0 1 m_X6_set 0 [vR t, vI ((r : Nat) : Int), vI ((c : Nat) : Int), vI x] [] M (Rt none (mset M (t + 2) (r * 7 + c) x))
  refine WP.aload_n dX6_set_0 rfl ?_
  refine WP.getR (y := (t + 2)) dX6_set_1 fl_X6_22 (shT0 ht) (by decide) (srT2 ht) ?_
  refine WP.iload_n dX6_set_4 rfl ?_
  refine WP.bipush dX6_set_5 (by decide) ?_
  refine WP.imul dX6_set_7 ?_
  refine WP.iload_n dX6_set_8 rfl ?_
  refine WP.iadd dX6_set_9 ?_
  refine WP.iload_n dX6_set_10 rfl ?_
  refine WP.iastore (y := (r * 7 + c)) dX6_set_11 (shT2 ht) (by omega) (by omega) rfl ?_
  refine WP.vret dX6_set_12 rfl ?_
  exact ⟨rfl, rfl⟩
def agr (ce : Nat → Nat → Nat) (r q : Nat) : Nat → Nat
  | 0 => 0
  | c + 1 => agr ce r q c + (if ce r c = ce q c then 1 else 0)
theorem agr_le (ce : Nat → Nat → Nat) (r q : Nat) : ∀ k, agr ce r q k ≤ k
  | 0 => Nat.le_refl _
  | k + 1 => by
    have := agr_le ce r q k
    unfold agr
    split <;> omega
set_option maxHeartbeats 4000000 in
set_option maxRecDepth 20000 in
theorem c_T_agreements {M : Mem} {t n k : Nat} {sz : Nat → Nat} {ce : Nat → Nat → Nat} {r q : Nat} (ht : isT t) (hT : TX M t n k sz ce) (hW : Wf n k sz ce) (hr : r < n) (hq : q < n) : CT 2 m_X6_agreements [vR t, vI ((r : Nat) : Int), vI ((q : Nat) : Int)] M (Rt (some (vI (agr ce r q k : Nat))) M) := by
  have b1 := hW.1
  have b2 := hW.2.1
  refine CT.ofWP (by decide +kernel) (Nat.le_of_ble_eq_true rfl) ?_
  show WP sc0 2 m_X6_agreements 0 [vR t, vI ((r : Nat) : Int), vI ((q : Nat) : Int), vU, vU] [] M (Rt (some (vI (agr ce r q k : Nat))) M)
  refine WP.iconst dX6_agreements_0 ?_
  refine WP.istore_n (lt := [vR t, vI ((r : Nat) : Int), vI ((q : Nat) : Int), vI (0 : Int), vU]) dX6_agreements_1 (by decide) rfl ?_
  refine WP.iconst dX6_agreements_2 ?_
  refine WP.istore (lt := [vR t, vI ((r : Nat) : Int), vI ((q : Nat) : Int), vI (0 : Int), vI (0 : Int)]) dX6_agreements_3 (by decide) rfl ?_
  have L5 : ∀ (n9 : Nat) (c a : Nat) (hc : c ≤ k) (ha : a = agr ce r q c), k - c < n9 → WP sc0 2 m_X6_agreements 5 [vR t, vI ((r : Nat) : Int), vI ((q : Nat) : Int), vI ((a : Nat) : Int), vI ((c : Nat) : Int)] [] M (Rt (some (vI (agr ce r q k : Nat))) M) := by
    intro n9
    induction n9 with
    | zero =>
      intro c a hc ha hm9
      exact absurd hm9 (Nat.not_lt_zero _)
    | succ n9 ih5 =>
      intro c a hc ha hm9
      have b1 := hW.1
      have b2 := hW.2.1
      have b3 := agr_le ce r q c
      refine WP.iload dX6_agreements_5 rfl ?_
      refine WP.aload_n dX6_agreements_7 rfl ?_
      refine WP.getI (x := ((k : Nat) : Int)) dX6_agreements_8 fl_X6_15 (shT0 ht) (by decide) (hT.2.1) ?_
      refine WP.icmp_ge (tgt := 40) dX6_agreements_11 (by decide) (by omega) (by omega) (fun h11 => ?_) (fun h11 => ?_)
      · skip
        have e1 : k = c := by omega
        subst e1
        refine WP.iload_n dX6_agreements_40 rfl ?_
        refine WP.iret dX6_agreements_41 rfl ?_
        subst ha
        exact ⟨rfl, rfl⟩
      · skip
        refine WP.aload_n dX6_agreements_14 rfl ?_
        refine WP.iload_n dX6_agreements_15 rfl ?_
        refine WP.iload dX6_agreements_16 rfl ?_
        refine WP.eqs (st' := [vI ((c : Nat) : Int), vI ((r : Nat) : Int), vR t]) rfl (lc (rfl) (lc (rfl) (rfl))) ?_
        refine WP.callVp (as := [vI ((r : Nat) : Int), vI ((c : Nat) : Int)]) dX6_agreements_18 mv_X6_35 rfl (shT0 ht) (by decide) rfl rfl (c_T_at (r := r) (c := c) ht (by omega) (by omega) (hT.2.2.2 r (by omega) c (by omega))) rfl (Nat.le_of_ble_eq_true rfl) (by omega) ?_
        refine WP.aload_n dX6_agreements_21 rfl ?_
        refine WP.iload_n dX6_agreements_22 rfl ?_
        refine WP.iload dX6_agreements_23 rfl ?_
        refine WP.eqs (st' := [vI ((c : Nat) : Int), vI ((q : Nat) : Int), vR t, vI ((ce r c : Nat) : Int)]) rfl (lc (rfl) (lc (rfl) (rfl))) ?_
        refine WP.callVp (as := [vI ((q : Nat) : Int), vI ((c : Nat) : Int)]) dX6_agreements_25 mv_X6_35 rfl (shT0 ht) (by decide) rfl rfl (c_T_at (r := q) (c := c) ht (by omega) (by omega) (hT.2.2.2 q (by omega) c (by omega))) rfl (Nat.le_of_ble_eq_true rfl) (by omega) ?_
        refine WP.icmp_ne (tgt := 34) dX6_agreements_28 (by decide) (by have := hW.2.2.2 r hr c (by omega); have := hW.2.2.1 c (by omega); omega) (by have := hW.2.2.2 q hq c (by omega); have := hW.2.2.1 c (by omega); omega) (fun h28 => ?_) (fun h28 => ?_)
        · skip
          refine WP.iinc (lt := [vR t, vI ((r : Nat) : Int), vI ((q : Nat) : Int), vI ((a : Nat) : Int), vI (((c : Nat) : Int) + 1)]) dX6_agreements_34 rfl (by decide) rfl ?_
          refine WP.goto (tgt := 5) dX6_agreements_37 (by decide) ?_
          refine WP.fgt (lt := [vR t, vI ((r : Nat) : Int), vI ((q : Nat) : Int), vI (((agr ce r q (c + 1)) : Nat) : Int), vI (((c + 1) : Nat) : Int)]) ⟨Or.inr rfl, Or.inr rfl, Or.inr rfl, Or.inr (congrArg vI (by rw [agr, if_neg (by omega), ← ha]; omega)), Or.inr (congrArg vI (by omega)), trivial⟩ ?_
          exact ih5 (c + 1) (agr ce r q (c + 1)) (by omega) (rfl) (by omega)
        · skip
          refine WP.iinc (lt := [vR t, vI ((r : Nat) : Int), vI ((q : Nat) : Int), vI (((a : Nat) : Int) + 1), vI ((c : Nat) : Int)]) dX6_agreements_31 rfl (by decide) rfl ?_
          refine WP.iinc (lt := [vR t, vI ((r : Nat) : Int), vI ((q : Nat) : Int), vI (((a : Nat) : Int) + 1), vI (((c : Nat) : Int) + 1)]) dX6_agreements_34 rfl (by decide) rfl ?_
          refine WP.goto (tgt := 5) dX6_agreements_37 (by decide) ?_
          refine WP.fgt (lt := [vR t, vI ((r : Nat) : Int), vI ((q : Nat) : Int), vI (((agr ce r q (c + 1)) : Nat) : Int), vI (((c + 1) : Nat) : Int)]) ⟨Or.inr rfl, Or.inr rfl, Or.inr rfl, Or.inr (congrArg vI (by rw [agr, if_pos (by omega), ← ha]; omega)), Or.inr (congrArg vI (by omega)), trivial⟩ ?_
          exact ih5 (c + 1) (agr ce r q (c + 1)) (by omega) (rfl) (by omega)
  refine WP.fgt (lt := [vR t, vI ((r : Nat) : Int), vI ((q : Nat) : Int), vI ((0 : Nat) : Int), vI ((0 : Nat) : Int)]) ⟨Or.inr rfl, Or.inr rfl, Or.inr rfl, Or.inr (congrArg vI (by omega)), Or.inr (congrArg vI (by omega)), trivial⟩ ?_
  exact L5 _ (0) (0) (Nat.zero_le _) (rfl) (Nat.lt_succ_self _)
