theorem TX.cg {M : Mem} {t n k : Nat} {sz sz' : Nat → Nat} {ce ce' : Nat → Nat → Nat} (h : TX M t n k sz ce) (h1 : ∀ c, c < k → sz c = sz' c) (h2 : ∀ r, r < n → ∀ c, c < k → ce r c = ce' r c) : TX M t n k sz' ce' :=
  ⟨h.1, h.2.1, fun c hc => by rw [← h1 c hc]; exact h.2.2.1 c hc, fun r hr c hc => by rw [← h2 r hr c hc]; exact h.2.2.2 r hr c hc⟩
theorem TX.fr {M M' : Mem} {t n k : Nat} {sz : Nat → Nat} {ce : Nat → Nat → Nat} (h : TX M t n k sz ce) (h0 : M' t = M t) (h1 : M' (t + 1) = M (t + 1)) (h2 : M' (t + 2) = M (t + 2)) : TX M' t n k sz ce := by
  unfold TX
  rw [h0, h1, h2]
  exact h
theorem isT_ap {t o : Nat} (ht : isT t) (ho : isT o) (h : t ≠ o) : o + 2 < t ∨ t + 2 < o := by
  unfold isT at ht ho
  omega
def apS (sz : Nat → Nat) (k s : Nat) : Nat → Nat := fun c => if c = k then s else sz c
def apC (ce : Nat → Nat → Nat) (k : Nat) (f : Nat → Nat) : Nat → Nat → Nat := fun r c => if c = k then f r else ce r c
/-- a column while it is being filled: r rows are done -/
def fil (ce : Nat → Nat → Nat) (k : Nat) (f : Nat → Nat) (r : Nat) : Nat → Nat → Nat := fun q c => if c = k ∧ q < r then f q else ce q c
theorem cell_div {r c : Nat} (hc : c < 7) : (r * 7 + c) / 7 = r ∧ (r * 7 + c) % 7 = c := by omega
theorem c_T_setX {M : Mem} {t n k r c v : Nat} {sz : Nat → Nat} {ce : Nat → Nat → Nat} (ht : isT t) (hT : TX M t n k sz ce) (hk : k ≤ 7) (hr : r < 36) (hc : c < 7) : CT 1 m_X6_set [vR t, vI ((r : Nat) : Int), vI ((c : Nat) : Int), vI ((v : Nat) : Int)] M (fun z M' => z = none ∧ (∀ a, a ≠ t + 2 → M' a = M a) ∧ TX M' t n k sz (fun q b => if q = r ∧ b = c then v else ce q b)) := by
  refine CT.mono (fun z M' h => ?_) (c_T_set ht hr hc)
  obtain ⟨rfl, rfl⟩ := h
  refine ⟨rfl, fun a ha => mset_o a ha, by rw [mset_o t (by omega)]; exact hT.1, by rw [mset_o t (by omega)]; exact hT.2.1, fun b hb => by rw [mset_o (t + 1) (by omega)]; exact hT.2.2.1 b hb, fun q hq b hb => ?_⟩
  rw [cell_set hc q b (by omega)]
  dsimp only
  by_cases e : q = r ∧ b = c
  · rw [if_pos e, if_pos e]
  · rw [if_neg e, if_neg e]
    exact hT.2.2.2 q hq b hb
theorem fil_s {ce : Nat → Nat → Nat} {k r : Nat} {f : Nat → Nat} {v : Nat} (hv : v = f r) (q c : Nat) : (if q = r ∧ c = k then v else fil ce k f r q c) = fil ce k f (r + 1) q c := by
  unfold fil
  by_cases e1 : c = k
  · by_cases e2 : q = r
    · rw [if_pos ⟨e2, e1⟩, if_pos (by omega), hv, e2]
    · by_cases e3 : q < r
      · rw [if_neg (by omega), if_pos (by omega), if_pos (by omega)]
      · rw [if_neg (by omega), if_neg (by omega), if_neg (by omega)]
  · rw [if_neg (by omega), if_neg (by omega), if_neg (by omega)]
set_option maxHeartbeats 4000000 in
set_option maxRecDepth 20000 in
theorem c_T_append {M : Mem} {t n k s : Nat} {sz : Nat → Nat} {ce : Nat → Nat → Nat} (ht : isT t) (hT : TX M t n k sz ce) (b1 : n ≤ 36) (b2 : k < 7) : CT 2 m_X6_append [vR t, vI ((s : Nat) : Int)] M (fun z M' => z = some (vI (k : Nat)) ∧ (∀ a, a ≠ t → a ≠ t + 1 → a ≠ t + 2 → M' a = M a) ∧ TX M' t n (k + 1) (apS sz k s) (apC ce k (fun _ => 0))) := by
  refine CT.ofWP (by decide +kernel) (Nat.le_of_ble_eq_true rfl) ?_
  show WP sc0 2 m_X6_append 0 [vR t, vI ((s : Nat) : Int), vU, vU] [] M (fun z M' => z = some (vI (k : Nat)) ∧ (∀ a, a ≠ t → a ≠ t + 1 → a ≠ t + 2 → M' a = M a) ∧ TX M' t n (k + 1) (apS sz k s) (apC ce k (fun _ => 0)))
  refine WP.aload_n dX6_append_0 rfl ?_
  refine WP.getI (x := ((k : Nat) : Int)) dX6_append_1 fl_X6_15 (shT0 ht) (by decide) (hT.2.1) ?_
  refine WP.istore_n (lt := [vR t, vI ((s : Nat) : Int), vI ((k : Nat) : Int), vU]) dX6_append_4 (by decide) rfl ?_
  refine WP.aload_n dX6_append_5 rfl ?_
  refine WP.dup dX6_append_6 rfl ?_
  refine WP.getI (x := ((k : Nat) : Int)) dX6_append_7 fl_X6_15 (shT0 ht) (by decide) (hT.2.1) ?_
  refine WP.iconst dX6_append_10 ?_
  refine WP.iadd dX6_append_11 ?_
  refine WP.putI dX6_append_12 fl_X6_15 (shT0 ht) (by decide) rfl ?_
  have hO0 := mset_o (M := M) (id := t) (i := 1) (x := ((k : Nat) : Int) + 1)
  have hS0 : mset M t 1 (((k : Nat) : Int) + 1) t 1 = ((k + 1 : Nat) : Int) := by rw [mset_s]; omega
  have hS1 : mset M t 1 (((k : Nat) : Int) + 1) t 0 = (n : Int) := by rw [mset_n (Or.inr (by decide))]; exact hT.1
  generalize mset M t 1 (((k : Nat) : Int) + 1) = M0 at hO0 hS0 hS1 ⊢
  refine WP.aload_n dX6_append_15 rfl ?_
  refine WP.getR (y := (t + 1)) dX6_append_16 fl_X6_18 (shT0 ht) (by decide) (srT1 ht) ?_
  refine WP.iload_n dX6_append_19 rfl ?_
  refine WP.iload_n dX6_append_20 rfl ?_
  refine WP.iastore (y := k) dX6_append_21 (shT1 ht) (by omega) (by omega) rfl ?_
  have hO1 := mset_o (M := M0) (id := t + 1) (i := k) (x := ((s : Nat) : Int))
  have hS2 : ∀ c, c < k + 1 → mset M0 (t + 1) k ((s : Nat) : Int) (t + 1) c = ((apS sz k s c : Nat) : Int) := fun c hc => by
    unfold mset apS
    by_cases e : c = k
    · rw [if_pos ⟨rfl, e⟩, if_pos e]
    · rw [if_neg (by omega), if_neg e, hO0 (t + 1) (by omega)]
      exact hT.2.2.1 c (by omega)
  generalize mset M0 (t + 1) k ((s : Nat) : Int) = M1 at hO1 hS2 ⊢
  refine WP.iconst dX6_append_22 ?_
  refine WP.istore_n (lt := [vR t, vI ((s : Nat) : Int), vI ((k : Nat) : Int), vI (0 : Int)]) dX6_append_23 (by decide) rfl ?_
  have L24 : ∀ (n9 : Nat) (r : Nat) (M2 : Mem) (hr : r ≤ n) (hF : ∀ a, a ≠ t + 2 → M2 a = M1 a) (hC : ∀ q, q < n → ∀ c, c < k → M2 (t + 2) (q * 7 + c) = (ce q c : Int)) (hD : ∀ q, q < r → M2 (t + 2) (q * 7 + k) = 0), n - r < n9 → WP sc0 2 m_X6_append 24 [vR t, vI ((s : Nat) : Int), vI ((k : Nat) : Int), vI ((r : Nat) : Int)] [] M2 (fun z M' => z = some (vI (k : Nat)) ∧ (∀ a, a ≠ t → a ≠ t + 1 → a ≠ t + 2 → M' a = M a) ∧ TX M' t n (k + 1) (apS sz k s) (apC ce k (fun _ => 0))) := by
    intro n9
    induction n9 with
    | zero =>
      intro r M2 hr hF hC hD hm9
      exact absurd hm9 (Nat.not_lt_zero _)
    | succ n9 ih24 =>
      intro r M2 hr hF hC hD hm9
      refine WP.iload_n dX6_append_24 rfl ?_
      refine WP.aload_n dX6_append_25 rfl ?_
      refine WP.getI (x := ((n : Nat) : Int)) dX6_append_26 fl_X6_9 (shT0 ht) (by decide) (by rw [hF t (by omega), hO1 t (by omega)]; exact hS1) ?_
      refine WP.icmp_ge (tgt := 45) dX6_append_29 (by decide) (by omega) (by omega) (fun h29 => ?_) (fun h29 => ?_)
      · skip
        refine WP.iload_n dX6_append_45 rfl ?_
        refine WP.iret dX6_append_46 rfl ?_
        refine ⟨rfl, fun a h1 h2 h3 => by rw [hF a h3, hO1 a h2, hO0 a h1], by rw [hF t (by omega), hO1 t (by omega)]; exact hS1, by rw [hF t (by omega), hO1 t (by omega)]; exact hS0, fun c hc => by rw [hF (t + 1) (by omega)]; exact hS2 c hc, fun q hq c hc => ?_⟩
        unfold apC
        by_cases e : c = k
        · rw [if_pos e, e]; exact hD q (by omega)
        · rw [if_neg e]; exact hC q hq c (by omega)
      · skip
        refine WP.aload_n dX6_append_32 rfl ?_
        refine WP.iload_n dX6_append_33 rfl ?_
        refine WP.iload_n dX6_append_34 rfl ?_
        refine WP.iconst dX6_append_35 ?_
        refine WP.callV (as := [vI ((r : Nat) : Int), vI ((k : Nat) : Int), vI (0 : Int)]) dX6_append_36 mv_X6_31 rfl (shT0 ht) (by decide) rfl rfl (c_T_set (r := r) (c := k) ht (by omega) (by omega)) rfl (Nat.le_of_ble_eq_true rfl) (by omega) (fun r9 M3 h9 => ?_)
        obtain ⟨rfl, rfl⟩ := h9
        have hS := cell_set (M := M2) (t := t) (r0 := r) (c0 := k) (x := (0 : Int)) (by omega)
        have hO := mset_o (M := M2) (id := t + 2) (i := r * 7 + k) (x := (0 : Int))
        generalize mset M2 (t + 2) (r * 7 + k) (0 : Int) = M3 at hS hO ⊢
        refine WP.iinc (lt := [vR t, vI ((s : Nat) : Int), vI ((k : Nat) : Int), vI (((r : Nat) : Int) + 1)]) dX6_append_39 rfl (by decide) rfl ?_
        refine WP.goto (tgt := 24) dX6_append_42 (by decide) ?_
        refine WP.fgt (lt := [vR t, vI ((s : Nat) : Int), vI ((k : Nat) : Int), vI (((r + 1) : Nat) : Int)]) ⟨Or.inr rfl, Or.inr rfl, Or.inr rfl, Or.inr (congrArg vI (by omega)), trivial⟩ ?_
        exact ih24 (r + 1) (M3) (by omega) (fun a ha => (hO a ha).trans (hF a ha)) (fun q hq c hc => by rw [hS q c (by omega), if_neg (by omega)]; exact hC q hq c hc) (fun q hq => by
          rw [hS q k (by omega)]
          by_cases e : q = r
          · rw [if_pos ⟨e, rfl⟩]
          · rw [if_neg (by omega)]; exact hD q (by omega)) (by omega)
  refine WP.fgt (lt := [vR t, vI ((s : Nat) : Int), vI ((k : Nat) : Int), vI ((0 : Nat) : Int)]) ⟨Or.inr rfl, Or.inr rfl, Or.inr rfl, Or.inr (congrArg vI (by omega)), trivial⟩ ?_
  exact L24 _ (0) (M1) (Nat.zero_le _) (fun _ _ => rfl) (fun q hq c hc => by rw [hO1 (t + 2) (by omega), hO0 (t + 2) (by omega)]; exact hT.2.2.2 q hq c hc) (fun q hq => absurd hq (Nat.not_lt_zero q)) (Nat.lt_succ_self _)
def rmS (sz : Nat → Nat) (c0 : Nat) : Nat → Nat := fun c => if c < c0 then sz c else sz (c + 1)
def rmC (ce : Nat → Nat → Nat) (c0 : Nat) : Nat → Nat → Nat := fun r c => if c < c0 then ce r c else ce r (c + 1)
set_option maxHeartbeats 4000000 in
set_option maxRecDepth 20000 in
theorem c_T_removeColumn {M : Mem} {t n k : Nat} {sz : Nat → Nat} {ce : Nat → Nat → Nat} {c : Nat} (ht : isT t) (hT : TX M t n k sz ce) (hW : Wf n k sz ce) (hc : c < k) : CT 2 m_X6_removeColumn [vR t, vI ((c : Nat) : Int)] M (fun z M' => z = none ∧ (∀ a, a ≠ t → a ≠ t + 1 → a ≠ t + 2 → M' a = M a) ∧ TX M' t n (k - 1) (rmS sz c) (rmC ce c)) := by
  have b1 := hW.1
  have b2 := hW.2.1
  refine CT.ofWP (by decide +kernel) (Nat.le_of_ble_eq_true rfl) ?_
  show WP sc0 2 m_X6_removeColumn 0 [vR t, vI ((c : Nat) : Int), vU, vU] [] M (fun z M' => z = none ∧ (∀ a, a ≠ t → a ≠ t + 1 → a ≠ t + 2 → M' a = M a) ∧ TX M' t n (k - 1) (rmS sz c) (rmC ce c))
  refine WP.aload_n dX6_removeColumn_0 rfl ?_
  refine WP.dup dX6_removeColumn_1 rfl ?_
  refine WP.getI (x := ((k : Nat) : Int)) dX6_removeColumn_2 fl_X6_15 (shT0 ht) (by decide) (hT.2.1) ?_
  refine WP.iconst dX6_removeColumn_5 ?_
  refine WP.isub dX6_removeColumn_6 ?_
  refine WP.putI dX6_removeColumn_7 fl_X6_15 (shT0 ht) (by decide) rfl ?_
  have hO0 := mset_o (M := M) (id := t) (i := 1) (x := ((k : Nat) : Int) - 1)
  have hS0 : mset M t 1 (((k : Nat) : Int) - 1) t 1 = ((k - 1 : Nat) : Int) := by rw [mset_s]; omega
  have hS1 : mset M t 1 (((k : Nat) : Int) - 1) t 0 = (n : Int) := by rw [mset_n (Or.inr (by decide))]; exact hT.1
  generalize mset M t 1 (((k : Nat) : Int) - 1) = M0 at hO0 hS0 hS1 ⊢
  refine WP.iload_n dX6_removeColumn_10 rfl ?_
  refine WP.istore_n (lt := [vR t, vI ((c : Nat) : Int), vI ((c : Nat) : Int), vU]) dX6_removeColumn_11 (by decide) rfl ?_
  have L12 : ∀ (n9 : Nat) (d : Nat) (M1 : Mem) (hd : c ≤ d ∧ d ≤ k - 1) (hF : ∀ a, a ≠ t + 1 → a ≠ t + 2 → M1 a = M0 a) (hY : ∀ b, b < d → M1 (t + 1) b = (rmS sz c b : Int)) (hZ : ∀ b, d ≤ b → b < k → M1 (t + 1) b = (sz b : Int)) (hC : ∀ r, r < n → ∀ b, b < d → M1 (t + 2) (r * 7 + b) = (rmC ce c r b : Int)) (hE : ∀ r, r < n → ∀ b, d ≤ b → b < k → M1 (t + 2) (r * 7 + b) = (ce r b : Int)), k - d < n9 → WP sc0 2 m_X6_removeColumn 12 [vR t, vI ((c : Nat) : Int), vI ((d : Nat) : Int), vU] [] M1 (fun z M' => z = none ∧ (∀ a, a ≠ t → a ≠ t + 1 → a ≠ t + 2 → M' a = M a) ∧ TX M' t n (k - 1) (rmS sz c) (rmC ce c)) := by
    intro n9
    induction n9 with
    | zero =>
      intro d M1 hd hF hY hZ hC hE hm9
      exact absurd hm9 (Nat.not_lt_zero _)
    | succ n9 ih12 =>
      intro d M1 hd hF hY hZ hC hE hm9
      refine WP.iload_n dX6_removeColumn_12 rfl ?_
      refine WP.aload_n dX6_removeColumn_13 rfl ?_
      refine WP.getI (x := ((k - 1 : Nat) : Int)) dX6_removeColumn_14 fl_X6_15 (shT0 ht) (by decide) (by rw [hF t (by omega) (by omega)]; exact hS0) ?_
      refine WP.icmp_ge (tgt := 70) dX6_removeColumn_17 (by decide) (by omega) (by omega) (fun h17 => ?_) (fun h17 => ?_)
      · skip
        refine WP.vret dX6_removeColumn_70 rfl ?_
        refine ⟨rfl, fun a h1 h2 h3 => by rw [hF a h2 h3, hO0 a h1], by rw [hF t (by omega) (by omega)]; exact hS1, by rw [hF t (by omega) (by omega)]; exact hS0, fun b hb => hY b (by omega), fun q hq b hb => hC q hq b (by omega)⟩
      · skip
        refine WP.aload_n dX6_removeColumn_20 rfl ?_
        refine WP.getR (y := (t + 1)) dX6_removeColumn_21 fl_X6_18 (shT0 ht) (by decide) (srT1 ht) ?_
        refine WP.iload_n dX6_removeColumn_24 rfl ?_
        refine WP.aload_n dX6_removeColumn_25 rfl ?_
        refine WP.getR (y := (t + 1)) dX6_removeColumn_26 fl_X6_18 (shT0 ht) (by decide) (srT1 ht) ?_
        refine WP.iload_n dX6_removeColumn_29 rfl ?_
        refine WP.iconst dX6_removeColumn_30 ?_
        refine WP.iadd dX6_removeColumn_31 ?_
        refine WP.iaload (y := (d + 1)) (x := ((sz (d + 1) : Nat) : Int)) dX6_removeColumn_32 (shT1 ht) (by omega) (by omega) (hZ (d + 1) (by omega) (by omega)) ?_
        refine WP.iastore (y := d) dX6_removeColumn_33 (shT1 ht) (by omega) (by omega) rfl ?_
        have hO2 := mset_o (M := M1) (id := t + 1) (i := d) (x := ((sz (d + 1) : Nat) : Int))
        have hN2 : ∀ c, c ≠ d → mset M1 (t + 1) d ((sz (d + 1) : Nat) : Int) (t + 1) c = M1 (t + 1) c := fun c hc => mset_n (Or.inr hc)
        have hD2 : mset M1 (t + 1) d ((sz (d + 1) : Nat) : Int) (t + 1) d = ((sz (d + 1) : Nat) : Int) := mset_s
        generalize mset M1 (t + 1) d ((sz (d + 1) : Nat) : Int) = M2 at hO2 hN2 hD2 ⊢
        refine WP.iconst dX6_removeColumn_34 ?_
        refine WP.istore_n (lt := [vR t, vI ((c : Nat) : Int), vI ((d : Nat) : Int), vI (0 : Int)]) dX6_removeColumn_35 (by decide) rfl ?_
        have L36 : ∀ (n9 : Nat) (r : Nat) (M3 : Mem) (hr : r ≤ n) (gF : ∀ a, a ≠ t + 2 → M3 a = M2 a) (gC : ∀ q, q < n → ∀ b, d < b → b < k → M3 (t + 2) (q * 7 + b) = (ce q b : Int)) (gB : ∀ q, q < n → ∀ b, b < d → M3 (t + 2) (q * 7 + b) = M1 (t + 2) (q * 7 + b)) (gD : ∀ q, q < r → M3 (t + 2) (q * 7 + d) = (rmC ce c q d : Int)), n - r < n9 → WP sc0 2 m_X6_removeColumn 36 [vR t, vI ((c : Nat) : Int), vI ((d : Nat) : Int), vI ((r : Nat) : Int)] [] M3 (fun z M' => z = none ∧ (∀ a, a ≠ t → a ≠ t + 1 → a ≠ t + 2 → M' a = M a) ∧ TX M' t n (k - 1) (rmS sz c) (rmC ce c)) := by
          intro n9
          induction n9 with
          | zero =>
            intro r M3 hr gF gC gB gD hm9
            exact absurd hm9 (Nat.not_lt_zero _)
          | succ n9 ih36 =>
            intro r M3 hr gF gC gB gD hm9
            refine WP.iload_n dX6_removeColumn_36 rfl ?_
            refine WP.aload_n dX6_removeColumn_37 rfl ?_
            refine WP.getI (x := ((n : Nat) : Int)) dX6_removeColumn_38 fl_X6_9 (shT0 ht) (by decide) (by rw [gF t (by omega), hO2 t (by omega), hF t (by omega) (by omega)]; exact hS1) ?_
            refine WP.icmp_ge (tgt := 64) dX6_removeColumn_41 (by decide) (by omega) (by omega) (fun h41 => ?_) (fun h41 => ?_)
            · skip
              refine WP.iinc (lt := [vR t, vI ((c : Nat) : Int), vI (((d : Nat) : Int) + 1), vI ((r : Nat) : Int)]) dX6_removeColumn_64 rfl (by decide) rfl ?_
              refine WP.goto (tgt := 12) dX6_removeColumn_67 (by decide) ?_
              refine WP.fgt (lt := [vR t, vI ((c : Nat) : Int), vI (((d + 1) : Nat) : Int), vU]) ⟨Or.inr rfl, Or.inr rfl, Or.inr (congrArg vI (by omega)), Or.inl rfl, trivial⟩ ?_
              exact ih12 (d + 1) (M3) (by omega) (fun a h1 h2 => by rw [gF a h2, hO2 a h1, hF a h1 h2]) (fun b hb => by
                rw [gF (t + 1) (by omega)]
                by_cases e : b = d
                · rw [e, hD2, rmS, if_neg (by omega)]
                · rw [hN2 b e]; exact hY b (by omega)) (fun b h1 hb => by rw [gF (t + 1) (by omega), hN2 b (by omega)]; exact hZ b (by omega) hb) (fun r hr b hb => by
                by_cases e : b = d
                · rw [e]; exact gD r (by omega)
                · rw [gB r hr b (by omega)]; exact hC r hr b (by omega)) (fun r hr b h1 hb => gC r hr b (by omega) hb) (by omega)
            · skip
              refine WP.aload_n dX6_removeColumn_44 rfl ?_
              refine WP.iload_n dX6_removeColumn_45 rfl ?_
              refine WP.iload_n dX6_removeColumn_46 rfl ?_
              refine WP.aload_n dX6_removeColumn_47 rfl ?_
              refine WP.iload_n dX6_removeColumn_48 rfl ?_
              refine WP.iload_n dX6_removeColumn_49 rfl ?_
              refine WP.iconst dX6_removeColumn_50 ?_
              refine WP.iadd dX6_removeColumn_51 ?_
              refine WP.eqs (st' := [vI ((d + 1 : Nat) : Int), vI ((r : Nat) : Int), vR t, vI ((d : Nat) : Int), vI ((r : Nat) : Int), vR t]) rfl (lc (congrArg vI (by omega)) (lc (rfl) (rfl))) ?_
              refine WP.callVp (as := [vI ((r : Nat) : Int), vI ((d + 1 : Nat) : Int)]) dX6_removeColumn_52 mv_X6_35 rfl (shT0 ht) (by decide) rfl rfl (c_T_at (r := r) (c := d + 1) ht (by omega) (by omega) (gC r (by omega) (d + 1) (by omega) (by omega))) rfl (Nat.le_of_ble_eq_true rfl) (by omega) ?_
              refine WP.callV (as := [vI ((r : Nat) : Int), vI ((d : Nat) : Int), vI ((ce r (d + 1) : Nat) : Int)]) dX6_removeColumn_55 mv_X6_31 rfl (shT0 ht) (by decide) rfl rfl (c_T_set (r := r) (c := d) ht (by omega) (by omega)) rfl (Nat.le_of_ble_eq_true rfl) (by omega) (fun r9 M4 h9 => ?_)
              obtain ⟨rfl, rfl⟩ := h9
              have hS := cell_set (M := M3) (t := t) (r0 := r) (c0 := d) (x := ((ce r (d + 1) : Nat) : Int)) (by omega)
              have hO := mset_o (M := M3) (id := t + 2) (i := r * 7 + d) (x := ((ce r (d + 1) : Nat) : Int))
              generalize mset M3 (t + 2) (r * 7 + d) ((ce r (d + 1) : Nat) : Int) = M4 at hS hO ⊢
              refine WP.iinc (lt := [vR t, vI ((c : Nat) : Int), vI ((d : Nat) : Int), vI (((r : Nat) : Int) + 1)]) dX6_removeColumn_58 rfl (by decide) rfl ?_
              refine WP.goto (tgt := 36) dX6_removeColumn_61 (by decide) ?_
              refine WP.fgt (lt := [vR t, vI ((c : Nat) : Int), vI ((d : Nat) : Int), vI (((r + 1) : Nat) : Int)]) ⟨Or.inr rfl, Or.inr rfl, Or.inr rfl, Or.inr (congrArg vI (by omega)), trivial⟩ ?_
              exact ih36 (r + 1) (M4) (by omega) (fun a ha => (hO a ha).trans (gF a ha)) (fun q hq b h1 hb => by rw [hS q b (by omega), if_neg (by omega)]; exact gC q hq b h1 hb) (fun q hq b hb => by rw [hS q b (by omega), if_neg (by omega)]; exact gB q hq b hb) (fun q hq => by
                rw [hS q d (by omega)]
                by_cases e : q = r
                · rw [if_pos ⟨e, rfl⟩, rmC, if_neg (by omega), e]
                · rw [if_neg (by omega)]; exact gD q (by omega)) (by omega)
        refine WP.fgt (lt := [vR t, vI ((c : Nat) : Int), vI ((d : Nat) : Int), vI ((0 : Nat) : Int)]) ⟨Or.inr rfl, Or.inr rfl, Or.inr rfl, Or.inr (congrArg vI (by omega)), trivial⟩ ?_
        exact L36 _ (0) (M2) (Nat.zero_le _) (fun _ _ => rfl) (fun q hq b h1 hb => by rw [hO2 (t + 2) (by omega)]; exact hE q hq b (by omega) hb) (fun q hq b hb => by rw [hO2 (t + 2) (by omega)]) (fun q hq => absurd hq (Nat.not_lt_zero q)) (Nat.lt_succ_self _)
  exact L12 _ (c) (M0) (by omega) (fun _ _ _ => rfl) (fun b hb => by rw [hO0 (t + 1) (by omega), rmS, if_pos hb]; exact hT.2.2.1 b (by omega)) (fun b _ hb => by rw [hO0 (t + 1) (by omega)]; exact hT.2.2.1 b hb) (fun r hr b hb => by rw [hO0 (t + 2) (by omega), rmC, if_pos hb]; exact hT.2.2.2 r hr b (by omega)) (fun r hr b _ hb => by rw [hO0 (t + 2) (by omega)]; exact hT.2.2.2 r hr b hb) (Nat.lt_succ_self _)
set_option maxHeartbeats 4000000 in
set_option maxRecDepth 20000 in
theorem c_T_copyFrom {M : Mem} {t o n k : Nat} {sz : Nat → Nat} {ce : Nat → Nat → Nat} (ht : isT t) (ho : isT o) (hto : o + 2 < t ∨ t + 2 < o) (hT : TX M o n k sz ce) (b1 : n ≤ 36) (b2 : k ≤ 7) : CT 1 m_X6_copyFrom [vR t, vR o] M (fun z M' => z = none ∧ (∀ a, a ≠ t → a ≠ t + 1 → a ≠ t + 2 → M' a = M a) ∧ TX M' t n k sz ce) := by
  refine CT.ofWP (by decide +kernel) (Nat.le_of_ble_eq_true rfl) ?_
  show WP sc0 1 m_X6_copyFrom 0 [vR t, vR o] [] M (fun z M' => z = none ∧ (∀ a, a ≠ t → a ≠ t + 1 → a ≠ t + 2 → M' a = M a) ∧ TX M' t n k sz ce)
  refine WP.aload_n dX6_copyFrom_0 rfl ?_
  refine WP.aload_n dX6_copyFrom_1 rfl ?_
  refine WP.getI (x := ((n : Nat) : Int)) dX6_copyFrom_2 fl_X6_9 (shT0 ho) (by decide) (hT.1) ?_
  refine WP.putI dX6_copyFrom_5 fl_X6_9 (shT0 ht) (by decide) rfl ?_
  have hO0 := mset_o (M := M) (id := t) (i := 0) (x := ((n : Nat) : Int))
  have hS0 : mset M t 0 ((n : Nat) : Int) t 0 = (n : Int) := mset_s
  generalize mset M t 0 ((n : Nat) : Int) = M0 at hO0 hS0 ⊢
  refine WP.aload_n dX6_copyFrom_8 rfl ?_
  refine WP.aload_n dX6_copyFrom_9 rfl ?_
  refine WP.getI (x := ((k : Nat) : Int)) dX6_copyFrom_10 fl_X6_15 (shT0 ho) (by decide) (by rw [hO0 o (by omega)]; exact hT.2.1) ?_
  refine WP.putI dX6_copyFrom_13 fl_X6_15 (shT0 ht) (by decide) rfl ?_
  have hO1 := mset_o (M := M0) (id := t) (i := 1) (x := ((k : Nat) : Int))
  have hS1 : mset M0 t 1 ((k : Nat) : Int) t 1 = (k : Int) := mset_s
  have hS2 : mset M0 t 1 ((k : Nat) : Int) t 0 = (n : Int) := (mset_n (Or.inr (by decide))).trans hS0
  generalize mset M0 t 1 ((k : Nat) : Int) = M1 at hO1 hS1 hS2 ⊢
  refine WP.aload_n dX6_copyFrom_16 rfl ?_
  refine WP.getR (y := (o + 1)) dX6_copyFrom_17 fl_X6_18 (shT0 ho) (by decide) (srT1 ho) ?_
  refine WP.iconst dX6_copyFrom_20 ?_
  refine WP.aload_n dX6_copyFrom_21 rfl ?_
  refine WP.getR (y := (t + 1)) dX6_copyFrom_22 fl_X6_18 (shT0 ht) (by decide) (srT1 ht) ?_
  refine WP.iconst dX6_copyFrom_25 ?_
  refine WP.bipush dX6_copyFrom_26 (by decide) ?_
  refine WP.copyI (sp := 0) (dp := 0) (n := 7) dX6_copyFrom_28 w_ml_X6_25 (shT1 ho) (shT1 ht) (by omega) (by omega) (by omega) (by omega) (by omega) (Nat.le_of_ble_eq_true rfl) (by decide) rfl ?_
  refine WP.aload_n dX6_copyFrom_31 rfl ?_
  refine WP.getR (y := (o + 2)) dX6_copyFrom_32 fl_X6_22 (shT0 ho) (by decide) (srT2 ho) ?_
  refine WP.iconst dX6_copyFrom_35 ?_
  refine WP.aload_n dX6_copyFrom_36 rfl ?_
  refine WP.getR (y := (t + 2)) dX6_copyFrom_37 fl_X6_22 (shT0 ht) (by decide) (srT2 ht) ?_
  refine WP.iconst dX6_copyFrom_40 ?_
  refine WP.sipush dX6_copyFrom_41 (by decide) ?_
  refine WP.copyI (sp := 0) (dp := 0) (n := 252) dX6_copyFrom_44 w_ml_X6_25 (shT2 ho) (shT2 ht) (by omega) (by omega) (by omega) (by omega) (by omega) (Nat.le_of_ble_eq_true rfl) (by decide) rfl ?_
  refine WP.vret dX6_copyFrom_47 rfl ?_
  have e1 : ∀ a, a ≠ t → a ≠ t + 1 → a ≠ t + 2 → mcpy (mcpy M1 (o + 1) 0 (t + 1) 0 7) (o + 2) 0 (t + 2) 0 252 a = M a := fun a h1 h2 h3 => by
    rw [mcpy_o a h3, mcpy_o a h2, hO1 a h1, hO0 a h1]
  refine ⟨rfl, e1, by rw [mcpy_o t (by omega), mcpy_o t (by omega)]; exact hS2, by rw [mcpy_o t (by omega), mcpy_o t (by omega)]; exact hS1, fun c hc => ?_, fun r hr c hc => ?_⟩
  · rw [mcpy_o (t + 1) (by omega)]
    unfold mcpy
    rw [if_pos (by omega), hO1 (o + 1) (by omega), hO0 (o + 1) (by omega), show 0 + (c - 0) = c by omega]
    exact hT.2.2.1 c hc
  · show (if t + 2 = t + 2 ∧ 0 ≤ r * 7 + c ∧ r * 7 + c < 0 + 252 then _ else _) = _
    rw [if_pos (by omega), mcpy_o (o + 2) (by omega), hO1 (o + 2) (by omega), hO0 (o + 2) (by omega), show 0 + (r * 7 + c - 0) = r * 7 + c by omega]
    exact hT.2.2.2 r hr c hc
