/-- what the search holds, with r rows of the new column x placed -/
def LSt (M : Mem) (t n k lv : Nat) (sz : Nat → Nat) (ce : Nat → Nat → Nat) (x : Nat → Nat) (r : Nat) : Prop := M 52 1 = (t : Int) ∧ M 52 2 = (lv : Int) ∧ (∀ q, q < n → M 54 q = (eb ce k q : Int) - 1) ∧ (∀ q, q < r → M 53 q = (x q : Int)) ∧ (∀ g, g < lv → M 98 g = ((n / lv : Nat) : Int) - ca x g r) ∧ ∀ c, c < k → ∀ v, v < sz c → ∀ g, g < lv → M (56 + (6 * c + v)) g = ((n / (sz c * lv) : Nat) : Int) - cp ce x c v g r
def CY (n k lv : Nat) (sz : Nat → Nat) (ce : Nat → Nat → Nat) (x : Nat → Nat) (r : Nat) (y : Nat → Nat) : Prop := (∀ q, q < r → y q = x q) ∧ ext n k sz ce lv y ∧ ∀ q, r ≤ q → q < n → rul ce k y q
theorem ca_up {x : Nat → Nat} {r g h : Nat} : ca (upN x r g) h (r + 1) = ca x h r + if g = h then 1 else 0 := by
  have e : ca (upN x r g) h r = ca x h r := cn_cg (fun q hq => by rw [upN_n (by omega)])
  unfold ca at e ⊢
  by_cases q : g = h
  · rw [cn_t (p := fun q => upN x r g q = h) (by rw [upN_s]; exact q), e, if_pos q]
  · rw [cn_f (p := fun q => upN x r g q = h) (by rw [upN_s]; exact q), e, if_neg q]; rfl
theorem cp_up {ce : Nat → Nat → Nat} {x : Nat → Nat} {c v r g h : Nat} : cp ce (upN x r g) c v h (r + 1) = cp ce x c v h r + if ce r c = v ∧ g = h then 1 else 0 := by
  have e : cp ce (upN x r g) c v h r = cp ce x c v h r := cn_cg (fun q hq => by rw [upN_n (by omega)])
  unfold cp at e ⊢
  by_cases q : ce r c = v ∧ g = h
  · rw [cn_t (p := fun q => ce q c = v ∧ upN x r g q = h) (by rw [upN_s]; exact q), e, if_pos q]
  · rw [cn_f (p := fun q => ce q c = v ∧ upN x r g q = h) (by rw [upN_s]; exact q), e, if_neg q]; rfl
theorem ca_sy {x y : Nat → Nat} {r g : Nat} (h : ∀ q, q < r → y q = x q) : ca y g r = ca x g r := cn_cg (fun q hq => by rw [h q hq])
theorem cp_sy {ce : Nat → Nat → Nat} {x y : Nat → Nat} {c v r g : Nat} (h : ∀ q, q < r → y q = x q) : cp ce y c v g r = cp ce x c v g r := cn_cg (fun q hq => by rw [h q hq])
/-- whether level g may stand in row r -/
def fit (n k lv : Nat) (sz : Nat → Nat) (ce : Nat → Nat → Nat) (x : Nat → Nat) (r g : Nat) : Prop := ca x g r < n / lv ∧ ∀ c, c < k → cp ce x c (ce r c) g r < n / (sz c * lv)
theorem fit_feas {n k lv : Nat} {sz : Nat → Nat} {ce : Nat → Nat → Nat} {x : Nat → Nat} {r g : Nat} (h : feas n k sz ce lv x r) (hg : g < lv) (hf : fit n k lv sz ce x r g) : feas n k sz ce lv (upN x r g) (r + 1) := by
  refine ⟨fun q hq => ?_, fun a ha => ?_, fun c hc v hv a ha => ?_⟩
  · by_cases e : q = r
    · rw [e, upN_s]; exact hg
    · rw [upN_n e]; exact h.1 q (by omega)
  · rw [ca_up]
    have := h.2.1 a ha
    by_cases e : g = a
    · rw [if_pos e]; have := hf.1; rw [← e]; omega
    · rw [if_neg e]; omega
  · rw [cp_up]
    have := h.2.2 c hc v hv a ha
    by_cases e : ce r c = v ∧ g = a
    · rw [if_pos e]; have := hf.2 c hc; rw [← e.1, ← e.2]; omega
    · rw [if_neg e]; omega
theorem fit_of {n k lv : Nat} {sz : Nat → Nat} {ce : Nat → Nat → Nat} {x y : Nat → Nat} {r : Nat} (hW : Wf n k sz ce) (hl : 0 < lv) (hr : r < n) (hxy : ∀ q, q < r → y q = x q) (he : ext n k sz ce lv y) : fit n k lv sz ce x r (y r) := by
  have hf := ext_feas hW hl he (r := r + 1) (by omega)
  have hy := he.1 r hr
  refine ⟨?_, fun c hc => ?_⟩
  · have h1 := hf.2.1 (y r) hy
    have h2 : ca y (y r) (r + 1) = ca y (y r) r + 1 := cn_t rfl
    rw [h2, ca_sy hxy] at h1
    omega
  · have h1 := hf.2.2 c hc (ce r c) (hW.2.2.2 r hr c hc) (y r) hy
    have h2 : cp ce y c (ce r c) (y r) (r + 1) = cp ce y c (ce r c) (y r) r + 1 := cn_t ⟨rfl, rfl⟩
    rw [h2, cp_sy hxy] at h1
    omega
set_option maxHeartbeats 4000000 in
set_option maxRecDepth 20000 in
theorem c_E_fits {M : Mem} {t n k : Nat} {sz : Nat → Nat} {ce : Nat → Nat → Nat} {lv r g : Nat} {x : Nat → Nat} (ht : isT t) (hT : TX M t n k sz ce) (hW : Wf n k sz ce) (hL : LSt M t n k lv sz ce x r) (hlv : 2 ≤ lv ∧ lv ≤ 6) (hr : r < n) (hn : n ≤ 16) (hfe : feas n k sz ce lv x r) (hg : g < lv) : CT 2 m_X1_fits [vR 52, vI ((r : Nat) : Int), vI ((g : Nat) : Int)] M (Rt (some (vI (bi (fit n k lv sz ce x r g)))) M) := by
  have b1 := hW.1
  have b2 := hW.2.1
  have hm1 := hL.1
  have hm2 := hL.2.1
  refine CT.ofWP (by decide +kernel) (Nat.le_of_ble_eq_true rfl) ?_
  show WP sc0 2 m_X1_fits 0 [vR 52, vI ((r : Nat) : Int), vI ((g : Nat) : Int), vU] [] M (Rt (some (vI (bi (fit n k lv sz ce x r g)))) M)
  refine WP.aload_n dX1_fits_0 rfl ?_
  refine WP.getR (y := 98) dX1_fits_1 fl_X1_34 (rfl) (by decide) (rfl) ?_
  refine WP.iload_n dX1_fits_4 rfl ?_
  refine WP.iaload (y := g) (x := ((n / lv : Nat) : Int) - ca x g r) dX1_fits_5 (rfl) (by omega) (by omega) (hL.2.2.2.2.1 g hg) ?_
  refine WP.if_ne (tgt := 11) dX1_fits_6 (by decide) (by have h1 := hfe.2.1 g hg; have h2 := Nat.div_le_self n lv; generalize n / lv = z at *; omega) (fun h6 => ?_) (fun h6 => ?_)
  · skip
    refine WP.iconst dX1_fits_11 ?_
    refine WP.istore_n (lt := [vR 52, vI ((r : Nat) : Int), vI ((g : Nat) : Int), vI (0 : Int)]) dX1_fits_12 (by decide) rfl ?_
    have L13 : ∀ (n9 : Nat) (c : Nat) (hc : c ≤ k) (hf : ca x g r < n / lv) (hn9 : ∀ b, b < c → cp ce x b (ce r b) g r < n / (sz b * lv)), k - c < n9 → WP sc0 2 m_X1_fits 13 [vR 52, vI ((r : Nat) : Int), vI ((g : Nat) : Int), vI ((c : Nat) : Int)] [] M (Rt (some (vI (bi (fit n k lv sz ce x r g)))) M) := by
      intro n9
      induction n9 with
      | zero =>
        intro c hc hf hn9 hm9
        exact absurd hm9 (Nat.not_lt_zero _)
      | succ n9 ih13 =>
        intro c hc hf hn9 hm9
        refine WP.iload_n dX1_fits_13 rfl ?_
        refine WP.aload_n dX1_fits_14 rfl ?_
        refine WP.getM (y := t) dX1_fits_15 fl_X1_18 (rfl) (by decide) (hm1) rfl ?_
        refine WP.getI (x := ((k : Nat) : Int)) dX1_fits_18 fl_X1_52 (shT0 ht) (by decide) (hT.2.1) ?_
        refine WP.icmp_ge (tgt := 56) dX1_fits_21 (by decide) (by omega) (by omega) (fun h21 => ?_) (fun h21 => ?_)
        · skip
          refine WP.iconst dX1_fits_56 ?_
          refine WP.zret dX1_fits_57 rfl (by decide) ?_
          exact ⟨congrArg some (congrArg vI (bi_t (show fit n k lv sz ce x r g from ⟨hf, fun b hb => hn9 b (by omega)⟩)).symm), rfl⟩
        · skip
          have w1 := hW.2.2.2 r hr c (by omega)
          have w2 := hW.2.2.1 c (by omega)
          refine WP.aload_n dX1_fits_24 rfl ?_
          refine WP.getR (y := 55) dX1_fits_25 fl_X1_31 (rfl) (by decide) (rfl) ?_
          refine WP.iload_n dX1_fits_28 rfl ?_
          refine WP.bipush dX1_fits_29 (by decide) ?_
          refine WP.imul dX1_fits_31 ?_
          refine WP.aload_n dX1_fits_32 rfl ?_
          refine WP.getM (y := t) dX1_fits_33 fl_X1_18 (rfl) (by decide) (hm1) rfl ?_
          refine WP.iload_n dX1_fits_36 rfl ?_
          refine WP.iload_n dX1_fits_37 rfl ?_
          refine WP.eqs (st' := [vI ((c : Nat) : Int), vI ((r : Nat) : Int), vR t, vI (((c : Nat) : Int) * (6 : Int)), vR 55]) rfl (lc (rfl) (lc (rfl) (rfl))) ?_
          refine WP.callVp (as := [vI ((r : Nat) : Int), vI ((c : Nat) : Int)]) dX1_fits_38 mv_X1_62 rfl (shT0 ht) (by decide) rfl rfl (c_T_at (r := r) (c := c) ht (by omega) (by omega) (hT.2.2.2 r (by omega) c (by omega))) rfl (Nat.le_of_ble_eq_true rfl) (by omega) ?_
          refine WP.iadd dX1_fits_41 ?_
          refine WP.aaloadI (y := (6 * c + ce r c)) (z := (56 + (6 * c + ce r c))) dX1_fits_42 (rfl) (by omega) (by omega) (rfl) ?_
          refine WP.iload_n dX1_fits_43 rfl ?_
          refine WP.iaload (y := g) (x := ((n / (sz c * lv) : Nat) : Int) - cp ce x c (ce r c) g r) dX1_fits_44 (lf_shp (by omega)) (by omega) (by omega) (hL.2.2.2.2.2 c (by omega) (ce r c) w1 g hg) ?_
          refine WP.if_ne (tgt := 50) dX1_fits_45 (by decide) (by have h1 := hfe.2.2 c (by omega) (ce r c) w1 g hg; have h2 := Nat.div_le_self n (sz c * lv); generalize n / (sz c * lv) = z at *; omega) (fun h45 => ?_) (fun h45 => ?_)
          · skip
            refine WP.iinc (lt := [vR 52, vI ((r : Nat) : Int), vI ((g : Nat) : Int), vI (((c : Nat) : Int) + 1)]) dX1_fits_50 rfl (by decide) rfl ?_
            refine WP.goto (tgt := 13) dX1_fits_53 (by decide) ?_
            refine WP.fgt (lt := [vR 52, vI ((r : Nat) : Int), vI ((g : Nat) : Int), vI (((c + 1) : Nat) : Int)]) ⟨Or.inr rfl, Or.inr rfl, Or.inr rfl, Or.inr (congrArg vI (by omega)), trivial⟩ ?_
            exact ih13 (c + 1) (by omega) (hf) (fun b hb => by
              by_cases e : b = c
              · have h1 := hfe.2.2 c (by omega) (ce r c) w1 g hg
                rw [e]; omega
              · exact hn9 b (by omega)) (by omega)
          · skip
            refine WP.iconst dX1_fits_48 ?_
            refine WP.zret dX1_fits_49 rfl (by decide) ?_
            exact ⟨congrArg some (congrArg vI (bi_f (fun z => by have := z.2 c (by omega); omega)).symm), rfl⟩
    refine WP.fgt (lt := [vR 52, vI ((r : Nat) : Int), vI ((g : Nat) : Int), vI ((0 : Nat) : Int)]) ⟨Or.inr rfl, Or.inr rfl, Or.inr rfl, Or.inr (congrArg vI (by omega)), trivial⟩ ?_
    exact L13 _ (0) (Nat.zero_le _) (by have h1 := hfe.2.1 g hg; omega) (fun b h => absurd h (Nat.not_lt_zero b)) (Nat.lt_succ_self _)
  · skip
    refine WP.iconst dX1_fits_9 ?_
    refine WP.zret dX1_fits_10 rfl (by decide) ?_
    exact ⟨congrArg some (congrArg vI (bi_f (fun z => by have := z.1; omega)).symm), rfl⟩
def usQ (ce : Nat → Nat → Nat) (k r g a j : Nat) : Prop := (a = 98 ∧ j = g) ∨ ∃ b, b < k ∧ a = 56 + (6 * b + ce r b) ∧ j = g
set_option maxHeartbeats 4000000 in
set_option maxRecDepth 20000 in
theorem c_E_use {M : Mem} {t n k : Nat} {sz : Nat → Nat} {ce : Nat → Nat → Nat} (ht : isT t) (hT : TX M t n k sz ce) (hW : Wf n k sz ce) (hm1 : M 52 1 = (t : Int)) {r g : Nat} {s : Int} (hr : r < n) (hg : g < 6) : CT 2 m_X1_use [vR 52, vI ((r : Nat) : Int), vI ((g : Nat) : Int), vI s] M (fun z M' => z = none ∧ ∀ a j, M' a j = M a j + cif (usQ ce k r g a j) s 0) := by
  have b1 := hW.1
  have b2 := hW.2.1
  have ht2 := ht.2
  refine CT.ofWP (by decide +kernel) (Nat.le_of_ble_eq_true rfl) ?_
  show WP sc0 2 m_X1_use 0 [vR 52, vI ((r : Nat) : Int), vI ((g : Nat) : Int), vI s, vU] [] M (fun z M' => z = none ∧ ∀ a j, M' a j = M a j + cif (usQ ce k r g a j) s 0)
  refine WP.aload_n dX1_use_0 rfl ?_
  refine WP.getR (y := 98) dX1_use_1 fl_X1_34 (rfl) (by decide) (rfl) ?_
  refine WP.iload_n dX1_use_4 rfl ?_
  refine WP.dup2 dX1_use_5 rfl rfl ?_
  refine WP.iaload (y := g) (x := (M 98 g)) dX1_use_6 (rfl) (by omega) (by omega) (rfl) ?_
  refine WP.iload_n dX1_use_7 rfl ?_
  refine WP.iadd dX1_use_8 ?_
  refine WP.iastore (y := g) dX1_use_9 (rfl) (by omega) (by omega) rfl ?_
  obtain ⟨M0, hM0⟩ : ∃ z, z = mset M 98 g (M 98 g + s) := ⟨_, rfl⟩
  refine WP.eqM hM0.symm ?_
  have hU0 : ∀ a j, M0 a j = M a j + cif (usQ ce 0 r g a j) s 0 := fun a j => by
    rw [hM0]
    unfold mset
    by_cases e : a = 98 ∧ j = g
    · rw [if_pos e, cif_t (show usQ ce 0 r g a j from Or.inl e), e.1, e.2]
    · rw [if_neg e, cif_f (p := usQ ce 0 r g a j) (fun z => z.elim e (fun ⟨b, hb, _⟩ => absurd hb (Nat.not_lt_zero b)))]; omega
  refine WP.iconst dX1_use_10 ?_
  refine WP.istore (lt := [vR 52, vI ((r : Nat) : Int), vI ((g : Nat) : Int), vI s, vI (0 : Int)]) dX1_use_11 (by decide) rfl ?_
  have L13 : ∀ (n9 : Nat) (c : Nat) (M1 : Mem) (hc : c ≤ k) (hU : ∀ a j, M1 a j = M a j + cif (usQ ce c r g a j) s 0), k - c < n9 → WP sc0 2 m_X1_use 13 [vR 52, vI ((r : Nat) : Int), vI ((g : Nat) : Int), vI s, vI ((c : Nat) : Int)] [] M1 (fun z M' => z = none ∧ ∀ a j, M' a j = M a j + cif (usQ ce k r g a j) s 0) := by
    intro n9
    induction n9 with
    | zero =>
      intro c M1 hc hU hm9
      exact absurd hm9 (Nat.not_lt_zero _)
    | succ n9 ih13 =>
      intro c M1 hc hU hm9
      have hF : ∀ a, a ≠ 98 → (a < 56 ∨ 98 ≤ a) → M1 a = M a := fun a h1 h2 => by
        funext j
        rw [hU, cif_f (p := usQ ce c r g a j) (fun z => z.elim (fun q => h1 q.1) (fun ⟨b, hb, h3, _⟩ => by have := hW.2.2.2 r hr b (by omega); have := hW.2.2.1 b (by omega); omega))]; omega
      have hT1 : TX M1 t n k sz ce := hT.fr (hF t (by omega) (by omega)) (hF (t + 1) (by omega) (by omega)) (hF (t + 2) (by omega) (by omega))
      have hmt : M1 52 1 = (t : Int) := by rw [hF 52 (by omega) (by omega)]; exact hm1
      refine WP.iload dX1_use_13 rfl ?_
      refine WP.aload_n dX1_use_15 rfl ?_
      refine WP.getM (y := t) dX1_use_16 fl_X1_18 (rfl) (by decide) (hmt) rfl ?_
      refine WP.getI (x := ((k : Nat) : Int)) dX1_use_19 fl_X1_52 (shT0 ht) (by decide) (hT1.2.1) ?_
      refine WP.icmp_ge (tgt := 58) dX1_use_22 (by decide) (by omega) (by omega) (fun h22 => ?_) (fun h22 => ?_)
      · skip
        refine WP.vret dX1_use_58 rfl ?_
        rw [show c = k by omega] at hU
        exact ⟨rfl, hU⟩
      · skip
        refine WP.aload_n dX1_use_25 rfl ?_
        refine WP.getR (y := 55) dX1_use_26 fl_X1_31 (rfl) (by decide) (rfl) ?_
        refine WP.iload dX1_use_29 rfl ?_
        refine WP.bipush dX1_use_31 (by decide) ?_
        refine WP.imul dX1_use_33 ?_
        refine WP.aload_n dX1_use_34 rfl ?_
        refine WP.getM (y := t) dX1_use_35 fl_X1_18 (rfl) (by decide) (hmt) rfl ?_
        refine WP.iload_n dX1_use_38 rfl ?_
        refine WP.iload dX1_use_39 rfl ?_
        refine WP.callVp (as := [vI ((r : Nat) : Int), vI ((c : Nat) : Int)]) dX1_use_41 mv_X1_62 rfl (shT0 ht) (by decide) rfl rfl (c_T_at (r := r) (c := c) ht (by omega) (by omega) (hT1.2.2.2 r hr c (by omega))) rfl (Nat.le_of_ble_eq_true rfl) (by omega) ?_
        have w1 := hW.2.2.2 r hr c (by omega)
        have w2 := hW.2.2.1 c (by omega)
        refine WP.iadd dX1_use_44 ?_
        refine WP.aaloadI (y := (6 * c + ce r c)) (z := (56 + (6 * c + ce r c))) dX1_use_45 (rfl) (by omega) (by omega) (rfl) ?_
        refine WP.iload_n dX1_use_46 rfl ?_
        refine WP.dup2 dX1_use_47 rfl rfl ?_
        refine WP.iaload (y := g) (x := (M1 (56 + (6 * c + ce r c)) g)) dX1_use_48 (lf_shp (by omega)) (by omega) (by omega) (rfl) ?_
        refine WP.iload_n dX1_use_49 rfl ?_
        refine WP.iadd dX1_use_50 ?_
        refine WP.iastore (y := g) dX1_use_51 (lf_shp (by omega)) (by omega) (by omega) rfl ?_
        obtain ⟨M2, hM2⟩ : ∃ z, z = mset M1 (56 + (6 * c + ce r c)) g (M1 (56 + (6 * c + ce r c)) g + s) := ⟨_, rfl⟩
        refine WP.eqM hM2.symm ?_
        have hU2 : ∀ a j, M2 a j = M a j + cif (usQ ce (c + 1) r g a j) s 0 := fun a j => by
          rw [hM2]
          unfold mset
          by_cases e : a = 56 + (6 * c + ce r c) ∧ j = g
          · rw [if_pos e, cif_t (show usQ ce (c + 1) r g a j from Or.inr ⟨c, by omega, e⟩), hU, e.1, e.2, cif_f (p := usQ ce c r g _ _) (fun z => z.elim (fun q => by omega) (fun ⟨b, hb, h3, _⟩ => by have := hW.2.2.2 r hr b (by omega); have := hW.2.2.1 b (by omega); omega))]; omega
          · rw [if_neg e, hU]
            congr 1
            by_cases e2 : usQ ce c r g a j
            · rw [cif_t e2, cif_t (show usQ ce (c + 1) r g a j from e2.elim Or.inl (fun ⟨b, hb, h3⟩ => Or.inr ⟨b, by omega, h3⟩))]
            · rw [cif_f e2, cif_f (p := usQ ce (c + 1) r g a j) (fun z => e2 (z.elim Or.inl (fun ⟨b, hb, h3⟩ => Or.inr ⟨b, by
                by_cases e3 : b = c
                · rw [e3] at h3; exact absurd h3 e
                · omega, h3⟩)))]
        refine WP.iinc (lt := [vR 52, vI ((r : Nat) : Int), vI ((g : Nat) : Int), vI s, vI (((c : Nat) : Int) + 1)]) dX1_use_52 rfl (by decide) rfl ?_
        refine WP.goto (tgt := 13) dX1_use_55 (by decide) ?_
        refine WP.fgt (lt := [vR 52, vI ((r : Nat) : Int), vI ((g : Nat) : Int), vI s, vI (((c + 1) : Nat) : Int)]) ⟨Or.inr rfl, Or.inr rfl, Or.inr rfl, Or.inr rfl, Or.inr (congrArg vI (by omega)), trivial⟩ ?_
        exact ih13 (c + 1) (M2) (by omega) (hU2) (by omega)
  refine WP.fgt (lt := [vR 52, vI ((r : Nat) : Int), vI ((g : Nat) : Int), vI s, vI ((0 : Nat) : Int)]) ⟨Or.inr rfl, Or.inr rfl, Or.inr rfl, Or.inr rfl, Or.inr (congrArg vI (by omega)), trivial⟩ ?_
  exact L13 _ (0) (M0) (Nat.zero_le _) (hU0) (Nat.lt_succ_self _)
theorem us_98 {ce : Nat → Nat → Nat} {k r g j : Nat} (hc : ∀ b, b < k → 56 + (6 * b + ce r b) < 98) : usQ ce k r g 98 j ↔ j = g := ⟨fun z => z.elim (fun q => q.2) (fun ⟨b, hb, h3, _⟩ => by have := hc b hb; omega), fun z => Or.inl ⟨rfl, z⟩⟩
theorem us_lf {ce : Nat → Nat → Nat} {k r g j c v : Nat} (hc : c < k) (hv : v < 6) (hk : k ≤ 7) (h6 : ∀ b, b < k → ce r b < 6) : usQ ce k r g (56 + (6 * c + v)) j ↔ ce r c = v ∧ g = j := by
  constructor
  · rintro (⟨q, _⟩ | ⟨b, hb, h3, h4⟩)
    · omega
    · have := h6 b hb
      have e : b = c := by omega
      subst e
      omega
  · rintro ⟨q, rfl⟩
    exact Or.inr ⟨c, hc, by omega, rfl⟩
/-- one row placed, or taken back -/
theorem LS_up {M M' : Mem} {t n k lv r g : Nat} {sz : Nat → Nat} {ce : Nat → Nat → Nat} {x : Nat → Nat} (hW : Wf n k sz ce) (hr : r < n) (hL : LSt M t n k lv sz ce x r) (hcol : M 53 r = (g : Int)) (hU : ∀ a j, M' a j = M a j + cif (usQ ce k r g a j) (-1) 0) : LSt M' t n k lv sz ce (upN x r g) (r + 1) := by
  obtain ⟨h1, h2, h3, h4, h5, h6⟩ := hL
  have hk := hW.2.1
  have hce : ∀ b, b < k → ce r b < 6 := fun b hb => by have := hW.2.2.2 r hr b hb; have := hW.2.2.1 b hb; omega
  have h98 := fun j => us_98 (ce := ce) (k := k) (r := r) (g := g) (j := j) (fun b hb => by have := hce b hb; omega)
  have hO : ∀ a j, a < 56 → M' a j = M a j := fun a j ha => by
    have h9 := fun b (hb : b < k) => hce b hb
    rw [hU, cif_f (p := usQ ce k r g a j) (fun z => z.elim (fun q => by omega) (fun ⟨b, hb, q, _⟩ => by omega))]; omega
  refine ⟨by rw [hO _ _ (by decide)]; exact h1, by rw [hO _ _ (by decide)]; exact h2, fun q hq => by rw [hO _ _ (by decide)]; exact h3 q hq, fun q hq => ?_, fun a ha => ?_, fun c hc v hv a ha => ?_⟩
  · rw [hO _ _ (by decide)]
    by_cases e : q = r
    · rw [e, upN_s]; exact hcol
    · rw [upN_n e]; exact h4 q (by omega)
  · rw [hU, h5 a ha, ca_up]
    by_cases e : g = a
    · rw [cif_t ((h98 _).mpr e.symm), if_pos e]; omega
    · rw [cif_f (fun z => e ((h98 _).mp z).symm), if_neg e]; omega
  · have hv6 := hW.2.2.1 c hc
    rw [hU, h6 c hc v hv a ha, cp_up]
    by_cases e : ce r c = v ∧ g = a
    · rw [cif_t ((us_lf hc (by omega) hk hce).mpr e), if_pos e]; omega
    · rw [cif_f (fun z => e ((us_lf hc (by omega) hk hce).mp z)), if_neg e]; omega
theorem LS_dn {M M' : Mem} {t n k lv r g : Nat} {sz : Nat → Nat} {ce : Nat → Nat → Nat} {x : Nat → Nat} (hW : Wf n k sz ce) (hr : r < n) (hL : LSt M t n k lv sz ce (upN x r g) (r + 1)) (hU : ∀ a j, M' a j = M a j + cif (usQ ce k r g a j) 1 0) : LSt M' t n k lv sz ce x r := by
  obtain ⟨h1, h2, h3, h4, h5, h6⟩ := hL
  have hk := hW.2.1
  have hce : ∀ b, b < k → ce r b < 6 := fun b hb => by have := hW.2.2.2 r hr b hb; have := hW.2.2.1 b hb; omega
  have h98 := fun j => us_98 (ce := ce) (k := k) (r := r) (g := g) (j := j) (fun b hb => by have := hce b hb; omega)
  have hO : ∀ a j, a < 56 → M' a j = M a j := fun a j ha => by
    have h9 := fun b (hb : b < k) => hce b hb
    rw [hU, cif_f (p := usQ ce k r g a j) (fun z => z.elim (fun q => by omega) (fun ⟨b, hb, q, _⟩ => by omega))]; omega
  refine ⟨by rw [hO _ _ (by decide)]; exact h1, by rw [hO _ _ (by decide)]; exact h2, fun q hq => by rw [hO _ _ (by decide)]; exact h3 q hq, fun q hq => ?_, fun a ha => ?_, fun c hc v hv a ha => ?_⟩
  · rw [hO _ _ (by decide), h4 q (by omega), upN_n (by omega)]
  · rw [hU, h5 a ha, ca_up]
    by_cases e : g = a
    · rw [cif_t ((h98 _).mpr e.symm), if_pos e]; omega
    · rw [cif_f (fun z => e ((h98 _).mp z).symm), if_neg e]; omega
  · have hv6 := hW.2.2.1 c hc
    rw [hU, h6 c hc v hv a ha, cp_up]
    by_cases e : ce r c = v ∧ g = a
    · rw [cif_t ((us_lf hc (by omega) hk hce).mpr e), if_pos e]; omega
    · rw [cif_f (fun z => e ((us_lf hc (by omega) hk hce).mp z)), if_neg e]; omega
/-- what place answers -/
def PQ (M : Mem) (t n k lv : Nat) (sz : Nat → Nat) (ce : Nat → Nat → Nat) (x : Nat → Nat) (r : Nat) : Option V → Mem → Prop := fun z M' => (∀ a, a ≠ 53 → a ≠ 98 → (a < 56 ∨ 98 ≤ a) → M' a = M a) ∧
  ((z = some (vI 0) ∧ (∀ y, ¬ CY n k lv sz ce x r y) ∧ LSt M' t n k lv sz ce x r) ∨
   (z = some (vI 1) ∧ ∃ y, CY n k lv sz ce x r y ∧ (∀ y', CY n k lv sz ce x r y' → ¬ lxl y' y n) ∧ ∀ q, q < n → M' 53 q = (y q : Int)))
theorem CY_up {n k lv r g : Nat} {sz : Nat → Nat} {ce : Nat → Nat → Nat} {x y : Nat → Nat} (hr : r < n) : CY n k lv sz ce (upN x r g) (r + 1) y ↔ y r = g ∧ (∀ q, q < r → y q = x q) ∧ ext n k sz ce lv y ∧ ∀ q, r + 1 ≤ q → q < n → rul ce k y q := by
  constructor
  · rintro ⟨h1, h2, h3⟩
    exact ⟨by rw [h1 r (by omega), upN_s], fun q hq => by rw [h1 q (by omega), upN_n (by omega)], h2, h3⟩
  · rintro ⟨h0, h1, h2, h3⟩
    refine ⟨fun q hq => ?_, h2, h3⟩
    by_cases e : q = r
    · rw [e, upN_s]; exact h0
    · rw [upN_n e]; exact h1 q (by omega)
theorem lo_cg {ce : Nat → Nat → Nat} {k r : Nat} {x y : Nat → Nat} (h : ∀ q, q < r → y q = x q) : lo ce k y r = lo ce k x r := by
  unfold lo
  by_cases e : eb ce k r = 0
  · rw [if_pos e, if_pos e]
  · rw [if_neg e, if_neg e]
    have : eb ce k r ≤ r := ebF_le ce k r r
    exact h _ (by omega)
