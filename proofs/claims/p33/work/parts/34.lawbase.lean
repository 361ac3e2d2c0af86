theorem iA_r {x y : Int} : -2147483648 ≤ iA x y ∧ iA x y < 2147483648 := ⟨Int32.le_toInt _, Int32.toInt_lt _⟩
theorem iA_nn {x : Int} : 0 ≤ iA x 2147483647 ∧ iA x 2147483647 < 2147483648 := by
  refine ⟨?_, (iA_r).2⟩
  show 0 ≤ ((Int32.ofInt x).toBitVec &&& (Int32.ofInt 2147483647).toBitVec).toInt
  rw [BitVec.toInt_eq_msb_cond, BitVec.msb_and, show (Int32.ofInt 2147483647).toBitVec.msb = false from by decide +kernel, Bool.and_false]
  simp
/-- the law's low, and a shift to the right -/
def lw (v n : Int) : Int := iA v 2147483647 % n
def shI (x y : Int) : Int := (Int32.ofInt x >>> (Int32.ofInt y &&& 31)).toInt
theorem lw_rng {v n : Int} (h : 0 < n) : 0 ≤ lw v n ∧ lw v n < n := ⟨Int.emod_nonneg _ (by omega), Int.emod_lt_of_pos _ h⟩
/-- the script's ints, and what stands behind its end -/
def cvl (L : Nat) (xs : Nat → Int) (k : Nat) : Int := if k < L then xs k else 747796405 * ((k : Int) + 1)
/-- what one bench does, the other unchanged -/
def AT (M : Mem) (S : ST) (M1 : Mem) : Prop := InvX M1 S ∧ ∀ a, 167 ≤ a → M1 a = M a
theorem AT.start {M : Mem} {S : ST} (h : InvX M S) : AT M S M := ⟨h, fun _ _ => rfl⟩
theorem AT.wf {M M1 : Mem} {S : ST} (h : AT M S M1) : Wf S.1.1 S.1.2.1 S.1.2.2.1 S.1.2.2.2 := h.1.1.2
theorem AT.h8 {M M1 : Mem} {S : ST} (h : AT M S M1) : S.2.1.1 ≤ 8 := h.1.2.1.1
theorem AT.len {M M1 : Mem} {S : ST} (h : AT M S M1) : S.2.2.2.1 ≤ 300 := h.1.2.2.2.1.1
theorem z_begin {M M1 : Mem} {S : ST} (hA : AT M S M1) {x : Int} (hx : -2147483648 ≤ x ∧ x < 2147483648) : CT 40 m_X7_begin [vR 42, vI x] M1 (fun z9 M2 => z9 = some (vI (o_begin S x).1) ∧ AT M (o_begin S x).2 M2) := by
  obtain ⟨⟨n, k, sz, ce⟩, ⟨h, hs⟩, im, len, tx⟩ := S
  exact CT.mono (fun z9 M2 hh => ⟨hh.1, hh.2.1, fun a ha => (hh.2.2 a ha).trans (hA.2 a ha)⟩) (x_begin hA.1 hx)
theorem z_addColumn {M M1 : Mem} {S : ST} (hA : AT M S M1) {x : Int} (hx : -2147483648 ≤ x ∧ x < 2147483648) : CT 40 m_X7_addColumn [vR 42, vI x] M1 (fun z9 M2 => z9 = some (vI (o_addColumn S x).1) ∧ AT M (o_addColumn S x).2 M2) := by
  obtain ⟨⟨n, k, sz, ce⟩, ⟨h, hs⟩, im, len, tx⟩ := S
  exact CT.mono (fun z9 M2 hh => ⟨hh.1, hh.2.1, fun a ha => (hh.2.2 a ha).trans (hA.2 a ha)⟩) (x_addColumn hA.1 hx)
theorem z_dropColumn {M M1 : Mem} {S : ST} (hA : AT M S M1) {x : Int} (hx : -2147483648 ≤ x ∧ x < 2147483648) : CT 40 m_X7_dropColumn [vR 42, vI x] M1 (fun z9 M2 => z9 = some (vI (o_dropColumn S x).1) ∧ AT M (o_dropColumn S x).2 M2) := by
  obtain ⟨⟨n, k, sz, ce⟩, ⟨h, hs⟩, im, len, tx⟩ := S
  exact CT.mono (fun z9 M2 hh => ⟨hh.1, hh.2.1, fun a ha => (hh.2.2 a ha).trans (hA.2 a ha)⟩) (x_dropColumn hA.1 hx)
theorem z_put {M M1 : Mem} {S : ST} (hA : AT M S M1) {x : Int} (hx : -2147483648 ≤ x ∧ x < 2147483648) {y : Int} (hy : -2147483648 ≤ y ∧ y < 2147483648) {z : Int} (hz : -2147483648 ≤ z ∧ z < 2147483648) : CT 40 m_X7_put [vR 42, vI x, vI y, vI z] M1 (fun z9 M2 => z9 = some (vI (o_put S x y z).1) ∧ AT M (o_put S x y z).2 M2) := by
  obtain ⟨⟨n, k, sz, ce⟩, ⟨h, hs⟩, im, len, tx⟩ := S
  exact CT.mono (fun z9 M2 hh => ⟨hh.1, hh.2.1, fun a ha => (hh.2.2 a ha).trans (hA.2 a ha)⟩) (x_put hA.1 hx hy hz)
theorem z_dropRow {M M1 : Mem} {S : ST} (hA : AT M S M1) {x : Int} (hx : -2147483648 ≤ x ∧ x < 2147483648) : CT 40 m_X7_dropRow [vR 42, vI x] M1 (fun z9 M2 => z9 = some (vI (o_dropRow S x).1) ∧ AT M (o_dropRow S x).2 M2) := by
  obtain ⟨⟨n, k, sz, ce⟩, ⟨h, hs⟩, im, len, tx⟩ := S
  exact CT.mono (fun z9 M2 hh => ⟨hh.1, hh.2.1, fun a ha => (hh.2.2 a ha).trans (hA.2 a ha)⟩) (x_dropRow hA.1 hx)
theorem z_dropCopies {M M1 : Mem} {S : ST} (hA : AT M S M1)  : CT 40 m_X7_dropCopies [vR 42] M1 (fun z9 M2 => z9 = some (vI (o_dropCopies S).1) ∧ AT M (o_dropCopies S).2 M2) := by
  obtain ⟨⟨n, k, sz, ce⟩, ⟨h, hs⟩, im, len, tx⟩ := S
  exact CT.mono (fun z9 M2 hh => ⟨hh.1, hh.2.1, fun a ha => (hh.2.2 a ha).trans (hA.2 a ha)⟩) (x_dropCopies hA.1)
theorem z_sort {M M1 : Mem} {S : ST} (hA : AT M S M1)  : CT 40 m_X7_sort [vR 42] M1 (fun z9 M2 => z9 = some (vI (o_sort S).1) ∧ AT M (o_sort S).2 M2) := by
  obtain ⟨⟨n, k, sz, ce⟩, ⟨h, hs⟩, im, len, tx⟩ := S
  exact CT.mono (fun z9 M2 hh => ⟨hh.1, hh.2.1, fun a ha => (hh.2.2 a ha).trans (hA.2 a ha)⟩) (x_sort hA.1)
theorem z_factorial {M M1 : Mem} {S : ST} (hA : AT M S M1) {x : Int} (hx : -2147483648 ≤ x ∧ x < 2147483648) : CT 40 m_X7_factorial [vR 42, vI x] M1 (fun z9 M2 => z9 = some (vI (o_factorial S x).1) ∧ AT M (o_factorial S x).2 M2) := by
  obtain ⟨⟨n, k, sz, ce⟩, ⟨h, hs⟩, im, len, tx⟩ := S
  exact CT.mono (fun z9 M2 hh => ⟨hh.1, hh.2.1, fun a ha => (hh.2.2 a ha).trans (hA.2 a ha)⟩) (x_factorial hA.1 hx)
theorem z_addSum {M M1 : Mem} {S : ST} (hA : AT M S M1) {x : Int} (hx : -2147483648 ≤ x ∧ x < 2147483648) {y : Int} (hy : -2147483648 ≤ y ∧ y < 2147483648) {z : Int} (hz : -2147483648 ≤ z ∧ z < 2147483648) {w : Int} (hw : -2147483648 ≤ w ∧ w < 2147483648) : CT 40 m_X7_addSum [vR 42, vI x, vI y, vI z, vI w] M1 (fun z9 M2 => z9 = some (vI (o_addSum S x y z w).1) ∧ AT M (o_addSum S x y z w).2 M2) := by
  obtain ⟨⟨n, k, sz, ce⟩, ⟨h, hs⟩, im, len, tx⟩ := S
  exact CT.mono (fun z9 M2 hh => ⟨hh.1, hh.2.1, fun a ha => (hh.2.2 a ha).trans (hA.2 a ha)⟩) (x_addSum hA.1 hx hy hz hw)
theorem z_replace {M M1 : Mem} {S : ST} (hA : AT M S M1) {x : Int} (hx : -2147483648 ≤ x ∧ x < 2147483648) {y : Int} (hy : -2147483648 ≤ y ∧ y < 2147483648) : CT 40 m_X7_replace [vR 42, vI x, vI y] M1 (fun z9 M2 => z9 = some (vI (o_replace S x y).1) ∧ AT M (o_replace S x y).2 M2) := by
  obtain ⟨⟨n, k, sz, ce⟩, ⟨h, hs⟩, im, len, tx⟩ := S
  exact CT.mono (fun z9 M2 hh => ⟨hh.1, hh.2.1, fun a ha => (hh.2.2 a ha).trans (hA.2 a ha)⟩) (x_replace hA.1 hx hy)
theorem z_develop {M M1 : Mem} {S : ST} (hA : AT M S M1)  : CT 40 m_X7_develop [vR 42] M1 (fun z9 M2 => z9 = some (vI (o_develop S).1) ∧ AT M (o_develop S).2 M2) := by
  obtain ⟨⟨n, k, sz, ce⟩, ⟨h, hs⟩, im, len, tx⟩ := S
  exact CT.mono (fun z9 M2 hh => ⟨hh.1, hh.2.1, fun a ha => (hh.2.2 a ha).trans (hA.2 a ha)⟩) (x_develop hA.1)
theorem z_undo {M M1 : Mem} {S : ST} (hA : AT M S M1)  : CT 40 m_X7_undo [vR 42] M1 (fun z9 M2 => z9 = some (vI (o_undo S).1) ∧ AT M (o_undo S).2 M2) := by
  obtain ⟨⟨n, k, sz, ce⟩, ⟨h, hs⟩, im, len, tx⟩ := S
  exact CT.mono (fun z9 M2 hh => ⟨hh.1, hh.2.1, fun a ha => (hh.2.2 a ha).trans (hA.2 a ha)⟩) (x_undo hA.1)
theorem z_keep {M M1 : Mem} {S : ST} (hA : AT M S M1) {x : Int} (hx : -2147483648 ≤ x ∧ x < 2147483648) : CT 40 m_X7_keep [vR 42, vI x] M1 (fun z9 M2 => z9 = some (vI (o_keep S x).1) ∧ AT M (o_keep S x).2 M2) := by
  obtain ⟨⟨n, k, sz, ce⟩, ⟨h, hs⟩, im, len, tx⟩ := S
  exact CT.mono (fun z9 M2 hh => ⟨hh.1, hh.2.1, fun a ha => (hh.2.2 a ha).trans (hA.2 a ha)⟩) (x_keep hA.1 hx)
theorem z_back {M M1 : Mem} {S : ST} (hA : AT M S M1) {x : Int} (hx : -2147483648 ≤ x ∧ x < 2147483648) : CT 40 m_X7_back [vR 42, vI x] M1 (fun z9 M2 => z9 = some (vI (o_back S x).1) ∧ AT M (o_back S x).2 M2) := by
  obtain ⟨⟨n, k, sz, ce⟩, ⟨h, hs⟩, im, len, tx⟩ := S
  exact CT.mono (fun z9 M2 hh => ⟨hh.1, hh.2.1, fun a ha => (hh.2.2 a ha).trans (hA.2 a ha)⟩) (x_back hA.1 hx)
theorem z_extend {M M1 : Mem} {S : ST} (hA : AT M S M1) {x : Int} (hx : -2147483648 ≤ x ∧ x < 2147483648) : CT 40 m_X7_extend [vR 42, vI x] M1 (fun z9 M2 => z9 = some (vI (o_extend S x).1) ∧ AT M (o_extend S x).2 M2) := by
  obtain ⟨⟨n, k, sz, ce⟩, ⟨h, hs⟩, im, len, tx⟩ := S
  exact CT.mono (fun z9 M2 hh => ⟨hh.1, hh.2.1, fun a ha => (hh.2.2 a ha).trans (hA.2 a ha)⟩) (x_extend hA.1 hx)
theorem z_told {M M1 : Mem} {S : ST} (hA : AT M S M1) {x : Int} (hx : -2147483648 ≤ x ∧ x < 2147483648) : CT 40 m_X7_told [vR 42, vI x] M1 (fun z9 M2 => z9 = some (vI (o_told S x).1) ∧ AT M S M2) := by
  obtain ⟨⟨n, k, sz, ce⟩, ⟨h, hs⟩, im, len, tx⟩ := S
  exact CT.mono (fun z9 M2 hh => ⟨hh.1, hh.2.1, fun a ha => (hh.2.2 a ha).trans (hA.2 a ha)⟩) (x_told hA.1 hx)
theorem z_levels {M M1 : Mem} {S : ST} (hA : AT M S M1) {x : Int} (hx : -2147483648 ≤ x ∧ x < 2147483648) : CT 40 m_X7_levels [vR 42, vI x] M1 (fun z9 M2 => z9 = some (vI (o_levels S x).1) ∧ AT M S M2) := by
  obtain ⟨⟨n, k, sz, ce⟩, ⟨h, hs⟩, im, len, tx⟩ := S
  exact CT.mono (fun z9 M2 hh => ⟨hh.1, hh.2.1, fun a ha => (hh.2.2 a ha).trans (hA.2 a ha)⟩) (x_levels hA.1 hx)
theorem z_cell {M M1 : Mem} {S : ST} (hA : AT M S M1) {x : Int} (hx : -2147483648 ≤ x ∧ x < 2147483648) {y : Int} (hy : -2147483648 ≤ y ∧ y < 2147483648) : CT 40 m_X7_cell [vR 42, vI x, vI y] M1 (fun z9 M2 => z9 = some (vI (o_cell S x y).1) ∧ AT M S M2) := by
  obtain ⟨⟨n, k, sz, ce⟩, ⟨h, hs⟩, im, len, tx⟩ := S
  exact CT.mono (fun z9 M2 hh => ⟨hh.1, hh.2.1, fun a ha => (hh.2.2 a ha).trans (hA.2 a ha)⟩) (x_cell hA.1 hx hy)
theorem z_count {M M1 : Mem} {S : ST} (hA : AT M S M1) {x : Int} (hx : -2147483648 ≤ x ∧ x < 2147483648) {y : Int} (hy : -2147483648 ≤ y ∧ y < 2147483648) : CT 40 m_X7_count [vR 42, vI x, vI y] M1 (fun z9 M2 => z9 = some (vI (o_count S x y).1) ∧ AT M S M2) := by
  obtain ⟨⟨n, k, sz, ce⟩, ⟨h, hs⟩, im, len, tx⟩ := S
  exact CT.mono (fun z9 M2 hh => ⟨hh.1, hh.2.1, fun a ha => (hh.2.2 a ha).trans (hA.2 a ha)⟩) (x_count hA.1 hx hy)
theorem z_audit {M M1 : Mem} {S : ST} (hA : AT M S M1) {x : Int} (hx : -2147483648 ≤ x ∧ x < 2147483648) {y : Int} (hy : -2147483648 ≤ y ∧ y < 2147483648) : CT 40 m_X7_audit [vR 42, vI x, vI y] M1 (fun z9 M2 => z9 = some (vI (o_audit S x y).1) ∧ AT M S M2) := by
  obtain ⟨⟨n, k, sz, ce⟩, ⟨h, hs⟩, im, len, tx⟩ := S
  exact CT.mono (fun z9 M2 hh => ⟨hh.1, hh.2.1, fun a ha => (hh.2.2 a ha).trans (hA.2 a ha)⟩) (x_audit hA.1 hx hy)
theorem z_pairs {M M1 : Mem} {S : ST} (hA : AT M S M1) {x : Int} (hx : -2147483648 ≤ x ∧ x < 2147483648) : CT 40 m_X7_pairs [vR 42, vI x] M1 (fun z9 M2 => z9 = some (vI (o_pairs S x).1) ∧ AT M S M2) := by
  obtain ⟨⟨n, k, sz, ce⟩, ⟨h, hs⟩, im, len, tx⟩ := S
  exact CT.mono (fun z9 M2 hh => ⟨hh.1, hh.2.1, fun a ha => (hh.2.2 a ha).trans (hA.2 a ha)⟩) (x_pairs hA.1 hx)
theorem z_extension {M M1 : Mem} {S : ST} (hA : AT M S M1) {x : Int} (hx : -2147483648 ≤ x ∧ x < 2147483648) {y : Int} (hy : -2147483648 ≤ y ∧ y < 2147483648) : CT 40 m_X7_extension [vR 42, vI x, vI y] M1 (fun z9 M2 => z9 = some (vI (o_extension S x y).1) ∧ AT M S M2) := by
  obtain ⟨⟨n, k, sz, ce⟩, ⟨h, hs⟩, im, len, tx⟩ := S
  exact CT.mono (fun z9 M2 hh => ⟨hh.1, hh.2.1, fun a ha => (hh.2.2 a ha).trans (hA.2 a ha)⟩) (x_extension hA.1 hx hy)
theorem z_spare {M M1 : Mem} {S : ST} (hA : AT M S M1) {x : Int} (hx : -2147483648 ≤ x ∧ x < 2147483648) : CT 40 m_X7_spare [vR 42, vI x] M1 (fun z9 M2 => z9 = some (vI (o_spare S x).1) ∧ AT M S M2) := by
  obtain ⟨⟨n, k, sz, ce⟩, ⟨h, hs⟩, im, len, tx⟩ := S
  exact CT.mono (fun z9 M2 hh => ⟨hh.1, hh.2.1, fun a ha => (hh.2.2 a ha).trans (hA.2 a ha)⟩) (x_spare hA.1 hx)
theorem z_told0 {M M1 : Mem} {S : ST} (hA : AT M S M1) : CT 40 m_X7_told [vR 42, vI 0] M1 (fun z M2 => z = some (vI ((S.1.1 : Nat) : Int)) ∧ AT M S M2) := z_told hA ⟨by decide, by decide⟩
theorem z_told1 {M M1 : Mem} {S : ST} (hA : AT M S M1) : CT 40 m_X7_told [vR 42, vI 1] M1 (fun z M2 => z = some (vI ((S.1.2.1 : Nat) : Int)) ∧ AT M S M2) := z_told hA ⟨by decide, by decide⟩
theorem z_told2 {M M1 : Mem} {S : ST} (hA : AT M S M1) : CT 40 m_X7_told [vR 42, vI 2] M1 (fun z M2 => z = some (vI ((stF (fun b => okT S.1.1 S.1.2.1 S.1.2.2.1 S.1.2.2.2 b aT) S.1.2.1 : Nat) : Int)) ∧ AT M S M2) := z_told hA ⟨by decide, by decide⟩
theorem z_told3 {M M1 : Mem} {S : ST} (hA : AT M S M1) : CT 40 m_X7_told [vR 42, vI 3] M1 (fun z M2 => z = some (vI ((cn (isC S.1.2.2.2 S.1.2.1) S.1.1 : Nat) : Int)) ∧ AT M S M2) := z_told hA ⟨by decide, by decide⟩
theorem z_told4 {M M1 : Mem} {S : ST} (hA : AT M S M1) : CT 40 m_X7_told [vR 42, vI 4] M1 (fun z M2 => z = some (vI (bi (sch S.1.1 S.1.2.1 S.1.2.2.1 S.1.2.2.2))) ∧ AT M S M2) := z_told hA ⟨by decide, by decide⟩
theorem z_told5 {M M1 : Mem} {S : ST} (hA : AT M S M1) : CT 40 m_X7_told [vR 42, vI 5] M1 (fun z M2 => z = some (vI ((lrs S.1.2.2.1 S.1.2.1 : Nat) : Int)) ∧ AT M S M2) := z_told hA ⟨by decide, by decide⟩
theorem z_told6 {M M1 : Mem} {S : ST} (hA : AT M S M1) : CT 40 m_X7_told [vR 42, vI 6] M1 (fun z M2 => z = some (vI ((lcO S.1.2.2.1 S.1.2.1 : Nat) : Int)) ∧ AT M S M2) := z_told hA ⟨by decide, by decide⟩
set_option maxHeartbeats 4000000 in
theorem c_L_cell {M : Mem} {L k : Nat} {xs : Nat → Int} (hL : L < 100000) (hk : k < 1000) : CTs (L + 1, xs) 1 m_L_cell [vR 334, vI ((k : Nat) : Int)] M (Rt (some (vI (cvl L xs k))) M) := by
  refine CTs.ofWP (by decide +kernel) (Nat.le_of_ble_eq_true rfl) (by show L + 1 - 1 < _; omega) ?_
  show WP (L + 1, xs) 1 m_L_cell 0 [vR 334, vI ((k : Nat) : Int)] [] M (Rt (some (vI (cvl L xs k))) M)
  refine WP.iload_n dL_cell_0 rfl ?_
  refine WP.aload_n dL_cell_1 rfl ?_
  refine WP.slen dL_cell_2 ?_
  refine WP.icmp_ge (tgt := 12) dL_cell_3 (by decide) (by omega) (by omega) (fun h3 => ?_) (fun h3 => ?_)
  · skip
    refine WP.ldc (x := 747796405) dL_cell_12 w_k_L_7 (by decide) ?_
    refine WP.iload_n dL_cell_14 rfl ?_
    refine WP.iconst dL_cell_15 ?_
    refine WP.iadd dL_cell_16 ?_
    refine WP.imul dL_cell_17 ?_
    refine WP.iret dL_cell_18 rfl ?_
    exact ⟨congrArg some (congrArg vI (if_neg (by omega)).symm), rfl⟩
  · skip
    refine WP.aload_n dL_cell_6 rfl ?_
    refine WP.iload_n dL_cell_7 rfl ?_
    refine WP.sld (y := k) dL_cell_8 (by omega) (by omega) ?_
    refine WP.goto (tgt := 18) dL_cell_9 (by decide) ?_
    refine WP.iret dL_cell_18 rfl ?_
    exact ⟨congrArg some (congrArg vI (if_pos (by omega)).symm), rfl⟩
set_option maxHeartbeats 4000000 in
set_option maxRecDepth 20000 in
theorem c_L_low {M : Mem} {v n : Int} (hn : 0 < n ∧ n < 2147483648) : CT 1 m_L_low [vI v, vI n] M (Rt (some (vI (lw v n))) M) := by
  refine CT.ofWP (by decide +kernel) (Nat.le_of_ble_eq_true rfl) ?_
  show WP sc0 1 m_L_low 0 [vI v, vI n] [] M (Rt (some (vI (lw v n))) M)
  refine WP.iload_n dL_low_0 rfl ?_
  refine WP.ldc (x := 2147483647) dL_low_1 w_k_L_8 (by decide) ?_
  refine WP.iand (z := (iA v 2147483647)) dL_low_3 ((Int32.ofInt_toInt _).symm) ?_
  refine WP.iload_n dL_low_4 rfl ?_
  refine WP.irem dL_low_5 (iA_nn) (hn) ?_
  refine WP.iret dL_low_6 rfl ?_
  exact ⟨rfl, rfl⟩
theorem cn_b {set k : Nat} : cn (mk set) k + set / 2 ^ k % 2 = cn (mk set) (k + 1) := by
  by_cases h : mk set k
  · have h2 : set / 2 ^ k % 2 = 1 := h
    rw [cn_t h, h2]
  · have h2 : ¬ set / 2 ^ k % 2 = 1 := h
    rw [cn_f h]; omega
set_option maxHeartbeats 4000000 in
set_option maxRecDepth 20000 in
theorem c_L_size {M : Mem} {set : Nat} (hs : set < 128) : CT 1 m_L_size [vI ((set : Nat) : Int)] M (Rt (some (vI ((popn 12 set : Nat) : Int))) M) := by
  refine CT.ofWP (by decide +kernel) (Nat.le_of_ble_eq_true rfl) ?_
  show WP sc0 1 m_L_size 0 [vI ((set : Nat) : Int), vU, vU] [] M (Rt (some (vI ((popn 12 set : Nat) : Int))) M)
  refine WP.iconst dL_size_0 ?_
  refine WP.istore_n (lt := [vI ((set : Nat) : Int), vI (0 : Int), vU]) dL_size_1 (by decide) rfl ?_
  refine WP.iconst dL_size_2 ?_
  refine WP.istore_n (lt := [vI ((set : Nat) : Int), vI (0 : Int), vI (0 : Int)]) dL_size_3 (by decide) rfl ?_
  have L4 : ∀ (n9 : Nat) (k : Nat) (hk : k ≤ 7), 7 - k < n9 → WP sc0 1 m_L_size 4 [vI ((set : Nat) : Int), vI ((cn (mk set) k : Nat) : Int), vI ((k : Nat) : Int)] [] M (Rt (some (vI ((popn 12 set : Nat) : Int))) M) := by
    intro n9
    induction n9 with
    | zero =>
      intro k hk hm9
      exact absurd hm9 (Nat.not_lt_zero _)
    | succ n9 ih4 =>
      intro k hk hm9
      refine WP.iload_n dL_size_4 rfl ?_
      refine WP.bipush dL_size_5 (by decide) ?_
      refine WP.icmp_ge (tgt := 24) dL_size_7 (by decide) (by omega) (by omega) (fun h7 => ?_) (fun h7 => ?_)
      · skip
        refine WP.iload_n dL_size_24 rfl ?_
        refine WP.iret dL_size_25 rfl ?_
        have e7 : k = 7 := by omega
        subst e7
        exact ⟨congrArg some (congrArg vI (congrArg Int.ofNat (popn_12 (n := 7) (by decide) (by omega)).symm)), rfl⟩
      · skip
        refine WP.iload_n dL_size_10 rfl ?_
        refine WP.iload_n dL_size_11 rfl ?_
        refine WP.iload_n dL_size_12 rfl ?_
        refine WP.ishr (z := ((set / 2 ^ k : Nat) : Int)) dL_size_13 (oi_shr (by omega) (by omega)) ?_
        refine WP.iconst dL_size_14 ?_
        refine WP.iand (z := ((set / 2 ^ k % 2 : Nat) : Int)) dL_size_15 (oi_and1 (bit_lt (by omega))) ?_
        refine WP.iadd dL_size_16 ?_
        refine WP.istore_n (lt := [vI ((set : Nat) : Int), vI (((cn (mk set) k : Nat) : Int) + ((set / 2 ^ k % 2 : Nat) : Int)), vI ((k : Nat) : Int)]) dL_size_17 (by decide) rfl ?_
        refine WP.iinc (lt := [vI ((set : Nat) : Int), vI (((cn (mk set) k : Nat) : Int) + ((set / 2 ^ k % 2 : Nat) : Int)), vI (((k : Nat) : Int) + 1)]) dL_size_18 rfl (by decide) rfl ?_
        refine WP.goto (tgt := 4) dL_size_21 (by decide) ?_
        refine WP.fgt (lt := [vI ((set : Nat) : Int), vI ((cn (mk set) (k + 1) : Nat) : Int), vI (((k + 1) : Nat) : Int)]) ⟨Or.inr rfl, Or.inr (congrArg vI (by have := cn_b (set := set) (k := k); omega)), Or.inr (congrArg vI (by omega)), trivial⟩ ?_
        exact ih4 (k + 1) (by omega) (by omega)
  refine WP.fgt (lt := [vI ((set : Nat) : Int), vI ((cn (mk set) 0 : Nat) : Int), vI ((0 : Nat) : Int)]) ⟨Or.inr rfl, Or.inr (congrArg vI (rfl)), Or.inr (congrArg vI (by omega)), trivial⟩ ?_
  exact L4 _ (0) (by omega) (Nat.lt_succ_self _)
