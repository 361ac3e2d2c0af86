/-! the model: one array in the numbers of a block of 261 -/
theorem WP.wrap {x y : Int} {sc : Nat × (Nat → Int)} {d pc : Nat} {mt : Mth} {ls st : List V} {M : Mem} {Q : Option V → Mem → Prop} (h : Int32.ofInt x = Int32.ofInt y) (k : WP sc d mt pc ls (vI y :: st) M Q) : WP sc d mt pc ls (vI x :: st) M Q := by
  intro p l e R s m args below meth c E A H locs cells slots Z lsR F hP hS hl hr
  have h9 : (vI x :: st).map (rl E) = (vI y :: st).map (rl E) := by
    show Value.int (Int32.ofInt x) :: _ = Value.int (Int32.ofInt y) :: _
    rw [h]
  rw [h9]
  exact k p l e R s m args below meth c E A H locs cells slots Z lsR F hP hS hl hr
def BX (g : Nat → Int) (n k : Nat) (sz : Nat → Nat) (ce : Nat → Nat → Nat) : Prop := g 0 = (n : Int) ∧ g 1 = (k : Int) ∧ (∀ c, c < k → g (2 + c) = (sz c : Int)) ∧ ∀ r, r < n → ∀ c, c < k → g (9 + 7 * r + c) = (ce r c : Int)
def BA (g : Nat → Int) (A : AR) : Prop := BX g A.1 A.2.1 A.2.2.1 A.2.2.2 ∧ Wf A.1 A.2.1 A.2.2.1 A.2.2.2
theorem BX.cg {g : Nat → Int} {n k : Nat} {sz sz' : Nat → Nat} {ce ce' : Nat → Nat → Nat} (h : BX g n k sz ce) (h1 : ∀ c, c < k → sz c = sz' c) (h2 : ∀ r, r < n → ∀ c, c < k → ce r c = ce' r c) : BX g n k sz' ce' :=
  ⟨h.1, h.2.1, fun c hc => by rw [← h1 c hc]; exact h.2.2.1 c hc, fun r hr c hc => by rw [← h2 r hr c hc]; exact h.2.2.2 r hr c hc⟩
theorem BX.mv {g g' : Nat → Int} {n k : Nat} {sz : Nat → Nat} {ce : Nat → Nat → Nat} (h : BX g n k sz ce) (hn : n ≤ 36) (hk : k ≤ 7) (hg : ∀ j, j < 261 → g' j = g j) : BX g' n k sz ce :=
  ⟨by rw [hg _ (by omega)]; exact h.1, by rw [hg _ (by omega)]; exact h.2.1, fun c hc => by rw [hg _ (by omega)]; exact h.2.2.1 c hc, fun r hr c hc => by rw [hg _ (by omega)]; exact h.2.2.2 r hr c hc⟩
theorem BA.mv {g g' : Nat → Int} {A : AR} (h : BA g A) (hg : ∀ j, j < 261 → g' j = g j) : BA g' A := ⟨h.1.mv h.2.1 h.2.2.1 hg, h.2⟩
def HM (M : Mem) (h : Nat) (hs : Nat → AR) : Prop := h ≤ 8 ∧ M 167 2 = (h : Int) ∧ ∀ i, i < h → BA (fun j => M 169 (261 * i + j)) (hs i)
def IMm (M : Mem) (im : Nat → Option AR) : Prop := ∃ f : Nat, f < 4 ∧ M 167 4 = (f : Int) ∧ ∀ i, i < 2 → (im i = none → f / 2 ^ i % 2 = 0) ∧ ∀ B, im i = some B → f / 2 ^ i % 2 = 1 ∧ BA (fun j => M 170 (261 * i + j)) B
def SM (M : Mem) (len : Nat) (tx : Nat → Nat) : Prop := len ≤ 300 ∧ M 167 6 = (len : Int) ∧ ∀ j, j < len → M 171 j = (tx j : Int) ∧ 32 ≤ tx j ∧ tx j ≤ 126
def InvM (M : Mem) (S : ST) : Prop := BA (M 168) S.1 ∧ HM M S.2.1.1 S.2.1.2 ∧ IMm M S.2.2.1 ∧ SM M S.2.2.2.1 S.2.2.2.2
/-- a call's outcome on the model's side -/
def PM (M : Mem) (q : Int × ST) : Option V → Mem → Prop := fun z M' => z = some (vI q.1) ∧ InvM M' q.2 ∧ ∀ a, a < 167 → M' a = M a
def RM (M M' : Mem) (h : Nat) (hs : Nat → AR) (A : AR) : Prop := (∀ a, a ≠ 167 → a ≠ 169 → M' a = M a) ∧ (∀ j, j ≠ 2 → M' 167 j = M 167 j) ∧ HM M' (hpush h hs A).1 (hpush h hs A).2
theorem InvM.ch {M M1 M2 : Mem} {n k h len : Nat} {sz tx : Nat → Nat} {ce : Nat → Nat → Nat} {hs : Nat → AR} {im : Nat → Option AR} {A' : AR} (hI : InvM M (mkS n k sz ce h hs im len tx)) (h1 : RM M M1 h hs (n, k, sz, ce)) (h2 : ∀ a, a ≠ 168 → M2 a = M1 a) (h3 : BA (M2 168) A') : InvM M2 (chg (mkS n k sz ce h hs im len tx) A') := by
  obtain ⟨a1, a2, ⟨f, f1, f2, f3⟩, a4⟩ := hI
  obtain ⟨r1, r2, r3⟩ := h1
  refine ⟨h3, ⟨r3.1, by rw [h2 _ (by decide)]; exact r3.2.1, fun i hi => by rw [h2 _ (by decide)]; exact r3.2.2 i hi⟩, ⟨f, f1, by rw [h2 _ (by decide), r2 4 (by decide)]; exact f2, fun i hi => ?_⟩, ⟨a4.1, by rw [h2 _ (by decide), r2 6 (by decide)]; exact a4.2.1, fun j hj => by rw [h2 _ (by decide), r1 171 (by decide) (by decide)]; exact a4.2.2 j hj⟩⟩
  rw [h2 170 (by decide), r1 170 (by decide) (by decide)]
  exact f3 i hi
theorem PM.ch {M M1 M2 : Mem} {n k h len : Nat} {sz tx : Nat → Nat} {ce : Nat → Nat → Nat} {hs : Nat → AR} {im : Nat → Option AR} {A' : AR} {q : Int × ST} {x : Int} (hq : q = (x, chg (mkS n k sz ce h hs im len tx) A')) (hI : InvM M (mkS n k sz ce h hs im len tx)) (h1 : RM M M1 h hs (n, k, sz, ce)) (h2 : ∀ a, a ≠ 168 → M2 a = M1 a) (h3 : BX (M2 168) A'.1 A'.2.1 A'.2.2.1 A'.2.2.2) (h4 : Wf A'.1 A'.2.1 A'.2.2.1 A'.2.2.2) : PM M q (some (vI x)) M2 := by
  subst hq
  exact ⟨rfl, hI.ch h1 h2 ⟨h3, h4⟩, fun a ha => by rw [h2 a (by omega), h1.1 a (by omega) (by omega)]⟩
/-- a call that works in the scratch cells alone -/
theorem InvM.cs {M M' : Mem} {S : ST} (hI : InvM M S) (h : ∀ a, 168 ≤ a → a < 172 → M' a = M a) (h7 : ∀ j, j ≠ 8 → j ≠ 9 → M' 167 j = M 167 j) : InvM M' S := by
  obtain ⟨a1, a2, ⟨f, f1, f2, f3⟩, a4⟩ := hI
  refine ⟨by rw [h 168 (by decide) (by decide)]; exact a1, ⟨a2.1, by rw [h7 2 (by decide) (by decide)]; exact a2.2.1, fun i hi => by rw [h 169 (by decide) (by decide)]; exact a2.2.2 i hi⟩, ⟨f, f1, by rw [h7 4 (by decide) (by decide)]; exact f2, fun i hi => by rw [h 170 (by decide) (by decide)]; exact f3 i hi⟩, ⟨a4.1, by rw [h7 6 (by decide) (by decide)]; exact a4.2.1, fun j hj => by rw [h 171 (by decide) (by decide)]; exact a4.2.2 j hj⟩⟩
theorem PM.cs {M M' : Mem} {S : ST} {q : Int × ST} {x : Int} (hq : q = (x, S)) (hI : InvM M S) (h : ∀ a, a < 172 → a ≠ 167 → M' a = M a) (h7 : ∀ j, j ≠ 8 → j ≠ 9 → M' 167 j = M 167 j) : PM M q (some (vI x)) M' := by
  subst hq
  exact ⟨rfl, hI.cs (fun a _ h2 => h a h2 (by omega)) h7, fun a ha => h a (by omega) (by omega)⟩
theorem PM.same {M : Mem} {S : ST} {q : Int × ST} {x : Int} (hq : q = (x, S)) (hI : InvM M S) : PM M q (some (vI x)) M := by
  subst hq
  exact ⟨rfl, hI, fun _ _ => rfl⟩
set_option maxHeartbeats 4000000 in
set_option maxRecDepth 20000 in
theorem w_isIn {M : Mem} {x y z : Int} (hx : -2147483648 ≤ x ∧ x < 2147483648) (hy : -2147483648 ≤ y ∧ y < 2147483648) (hz : -2147483648 ≤ z ∧ z < 2147483648) : CT 1 m_X8_isIn [vI x, vI y, vI z] M (Rt (some (vI (bi (y ≤ x ∧ x ≤ z)))) M) := by
  refine CT.ofWP (by decide +kernel) (Nat.le_of_ble_eq_true rfl) ?_
  show WP sc0 1 m_X8_isIn 0 [vI x, vI y, vI z] [] M (Rt (some (vI (bi (y ≤ x ∧ x ≤ z)))) M)
  refine WP.iload_n dX8_isIn_0 rfl ?_
  refine WP.iload_n dX8_isIn_1 rfl ?_
  refine WP.icmp_lt (tgt := 14) dX8_isIn_2 (by decide) (hx) (hy) (fun h2 => ?_) (fun h2 => ?_)
  · skip
    refine WP.iconst dX8_isIn_14 ?_
    refine WP.zret dX8_isIn_15 rfl (by decide) ?_
    exact ⟨congrArg some (congrArg vI (bi_f (fun z => by omega)).symm), rfl⟩
  · skip
    refine WP.iload_n dX8_isIn_5 rfl ?_
    refine WP.iload_n dX8_isIn_6 rfl ?_
    refine WP.icmp_gt (tgt := 14) dX8_isIn_7 (by decide) (hx) (hz) (fun h7 => ?_) (fun h7 => ?_)
    · skip
      refine WP.iconst dX8_isIn_14 ?_
      refine WP.zret dX8_isIn_15 rfl (by decide) ?_
      exact ⟨congrArg some (congrArg vI (bi_f (fun z => by omega)).symm), rfl⟩
    · skip
      refine WP.iconst dX8_isIn_10 ?_
      refine WP.goto (tgt := 15) dX8_isIn_11 (by decide) ?_
      refine WP.zret dX8_isIn_15 rfl (by decide) ?_
      exact ⟨congrArg some (congrArg vI (bi_t ⟨by omega, by omega⟩).symm), rfl⟩
set_option maxHeartbeats 4000000 in
set_option maxRecDepth 20000 in
theorem w_isRow {M : Mem} {n k : Nat} {sz : Nat → Nat} {ce : Nat → Nat → Nat} (hA : BX (M 168) n k sz ce) (hW : Wf n k sz ce) {x : Int} (hx : -2147483648 ≤ x ∧ x < 2147483648) : CT 2 m_X8_isRow [vR 167, vI x] M (Rt (some (vI (bi (0 ≤ x ∧ x < ((n : Nat) : Int))))) M) := by
  have b1 := hW.1
  have b2 := hW.2.1
  refine CT.ofWP (by decide +kernel) (Nat.le_of_ble_eq_true rfl) ?_
  show WP sc0 2 m_X8_isRow 0 [vR 167, vI x] [] M (Rt (some (vI (bi (0 ≤ x ∧ x < ((n : Nat) : Int))))) M)
  refine WP.iload_n dX8_isRow_0 rfl ?_
  refine WP.iconst dX8_isRow_1 ?_
  refine WP.aload_n dX8_isRow_2 rfl ?_
  refine WP.getR (y := 168) dX8_isRow_3 fl_X8_7 (rfl) (by decide) (rfl) ?_
  refine WP.iconst dX8_isRow_6 ?_
  refine WP.iaload (y := 0) (x := ((n : Nat) : Int)) dX8_isRow_7 (rfl) (by omega) (by omega) (hA.1) ?_
  refine WP.iconst dX8_isRow_8 ?_
  refine WP.isub dX8_isRow_9 ?_
  refine WP.callSp (as := [vI x, vI (0 : Int), vI (((n : Nat) : Int) - (1 : Int))]) dX8_isRow_10 ms_X8_43 rfl (w_isIn hx (by omega) (by omega)) rfl (Nat.le_of_ble_eq_true rfl) (by omega) ?_
  refine WP.zret dX8_isRow_13 rfl (bi_01) ?_
  exact ⟨congrArg some (congrArg vI (bi_cg ⟨fun _ => by omega, fun _ => by omega⟩)), rfl⟩
set_option maxHeartbeats 4000000 in
set_option maxRecDepth 20000 in
theorem w_isColumn {M : Mem} {n k : Nat} {sz : Nat → Nat} {ce : Nat → Nat → Nat} (hA : BX (M 168) n k sz ce) (hW : Wf n k sz ce) {x : Int} (hx : -2147483648 ≤ x ∧ x < 2147483648) : CT 2 m_X8_isColumn [vR 167, vI x] M (Rt (some (vI (bi (0 ≤ x ∧ x < ((k : Nat) : Int))))) M) := by
  have b1 := hW.1
  have b2 := hW.2.1
  refine CT.ofWP (by decide +kernel) (Nat.le_of_ble_eq_true rfl) ?_
  show WP sc0 2 m_X8_isColumn 0 [vR 167, vI x] [] M (Rt (some (vI (bi (0 ≤ x ∧ x < ((k : Nat) : Int))))) M)
  refine WP.iload_n dX8_isColumn_0 rfl ?_
  refine WP.iconst dX8_isColumn_1 ?_
  refine WP.aload_n dX8_isColumn_2 rfl ?_
  refine WP.getR (y := 168) dX8_isColumn_3 fl_X8_7 (rfl) (by decide) (rfl) ?_
  refine WP.iconst dX8_isColumn_6 ?_
  refine WP.iaload (y := 1) (x := ((k : Nat) : Int)) dX8_isColumn_7 (rfl) (by omega) (by omega) (hA.2.1) ?_
  refine WP.iconst dX8_isColumn_8 ?_
  refine WP.isub dX8_isColumn_9 ?_
  refine WP.callSp (as := [vI x, vI (0 : Int), vI (((k : Nat) : Int) - (1 : Int))]) dX8_isColumn_10 ms_X8_43 rfl (w_isIn hx (by omega) (by omega)) rfl (Nat.le_of_ble_eq_true rfl) (by omega) ?_
  refine WP.zret dX8_isColumn_13 rfl (bi_01) ?_
  exact ⟨congrArg some (congrArg vI (bi_cg ⟨fun _ => by omega, fun _ => by omega⟩)), rfl⟩
set_option maxHeartbeats 4000000 in
set_option maxRecDepth 20000 in
theorem w_isLevels {M : Mem} {x : Int} (hx : -2147483648 ≤ x ∧ x < 2147483648) : CT 2 m_X8_isLevels [vI x] M (Rt (some (vI (bi (2 ≤ x ∧ x ≤ 6)))) M) := by
  refine CT.ofWP (by decide +kernel) (Nat.le_of_ble_eq_true rfl) ?_
  show WP sc0 2 m_X8_isLevels 0 [vI x] [] M (Rt (some (vI (bi (2 ≤ x ∧ x ≤ 6)))) M)
  refine WP.iload_n dX8_isLevels_0 rfl ?_
  refine WP.iconst dX8_isLevels_1 ?_
  refine WP.bipush dX8_isLevels_2 (by decide) ?_
  refine WP.callSp (as := [vI x, vI (2 : Int), vI (6 : Int)]) dX8_isLevels_4 ms_X8_43 rfl (w_isIn hx (by omega) (by omega)) rfl (Nat.le_of_ble_eq_true rfl) (by omega) ?_
  refine WP.zret dX8_isLevels_7 rfl (bi_01) ?_
  exact ⟨congrArg some (congrArg vI (bi_cg ⟨fun _ => by omega, fun _ => by omega⟩)), rfl⟩
set_option maxHeartbeats 4000000 in
set_option maxRecDepth 20000 in
theorem w_isImage {M : Mem} {x : Int} (hx : -2147483648 ≤ x ∧ x < 2147483648) : CT 2 m_X8_isImage [vI x] M (Rt (some (vI (bi (0 ≤ x ∧ x < 2)))) M) := by
  refine CT.ofWP (by decide +kernel) (Nat.le_of_ble_eq_true rfl) ?_
  show WP sc0 2 m_X8_isImage 0 [vI x] [] M (Rt (some (vI (bi (0 ≤ x ∧ x < 2)))) M)
  refine WP.iload_n dX8_isImage_0 rfl ?_
  refine WP.iconst dX8_isImage_1 ?_
  refine WP.iconst dX8_isImage_2 ?_
  refine WP.callSp (as := [vI x, vI (0 : Int), vI (1 : Int)]) dX8_isImage_3 ms_X8_43 rfl (w_isIn hx (by omega) (by omega)) rfl (Nat.le_of_ble_eq_true rfl) (by omega) ?_
  refine WP.zret dX8_isImage_6 rfl (bi_01) ?_
  exact ⟨congrArg some (congrArg vI (bi_cg ⟨fun _ => by omega, fun _ => by omega⟩)), rfl⟩
set_option maxHeartbeats 4000000 in
set_option maxRecDepth 20000 in
theorem w_at {M : Mem} {r c : Nat} {x : Int} (hr : r < 36) (hc : c < 7) (hM : M 168 (9 + 7 * r + c) = x) : CT 1 m_X8_at [vR 167, vI ((r : Nat) : Int), vI ((c : Nat) : Int)] M (Rt (some (vI x)) M) := by
  refine CT.ofWP (by decide +kernel) (Nat.le_of_ble_eq_true rfl) ?_
  show WP sc0 1 m_X8_at 0 [vR 167, vI ((r : Nat) : Int), vI ((c : Nat) : Int)] [] M (Rt (some (vI x)) M)
  refine WP.aload_n dX8_at_0 rfl ?_
  refine WP.getR (y := 168) dX8_at_1 fl_X8_7 (rfl) (by decide) (rfl) ?_
  refine WP.bipush dX8_at_4 (by decide) ?_
  refine WP.bipush dX8_at_6 (by decide) ?_
  refine WP.iload_n dX8_at_8 rfl ?_
  refine WP.imul dX8_at_9 ?_
  refine WP.iadd dX8_at_10 ?_
  refine WP.iload_n dX8_at_11 rfl ?_
  refine WP.iadd dX8_at_12 ?_
  refine WP.iaload (y := (9 + 7 * r + c)) (x := x) dX8_at_13 (rfl) (by omega) (by omega) (hM) ?_
  refine WP.iret dX8_at_14 rfl ?_
  exact ⟨rfl, rfl⟩
set_option maxHeartbeats 4000000 in
set_option maxRecDepth 20000 in
theorem w_set {M : Mem} {r c : Nat} {x : Int} (hr : r < 36) (hc : c < 7) : CT 1 m_X8_set [vR 167, vI ((r : Nat) : Int), vI ((c : Nat) : Int), vI x] M (fun z M' => z = none ∧ (∀ a, a ≠ 168 → M' a = M a) ∧ M' 168 (9 + 7 * r + c) = x ∧ ∀ j, j ≠ 9 + 7 * r + c → M' 168 j = M 168 j) := by
  refine CT.ofWP (by decide +kernel) (Nat.le_of_ble_eq_true rfl) ?_
  show WP sc0 1 m_X8_set 0 [vR 167, vI ((r : Nat) : Int), vI ((c : Nat) : Int), vI x] [] M (fun z M' => z = none ∧ (∀ a, a ≠ 168 → M' a = M a) ∧ M' 168 (9 + 7 * r + c) = x ∧ ∀ j, j ≠ 9 + 7 * r + c → M' 168 j = M 168 j)
  refine WP.aload_n dX8_set_0 rfl ?_
  refine WP.getR (y := 168) dX8_set_1 fl_X8_7 (rfl) (by decide) (rfl) ?_
  refine WP.bipush dX8_set_4 (by decide) ?_
  refine WP.bipush dX8_set_6 (by decide) ?_
  refine WP.iload_n dX8_set_8 rfl ?_
  refine WP.imul dX8_set_9 ?_
  refine WP.iadd dX8_set_10 ?_
  refine WP.iload_n dX8_set_11 rfl ?_
  refine WP.iadd dX8_set_12 ?_
  refine WP.iload_n dX8_set_13 rfl ?_
  refine WP.iastore (y := (9 + 7 * r + c)) dX8_set_14 (rfl) (by omega) (by omega) rfl ?_
  refine WP.vret dX8_set_15 rfl ?_
  exact ⟨rfl, fun a ha => mset_o a ha, mset_s .., fun j hj => mset_n (Or.inr hj)⟩
set_option maxHeartbeats 4000000 in
set_option maxRecDepth 20000 in
theorem w_remember {M : Mem} {h : Nat} {hs : Nat → AR} {A : AR} (hH : HM M h hs) (hA : BA (M 168) A) : CT 1 m_X8_remember [vR 167] M (fun z M' => z = none ∧ RM M M' h hs A) := by
  have hh8 := hH.1
  refine CT.ofWP (by decide +kernel) (Nat.le_of_ble_eq_true rfl) ?_
  show WP sc0 1 m_X8_remember 0 [vR 167, vU] [] M (fun z M' => z = none ∧ RM M M' h hs A)
  refine WP.aload_n dX8_remember_0 rfl ?_
  refine WP.getI (x := ((h : Nat) : Int)) dX8_remember_1 fl_X8_47 (rfl) (by decide) (hH.2.1) ?_
  refine WP.bipush dX8_remember_4 (by decide) ?_
  refine WP.icmp_ne (tgt := 50) dX8_remember_6 (by decide) (by omega) (by omega) (fun h6 => ?_) (fun h6 => ?_)
  · skip
    obtain ⟨M5, hM5⟩ : ∃ z, z = M := ⟨_, rfl⟩
    refine WP.eqM hM5.symm ?_
    obtain ⟨p, hpd⟩ : ∃ p, p = h := ⟨_, rfl⟩
    have hF5 : ∀ a, a ≠ 167 → a ≠ 169 → M5 a = M a := fun a _ _ => by rw [hM5]
    have hG5 : ∀ j, j ≠ 2 → M5 167 j = M 167 j := fun j _ => by rw [hM5]
    have hp5 : M5 167 2 = (p : Int) := by rw [hM5, hpd]; exact hH.2.1
    have hp7 : p ≤ 7 := by omega
    obtain ⟨hs5, hE5, hB5⟩ : ∃ hs5 : Nat → AR, hpush h hs A = (p + 1, fun j => if j = p then A else hs5 j) ∧ ∀ i, i < p → BA (fun j => M5 169 (261 * i + j)) (hs5 i) := ⟨hs, by rw [hpd]; exact if_neg (by omega), fun i hi => by rw [hM5]; exact hH.2.2 i (by omega)⟩
    refine WP.iconst dX8_remember_50 ?_
    refine WP.istore_n (lt := [vR 167, vI (0 : Int)]) dX8_remember_51 (by decide) rfl ?_
    have L52 : ∀ (n9 : Nat) (i : Nat) (M6 : Mem) (hi : i ≤ 261) (hF6 : ∀ a, a ≠ 169 → M6 a = M5 a) (hA6 : ∀ j, j < i → M6 169 (261 * p + j) = M 168 j) (hB6 : ∀ j, j < 261 * p → M6 169 j = M5 169 j), 261 - i < n9 → WP sc0 1 m_X8_remember 52 [vR 167, vI ((i : Nat) : Int)] [] M6 (fun z M' => z = none ∧ RM M M' h hs A) := by
      intro n9
      induction n9 with
      | zero =>
        intro i M6 hi hF6 hA6 hB6 hm9
        exact absurd hm9 (Nat.not_lt_zero _)
      | succ n9 ih52 =>
        intro i M6 hi hF6 hA6 hB6 hm9
        refine WP.iload_n dX8_remember_52 rfl ?_
        refine WP.sipush dX8_remember_53 (by decide) ?_
        refine WP.icmp_ge (tgt := 86) dX8_remember_56 (by decide) (by omega) (by omega) (fun h56 => ?_) (fun h56 => ?_)
        · skip
          refine WP.aload_n dX8_remember_86 rfl ?_
          refine WP.dup dX8_remember_87 rfl ?_
          refine WP.getI (x := ((p : Nat) : Int)) dX8_remember_88 fl_X8_47 (rfl) (by decide) (by rw [hF6 167 (by decide)]; exact hp5) ?_
          refine WP.iconst dX8_remember_91 ?_
          refine WP.iadd dX8_remember_92 ?_
          refine WP.putI dX8_remember_93 fl_X8_47 (rfl) (by decide) rfl ?_
          obtain ⟨M8, hM8⟩ : ∃ z, z = (mset M6 167 2 (((p : Nat) : Int) + (1 : Int))) := ⟨_, rfl⟩
          refine WP.eqM hM8.symm ?_
          refine WP.vret dX8_remember_96 rfl ?_
          refine ⟨rfl, fun a i1 i2 => by rw [hM8, mset_o a i1, hF6 a i2, hF5 a i1 i2], fun j hj => by rw [hM8, mset_n (Or.inr hj), hF6 167 (by decide)]; exact hG5 j hj, ?_⟩
          rw [hE5]
          refine ⟨(show p + 1 ≤ 8 by omega), by rw [hM8, mset_s]; show _ = ((p + 1 : Nat) : Int); omega, fun j hj => ?_⟩
          have hj' : j < p + 1 := hj
          show BA _ (if j = p then A else hs5 j)
          by_cases e9 : j = p
          · rw [if_pos e9, e9]
            exact hA.mv (fun q hq => by
              show M8 169 _ = M 168 q
              rw [hM8, mset_o 169 (by decide)]; exact hA6 q (by omega))
          · rw [if_neg e9]
            exact (hB5 j (by omega)).mv (fun q hq => by
              show M8 169 _ = M5 169 _
              rw [hM8, mset_o 169 (by decide)]; exact hB6 _ (by omega))
        · skip
          refine WP.aload_n dX8_remember_59 rfl ?_
          refine WP.getR (y := 169) dX8_remember_60 fl_X8_13 (rfl) (by decide) (rfl) ?_
          refine WP.sipush dX8_remember_63 (by decide) ?_
          refine WP.aload_n dX8_remember_66 rfl ?_
          refine WP.getI (x := ((p : Nat) : Int)) dX8_remember_67 fl_X8_47 (rfl) (by decide) (by rw [hF6 167 (by decide)]; exact hp5) ?_
          refine WP.imul dX8_remember_70 ?_
          refine WP.iload_n dX8_remember_71 rfl ?_
          refine WP.iadd dX8_remember_72 ?_
          refine WP.aload_n dX8_remember_73 rfl ?_
          refine WP.getR (y := 168) dX8_remember_74 fl_X8_7 (rfl) (by decide) (rfl) ?_
          refine WP.iload_n dX8_remember_77 rfl ?_
          refine WP.iaload (y := i) (x := (M 168 i)) dX8_remember_78 (rfl) (by omega) (by omega) (by rw [hF6 168 (by decide), hF5 168 (by decide) (by decide)]) ?_
          refine WP.iastore (y := (261 * p + i)) dX8_remember_79 (rfl) (by omega) (by omega) rfl ?_
          obtain ⟨M7, hM7⟩ : ∃ z, z = (mset M6 169 ((261 * p + i)) (M 168 i)) := ⟨_, rfl⟩
          refine WP.eqM hM7.symm ?_
          refine WP.iinc (lt := [vR 167, vI (((i : Nat) : Int) + 1)]) dX8_remember_80 rfl (by decide) rfl ?_
          refine WP.goto (tgt := 52) dX8_remember_83 (by decide) ?_
          refine WP.fgt (lt := [vR 167, vI (((i + 1) : Nat) : Int)]) ⟨Or.inr rfl, Or.inr (congrArg vI (by omega)), trivial⟩ ?_
          exact ih52 (i + 1) (M7) (by omega) (fun a ha => by rw [hM7, mset_o a ha]; exact hF6 a ha) (fun j hj => by
            rw [hM7]
            by_cases e9 : j = i
            · rw [e9, mset_s]
            · rw [mset_n (Or.inr (by omega))]; exact hA6 j (by omega)) (fun j hj => by rw [hM7, mset_n (Or.inr (by omega))]; exact hB6 j hj) (by omega)
    refine WP.fgt (lt := [vR 167, vI ((0 : Nat) : Int)]) ⟨Or.inr rfl, Or.inr (congrArg vI (by omega)), trivial⟩ ?_
    exact L52 _ (0) (M5) (by omega) (fun _ _ => rfl) (fun j hj => absurd hj (Nat.not_lt_zero j)) (fun _ _ => rfl) (Nat.lt_succ_self _)
  · skip
    refine WP.iconst dX8_remember_9 ?_
    refine WP.istore_n (lt := [vR 167, vI (0 : Int)]) dX8_remember_10 (by decide) rfl ?_
    have L11 : ∀ (n9 : Nat) (j : Nat) (M1 : Mem) (hj : j ≤ 1827) (hF1 : ∀ a, a ≠ 169 → M1 a = M a) (hA1 : ∀ i, i < j → M1 169 i = M 169 (i + 261)) (hB1 : ∀ i, j ≤ i → M1 169 i = M 169 i), 1827 - j < n9 → WP sc0 1 m_X8_remember 11 [vR 167, vI ((j : Nat) : Int)] [] M1 (fun z M' => z = none ∧ RM M M' h hs A) := by
      intro n9
      induction n9 with
      | zero =>
        intro j M1 hj hF1 hA1 hB1 hm9
        exact absurd hm9 (Nat.not_lt_zero _)
      | succ n9 ih11 =>
        intro j M1 hj hF1 hA1 hB1 hm9
        refine WP.iload_n dX8_remember_11 rfl ?_
        refine WP.sipush dX8_remember_12 (by decide) ?_
        refine WP.icmp_ge (tgt := 40) dX8_remember_15 (by decide) (by omega) (by omega) (fun h15 => ?_) (fun h15 => ?_)
        · skip
          refine WP.aload_n dX8_remember_40 rfl ?_
          refine WP.dup dX8_remember_41 rfl ?_
          refine WP.getI (x := ((h : Nat) : Int)) dX8_remember_42 fl_X8_47 (rfl) (by decide) (by rw [hF1 167 (by decide)]; exact hH.2.1) ?_
          refine WP.iconst dX8_remember_45 ?_
          refine WP.isub dX8_remember_46 ?_
          refine WP.putI dX8_remember_47 fl_X8_47 (rfl) (by decide) rfl ?_
          obtain ⟨M5, hM5⟩ : ∃ z, z = (mset M1 167 2 (((h : Nat) : Int) - (1 : Int))) := ⟨_, rfl⟩
          refine WP.eqM hM5.symm ?_
          obtain ⟨p, hpd⟩ : ∃ p, p = 7 := ⟨_, rfl⟩
          have hF5 : ∀ a, a ≠ 167 → a ≠ 169 → M5 a = M a := fun a i1 i2 => by rw [hM5, mset_o a i1]; exact hF1 a i2
          have hG5 : ∀ j, j ≠ 2 → M5 167 j = M 167 j := fun j hj => by rw [hM5, mset_n (Or.inr hj), hF1 167 (by decide)]
          have hp5 : M5 167 2 = (p : Int) := by rw [hM5, mset_s]; omega
          have hp7 : p ≤ 7 := by omega
          obtain ⟨hs5, hE5, hB5⟩ : ∃ hs5 : Nat → AR, hpush h hs A = (p + 1, fun j => if j = p then A else hs5 j) ∧ ∀ i, i < p → BA (fun j => M5 169 (261 * i + j)) (hs5 i) := ⟨fun i => hs (i + 1), by rw [hpd]; exact if_pos (by omega), fun i hi => (hH.2.2 (i + 1) (by omega)).mv (fun j9 hj9 => by
            show M5 169 _ = M 169 _
            rw [hM5, mset_o 169 (by decide), hA1 _ (by omega)]; congr 1; omega)⟩
          refine WP.iconst dX8_remember_50 ?_
          refine WP.istore_n (lt := [vR 167, vI (0 : Int)]) dX8_remember_51 (by decide) rfl ?_
          have L52 : ∀ (n9 : Nat) (i : Nat) (M6 : Mem) (hi : i ≤ 261) (hF6 : ∀ a, a ≠ 169 → M6 a = M5 a) (hA6 : ∀ j, j < i → M6 169 (261 * p + j) = M 168 j) (hB6 : ∀ j, j < 261 * p → M6 169 j = M5 169 j), 261 - i < n9 → WP sc0 1 m_X8_remember 52 [vR 167, vI ((i : Nat) : Int)] [] M6 (fun z M' => z = none ∧ RM M M' h hs A) := by
            intro n9
            induction n9 with
            | zero =>
              intro i M6 hi hF6 hA6 hB6 hm9
              exact absurd hm9 (Nat.not_lt_zero _)
            | succ n9 ih52 =>
              intro i M6 hi hF6 hA6 hB6 hm9
              refine WP.iload_n dX8_remember_52 rfl ?_
              refine WP.sipush dX8_remember_53 (by decide) ?_
              refine WP.icmp_ge (tgt := 86) dX8_remember_56 (by decide) (by omega) (by omega) (fun h56 => ?_) (fun h56 => ?_)
              · skip
                refine WP.aload_n dX8_remember_86 rfl ?_
                refine WP.dup dX8_remember_87 rfl ?_
                refine WP.getI (x := ((p : Nat) : Int)) dX8_remember_88 fl_X8_47 (rfl) (by decide) (by rw [hF6 167 (by decide)]; exact hp5) ?_
                refine WP.iconst dX8_remember_91 ?_
                refine WP.iadd dX8_remember_92 ?_
                refine WP.putI dX8_remember_93 fl_X8_47 (rfl) (by decide) rfl ?_
                obtain ⟨M8, hM8⟩ : ∃ z, z = (mset M6 167 2 (((p : Nat) : Int) + (1 : Int))) := ⟨_, rfl⟩
                refine WP.eqM hM8.symm ?_
                refine WP.vret dX8_remember_96 rfl ?_
                refine ⟨rfl, fun a i1 i2 => by rw [hM8, mset_o a i1, hF6 a i2, hF5 a i1 i2], fun j hj => by rw [hM8, mset_n (Or.inr hj), hF6 167 (by decide)]; exact hG5 j hj, ?_⟩
                rw [hE5]
                refine ⟨(show p + 1 ≤ 8 by omega), by rw [hM8, mset_s]; show _ = ((p + 1 : Nat) : Int); omega, fun j hj => ?_⟩
                have hj' : j < p + 1 := hj
                show BA _ (if j = p then A else hs5 j)
                by_cases e9 : j = p
                · rw [if_pos e9, e9]
                  exact hA.mv (fun q hq => by
                    show M8 169 _ = M 168 q
                    rw [hM8, mset_o 169 (by decide)]; exact hA6 q (by omega))
                · rw [if_neg e9]
                  exact (hB5 j (by omega)).mv (fun q hq => by
                    show M8 169 _ = M5 169 _
                    rw [hM8, mset_o 169 (by decide)]; exact hB6 _ (by omega))
              · skip
                refine WP.aload_n dX8_remember_59 rfl ?_
                refine WP.getR (y := 169) dX8_remember_60 fl_X8_13 (rfl) (by decide) (rfl) ?_
                refine WP.sipush dX8_remember_63 (by decide) ?_
                refine WP.aload_n dX8_remember_66 rfl ?_
                refine WP.getI (x := ((p : Nat) : Int)) dX8_remember_67 fl_X8_47 (rfl) (by decide) (by rw [hF6 167 (by decide)]; exact hp5) ?_
                refine WP.imul dX8_remember_70 ?_
                refine WP.iload_n dX8_remember_71 rfl ?_
                refine WP.iadd dX8_remember_72 ?_
                refine WP.aload_n dX8_remember_73 rfl ?_
                refine WP.getR (y := 168) dX8_remember_74 fl_X8_7 (rfl) (by decide) (rfl) ?_
                refine WP.iload_n dX8_remember_77 rfl ?_
                refine WP.iaload (y := i) (x := (M 168 i)) dX8_remember_78 (rfl) (by omega) (by omega) (by rw [hF6 168 (by decide), hF5 168 (by decide) (by decide)]) ?_
                refine WP.iastore (y := (261 * p + i)) dX8_remember_79 (rfl) (by omega) (by omega) rfl ?_
                obtain ⟨M7, hM7⟩ : ∃ z, z = (mset M6 169 ((261 * p + i)) (M 168 i)) := ⟨_, rfl⟩
                refine WP.eqM hM7.symm ?_
                refine WP.iinc (lt := [vR 167, vI (((i : Nat) : Int) + 1)]) dX8_remember_80 rfl (by decide) rfl ?_
                refine WP.goto (tgt := 52) dX8_remember_83 (by decide) ?_
                refine WP.fgt (lt := [vR 167, vI (((i + 1) : Nat) : Int)]) ⟨Or.inr rfl, Or.inr (congrArg vI (by omega)), trivial⟩ ?_
                exact ih52 (i + 1) (M7) (by omega) (fun a ha => by rw [hM7, mset_o a ha]; exact hF6 a ha) (fun j hj => by
                  rw [hM7]
                  by_cases e9 : j = i
                  · rw [e9, mset_s]
                  · rw [mset_n (Or.inr (by omega))]; exact hA6 j (by omega)) (fun j hj => by rw [hM7, mset_n (Or.inr (by omega))]; exact hB6 j hj) (by omega)
          refine WP.fgt (lt := [vR 167, vI ((0 : Nat) : Int)]) ⟨Or.inr rfl, Or.inr (congrArg vI (by omega)), trivial⟩ ?_
          exact L52 _ (0) (M5) (by omega) (fun _ _ => rfl) (fun j hj => absurd hj (Nat.not_lt_zero j)) (fun _ _ => rfl) (Nat.lt_succ_self _)
        · skip
          refine WP.aload_n dX8_remember_18 rfl ?_
          refine WP.getR (y := 169) dX8_remember_19 fl_X8_13 (rfl) (by decide) (rfl) ?_
          refine WP.iload_n dX8_remember_22 rfl ?_
          refine WP.aload_n dX8_remember_23 rfl ?_
          refine WP.getR (y := 169) dX8_remember_24 fl_X8_13 (rfl) (by decide) (rfl) ?_
          refine WP.iload_n dX8_remember_27 rfl ?_
          refine WP.sipush dX8_remember_28 (by decide) ?_
          refine WP.iadd dX8_remember_31 ?_
          refine WP.iaload (y := (j + 261)) (x := (M 169 (j + 261))) dX8_remember_32 (rfl) (by omega) (by omega) (hB1 _ (by omega)) ?_
          refine WP.iastore (y := j) dX8_remember_33 (rfl) (by omega) (by omega) rfl ?_
          obtain ⟨M2, hM2⟩ : ∃ z, z = (mset M1 169 j (M 169 (j + 261))) := ⟨_, rfl⟩
          refine WP.eqM hM2.symm ?_
          refine WP.iinc (lt := [vR 167, vI (((j : Nat) : Int) + 1)]) dX8_remember_34 rfl (by decide) rfl ?_
          refine WP.goto (tgt := 11) dX8_remember_37 (by decide) ?_
          refine WP.fgt (lt := [vR 167, vI (((j + 1) : Nat) : Int)]) ⟨Or.inr rfl, Or.inr (congrArg vI (by omega)), trivial⟩ ?_
          exact ih11 (j + 1) (M2) (by omega) (fun a ha => by rw [hM2, mset_o a ha]; exact hF1 a ha) (fun i hi => by
            rw [hM2]
            by_cases e9 : i = j
            · rw [e9, mset_s]
            · rw [mset_n (Or.inr e9)]; exact hA1 i (by omega)) (fun i hi => by rw [hM2, mset_n (Or.inr (by omega))]; exact hB1 i (by omega)) (by omega)
    refine WP.fgt (lt := [vR 167, vI ((0 : Nat) : Int)]) ⟨Or.inr rfl, Or.inr (congrArg vI (by omega)), trivial⟩ ?_
    exact L11 _ (0) (M) (by omega) (fun _ _ => rfl) (fun i hi => absurd hi (Nat.not_lt_zero i)) (fun _ _ => rfl) (Nat.lt_succ_self _)
