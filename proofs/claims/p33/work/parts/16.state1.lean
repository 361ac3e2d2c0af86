abbrev AR : Type := Nat × Nat × (Nat → Nat) × (Nat → Nat → Nat)
def TA (M : Mem) (t : Nat) (A : AR) : Prop := TX M t A.1 A.2.1 A.2.2.1 A.2.2.2 ∧ Wf A.1 A.2.1 A.2.2.1 A.2.2.2
theorem TA.fr {M M' : Mem} {t : Nat} {A : AR} (h : TA M t A) (h0 : M' t = M t) (h1 : M' (t + 1) = M (t + 1)) (h2 : M' (t + 2) = M (t + 2)) : TA M' t A := ⟨h.1.fr h0 h1 h2, h.2⟩
/-- the history of the class: a ring -/
def HX (M : Mem) (h : Nat) (hs : Nat → AR) : Prop := h ≤ 8 ∧ M 43 0 = (h : Int) ∧ ∃ f : Nat, f < 8 ∧ M 43 1 = (f : Int) ∧ ∀ j, j < h → TA M (9 + 3 * ((f + j) % 8)) (hs j)
theorem HX.fr {M M' : Mem} {h : Nat} {hs : Nat → AR} (H : HX M h hs) (h0 : M' 43 = M 43) (h1 : ∀ a, 9 ≤ a → a < 33 → M' a = M a) : HX M' h hs := by
  obtain ⟨a1, a2, f, a3, a4, a5⟩ := H
  refine ⟨a1, by rw [h0]; exact a2, f, a3, by rw [h0]; exact a4, fun j hj => (a5 j hj).fr (h1 _ (by omega) (by omega)) (h1 _ (by omega) (by omega)) (h1 _ (by omega) (by omega))⟩
def hpush (h : Nat) (hs : Nat → AR) (A : AR) : Nat × (Nat → AR) := if h = 8 then (8, fun j => if j = 7 then A else hs (j + 1)) else (h + 1, fun j => if j = h then A else hs j)
theorem isT_st (i : Nat) (h : i < 8) : isT (9 + 3 * i) := ⟨by omega, by omega⟩
theorem srf_st (i : Nat) : srf 44 i = 9 + 3 * i := rfl
set_option maxHeartbeats 4000000 in
set_option maxRecDepth 20000 in
theorem c_H_push {M : Mem} {h : Nat} {hs : Nat → AR} {A : AR} (hH : HX M h hs) (hA : TA M 0 A) : CT 2 m_X2_push [vR 43, vR 0] M (fun z M' => ∃ y, z = some (vR y) ∧ (∃ i, i < 8 ∧ y = 9 + 3 * i) ∧ (∀ a, a ≠ 43 → (a < 9 ∨ 33 ≤ a) → M' a = M a) ∧ HX M' (hpush h hs A).1 (hpush h hs A).2 ∧ TA M' y A) := by
  obtain ⟨h0, h1, f, h2, h3, h4⟩ := hH
  refine CT.ofWP (by decide +kernel) (Nat.le_of_ble_eq_true rfl) ?_
  show WP sc0 2 m_X2_push 0 [vR 43, vR 0, vU] [] M (fun z M' => ∃ y, z = some (vR y) ∧ (∃ i, i < 8 ∧ y = 9 + 3 * i) ∧ (∀ a, a ≠ 43 → (a < 9 ∨ 33 ≤ a) → M' a = M a) ∧ HX M' (hpush h hs A).1 (hpush h hs A).2 ∧ TA M' y A)
  refine WP.aload_n dX2_push_0 rfl ?_
  refine WP.getI (x := ((h : Nat) : Int)) dX2_push_1 fl_X2_9 (rfl) (by decide) (h1) ?_
  refine WP.bipush dX2_push_4 (by decide) ?_
  refine WP.icmp_ne (tgt := 25) dX2_push_6 (by decide) (by omega) (by omega) (fun h6 => ?_) (fun h6 => ?_)
  · skip
    have hr1 : M 43 0 = ((h : Nat) : Int) := h1
    refine WP.aload_n dX2_push_25 rfl ?_
    refine WP.dup dX2_push_26 rfl ?_
    refine WP.getI (x := ((h : Nat) : Int)) dX2_push_27 fl_X2_9 (rfl) (by decide) (h1) ?_
    refine WP.iconst dX2_push_30 ?_
    refine WP.iadd dX2_push_31 ?_
    refine WP.eqs (st' := [vI ((h + 1 : Nat) : Int), vR 43]) rfl (lc (congrArg vI (by omega)) rfl) ?_
    refine WP.putI dX2_push_32 fl_X2_9 (rfl) (by decide) rfl ?_
    have h6 : h ≠ 8 := by omega
    obtain ⟨M1, hM1⟩ : ∃ z, z = (mset M 43 0 ((h + 1 : Nat) : Int)) := ⟨_, rfl⟩
    have hO1 : ∀ a, a ≠ 43 → M1 a = M a := fun a ha => by rw [hM1]; exact mset_o a ha
    have hs1 : M1 43 0 = (((hpush h hs A).1 : Nat) : Int) := by rw [hM1, mset_s, hpush, if_neg h6]
    have hf1 : M1 43 1 = ((f : Nat) : Int) := by rw [hM1, mset_n (Or.inr (by decide))]; exact h3
    refine WP.eqM hM1.symm ?_
    obtain ⟨y, hy⟩ : ∃ y, y = (f + (hpush h hs A).1 - 1) % 8 := ⟨_, rfl⟩
    obtain ⟨f1, hff⟩ : ∃ z, z = f := ⟨_, rfl⟩
    rw [← hff] at hf1 hy
    have hp1 : (hpush h hs A).1 = h + 1 := by rw [hpush, if_neg h6]
    have hold : ∀ j, j + 1 < (hpush h hs A).1 → TA M1 (9 + 3 * ((f1 + j) % 8)) ((hpush h hs A).2 j) := fun j hj => by
      rw [hpush, if_neg h6] at hj ⊢
      dsimp only at hj ⊢
      rw [if_neg (by omega), hff]
      exact (h4 j (by omega)).fr (hO1 _ (by omega)) (hO1 _ (by omega)) (hO1 _ (by omega))
    have hnew : (hpush h hs A).2 ((hpush h hs A).1 - 1) = A := by rw [hpush, if_neg h6]; exact if_pos (by dsimp only; omega)
    have hy2 : (hpush h hs A).1 ≤ 8 ∧ 1 ≤ (hpush h hs A).1 := by omega
    refine WP.aload_n dX2_push_35 rfl ?_
    refine WP.getR (y := 44) dX2_push_36 fl_X2_20 (rfl) (by decide) (rfl) ?_
    refine WP.aload_n dX2_push_39 rfl ?_
    refine WP.getI (x := ((f1 : Nat) : Int)) dX2_push_40 fl_X2_15 (rfl) (by decide) (hf1) ?_
    refine WP.aload_n dX2_push_43 rfl ?_
    refine WP.getI (x := (((hpush h hs A).1 : Nat) : Int)) dX2_push_44 fl_X2_9 (rfl) (by decide) (hs1) ?_
    refine WP.iadd dX2_push_47 ?_
    refine WP.iconst dX2_push_48 ?_
    refine WP.isub dX2_push_49 ?_
    refine WP.bipush dX2_push_50 (by decide) ?_
    refine WP.irem dX2_push_52 (by omega) (by omega) ?_
    refine WP.eqs (st' := [vI ((y : Nat) : Int), vR 44]) rfl (lc (congrArg vI (by omega)) rfl) ?_
    refine WP.aaload (y := y) (z := (9 + 3 * y)) dX2_push_53 (rfl) (by omega) (by omega) (srf_st y) ?_
    have hyT := isT_st y (by omega)
    have hf8 : f1 < 8 := by omega
    refine WP.astore_n (lt := [vR 43, vR 0, vR (9 + 3 * y)]) dX2_push_54 (by decide) rfl ?_
    refine WP.aload_n dX2_push_55 rfl ?_
    refine WP.aload_n dX2_push_56 rfl ?_
    refine WP.callV (as := [vR 0]) dX2_push_57 mv_X2_25 rfl (shT0 hyT) (by decide) rfl rfl (c_T_copyFrom (t := 9 + 3 * y) (o := 0) hyT ⟨rfl, by decide⟩ (by omega) (hA.1.fr (hO1 _ (by omega)) (hO1 _ (by omega)) (hO1 _ (by omega))) hA.2.1 hA.2.2.1) rfl (Nat.le_of_ble_eq_true rfl) (by omega) (fun r9 M2 h9 => ?_)
    obtain ⟨rfl, e1, e2⟩ := h9
    show WP sc0 2 m_X2_push 60 [vR 43, vR 0, vR (9 + 3 * y)] [] M2 (fun z M' => ∃ y, z = some (vR y) ∧ (∃ i, i < 8 ∧ y = 9 + 3 * i) ∧ (∀ a, a ≠ 43 → (a < 9 ∨ 33 ≤ a) → M' a = M a) ∧ HX M' (hpush h hs A).1 (hpush h hs A).2 ∧ TA M' y A)
    refine WP.aload_n dX2_push_60 rfl ?_
    refine WP.aret dX2_push_61 rfl ?_
    refine ⟨_, rfl, ⟨y, by omega, rfl⟩, fun a h7 h8 => by rw [e1 a (by omega) (by omega) (by omega), hO1 a h7], ⟨hy2.1, by rw [e1 43 (by omega) (by omega) (by omega)]; exact hs1, f1, hf8, by rw [e1 43 (by omega) (by omega) (by omega)]; exact hf1, fun j hj => ?_⟩, ⟨e2, hA.2⟩⟩
    by_cases e : j + 1 < (hpush h hs A).1
    · exact (hold j e).fr (e1 _ (by omega) (by omega) (by omega)) (e1 _ (by omega) (by omega) (by omega)) (e1 _ (by omega) (by omega) (by omega))
    · rw [show (f1 + j) % 8 = y by omega, show j = (hpush h hs A).1 - 1 by omega, hnew]
      exact ⟨e2, hA.2⟩
  · skip
    refine WP.aload_n dX2_push_9 rfl ?_
    refine WP.aload_n dX2_push_10 rfl ?_
    refine WP.getI (x := ((f : Nat) : Int)) dX2_push_11 fl_X2_15 (rfl) (by decide) (h3) ?_
    refine WP.iconst dX2_push_14 ?_
    refine WP.iadd dX2_push_15 ?_
    refine WP.bipush dX2_push_16 (by decide) ?_
    refine WP.irem dX2_push_18 (by omega) (by omega) ?_
    refine WP.eqs (st' := [vI (((f + 1) % 8 : Nat) : Int), vR 43]) rfl (lc (congrArg vI (by omega)) rfl) ?_
    refine WP.putI dX2_push_19 fl_X2_15 (rfl) (by decide) rfl ?_
    refine WP.goto (tgt := 35) dX2_push_22 (by decide) ?_
    have h6 : h = 8 := by omega
    obtain ⟨M1, hM1⟩ : ∃ z, z = (mset M 43 1 (((f + 1) % 8 : Nat) : Int)) := ⟨_, rfl⟩
    have hO1 : ∀ a, a ≠ 43 → M1 a = M a := fun a ha => by rw [hM1]; exact mset_o a ha
    have hs1 : M1 43 0 = (((hpush h hs A).1 : Nat) : Int) := by rw [hM1, mset_n (Or.inr (by decide)), h1, hpush, if_pos h6, h6]
    have hf1 : M1 43 1 = (((f + 1) % 8 : Nat) : Int) := by rw [hM1, mset_s]
    refine WP.eqM hM1.symm ?_
    obtain ⟨y, hy⟩ : ∃ y, y = ((f + 1) % 8 + (hpush h hs A).1 - 1) % 8 := ⟨_, rfl⟩
    obtain ⟨f1, hff⟩ : ∃ z, z = (f + 1) % 8 := ⟨_, rfl⟩
    rw [← hff] at hf1 hy
    have hp1 : (hpush h hs A).1 = 8 := by rw [hpush, if_pos h6]
    have hold : ∀ j, j + 1 < (hpush h hs A).1 → TA M1 (9 + 3 * ((f1 + j) % 8)) ((hpush h hs A).2 j) := fun j hj => by
      rw [hpush, if_pos h6] at hj ⊢
      dsimp only at hj ⊢
      rw [if_neg (by omega), show (f1 + j) % 8 = (f + (j + 1)) % 8 by omega]
      exact (h4 (j + 1) (by omega)).fr (hO1 _ (by omega)) (hO1 _ (by omega)) (hO1 _ (by omega))
    have hnew : (hpush h hs A).2 ((hpush h hs A).1 - 1) = A := by rw [hpush, if_pos h6]; rfl
    have hy2 : (hpush h hs A).1 ≤ 8 ∧ 1 ≤ (hpush h hs A).1 := by omega
    refine WP.aload_n dX2_push_35 rfl ?_
    refine WP.getR (y := 44) dX2_push_36 fl_X2_20 (rfl) (by decide) (rfl) ?_
    refine WP.aload_n dX2_push_39 rfl ?_
    refine WP.getI (x := ((f1 : Nat) : Int)) dX2_push_40 fl_X2_15 (rfl) (by decide) (hf1) ?_
    refine WP.aload_n dX2_push_43 rfl ?_
    refine WP.getI (x := (((hpush h hs A).1 : Nat) : Int)) dX2_push_44 fl_X2_9 (rfl) (by decide) (hs1) ?_
    refine WP.iadd dX2_push_47 ?_
    refine WP.iconst dX2_push_48 ?_
    refine WP.isub dX2_push_49 ?_
    refine WP.bipush dX2_push_50 (by decide) ?_
    refine WP.irem dX2_push_52 (by omega) (by omega) ?_
    refine WP.eqs (st' := [vI ((y : Nat) : Int), vR 44]) rfl (lc (congrArg vI (by omega)) rfl) ?_
    refine WP.aaload (y := y) (z := (9 + 3 * y)) dX2_push_53 (rfl) (by omega) (by omega) (srf_st y) ?_
    have hyT := isT_st y (by omega)
    have hf8 : f1 < 8 := by omega
    refine WP.astore_n (lt := [vR 43, vR 0, vR (9 + 3 * y)]) dX2_push_54 (by decide) rfl ?_
    refine WP.aload_n dX2_push_55 rfl ?_
    refine WP.aload_n dX2_push_56 rfl ?_
    refine WP.callV (as := [vR 0]) dX2_push_57 mv_X2_25 rfl (shT0 hyT) (by decide) rfl rfl (c_T_copyFrom (t := 9 + 3 * y) (o := 0) hyT ⟨rfl, by decide⟩ (by omega) (hA.1.fr (hO1 _ (by omega)) (hO1 _ (by omega)) (hO1 _ (by omega))) hA.2.1 hA.2.2.1) rfl (Nat.le_of_ble_eq_true rfl) (by omega) (fun r9 M2 h9 => ?_)
    obtain ⟨rfl, e1, e2⟩ := h9
    show WP sc0 2 m_X2_push 60 [vR 43, vR 0, vR (9 + 3 * y)] [] M2 (fun z M' => ∃ y, z = some (vR y) ∧ (∃ i, i < 8 ∧ y = 9 + 3 * i) ∧ (∀ a, a ≠ 43 → (a < 9 ∨ 33 ≤ a) → M' a = M a) ∧ HX M' (hpush h hs A).1 (hpush h hs A).2 ∧ TA M' y A)
    refine WP.aload_n dX2_push_60 rfl ?_
    refine WP.aret dX2_push_61 rfl ?_
    refine ⟨_, rfl, ⟨y, by omega, rfl⟩, fun a h7 h8 => by rw [e1 a (by omega) (by omega) (by omega), hO1 a h7], ⟨hy2.1, by rw [e1 43 (by omega) (by omega) (by omega)]; exact hs1, f1, hf8, by rw [e1 43 (by omega) (by omega) (by omega)]; exact hf1, fun j hj => ?_⟩, ⟨e2, hA.2⟩⟩
    by_cases e : j + 1 < (hpush h hs A).1
    · exact (hold j e).fr (e1 _ (by omega) (by omega) (by omega)) (e1 _ (by omega) (by omega) (by omega)) (e1 _ (by omega) (by omega) (by omega))
    · rw [show (f1 + j) % 8 = y by omega, show j = (hpush h hs A).1 - 1 by omega, hnew]
      exact ⟨e2, hA.2⟩
set_option maxHeartbeats 4000000 in
set_option maxRecDepth 20000 in
theorem c_H_pop {M : Mem} {h : Nat} {hs : Nat → AR} (hH : HX M h hs) (hp : 0 < h) : CT 2 m_X2_pop [vR 43, vR 0] M (fun z M' => z = none ∧ (∀ a, a ≠ 43 → 3 ≤ a → M' a = M a) ∧ TA M' 0 (hs (h - 1)) ∧ HX M' (h - 1) hs) := by
  obtain ⟨h0, h1, f, h2, h3, h4⟩ := hH
  refine CT.ofWP (by decide +kernel) (Nat.le_of_ble_eq_true rfl) ?_
  show WP sc0 2 m_X2_pop 0 [vR 43, vR 0] [] M (fun z M' => z = none ∧ (∀ a, a ≠ 43 → 3 ≤ a → M' a = M a) ∧ TA M' 0 (hs (h - 1)) ∧ HX M' (h - 1) hs)
  refine WP.aload_n dX2_pop_0 rfl ?_
  refine WP.getI (x := ((h : Nat) : Int)) dX2_pop_1 fl_X2_9 (rfl) (by decide) (h1) ?_
  refine WP.if_le (tgt := 40) dX2_pop_4 (by decide) (by omega) (fun hq4 => ?_) (fun hq4 => ?_)
  · skip
    exfalso
    omega
  · skip
    refine WP.aload_n dX2_pop_7 rfl ?_
    refine WP.aload_n dX2_pop_8 rfl ?_
    refine WP.getR (y := 44) dX2_pop_9 fl_X2_20 (rfl) (by decide) (rfl) ?_
    refine WP.aload_n dX2_pop_12 rfl ?_
    refine WP.getI (x := ((f : Nat) : Int)) dX2_pop_13 fl_X2_15 (rfl) (by decide) (h3) ?_
    refine WP.aload_n dX2_pop_16 rfl ?_
    refine WP.getI (x := ((h : Nat) : Int)) dX2_pop_17 fl_X2_9 (rfl) (by decide) (h1) ?_
    refine WP.iadd dX2_pop_20 ?_
    refine WP.iconst dX2_pop_21 ?_
    refine WP.isub dX2_pop_22 ?_
    refine WP.bipush dX2_pop_23 (by decide) ?_
    refine WP.irem dX2_pop_25 (by omega) (by omega) ?_
    refine WP.eqs (st' := [vI (((f + (h - 1)) % 8 : Nat) : Int), vR 44, vR 0]) rfl (lc (congrArg vI (by omega)) rfl) ?_
    refine WP.aaload (y := ((f + (h - 1)) % 8)) (z := (9 + 3 * ((f + (h - 1)) % 8))) dX2_pop_26 (rfl) (by omega) (by omega) (srf_st _) ?_
    refine WP.callV (as := [vR (9 + 3 * ((f + (h - 1)) % 8))]) dX2_pop_27 mv_X2_25 rfl (rfl) (by decide) rfl rfl (c_T_copyFrom (t := 0) (o := 9 + 3 * ((f + (h - 1)) % 8)) ⟨rfl, by decide⟩ (isT_st _ (by omega)) (by omega) (h4 (h - 1) (by omega)).1 (h4 (h - 1) (by omega)).2.1 (h4 (h - 1) (by omega)).2.2.1) rfl (Nat.le_of_ble_eq_true rfl) (by omega) (fun r9 M1 h9 => ?_)
    obtain ⟨rfl, e1, e2⟩ := h9
    show WP sc0 2 m_X2_pop 30 [vR 43, vR 0] [] M1 (fun z M' => z = none ∧ (∀ a, a ≠ 43 → 3 ≤ a → M' a = M a) ∧ TA M' 0 (hs (h - 1)) ∧ HX M' (h - 1) hs)
    refine WP.aload_n dX2_pop_30 rfl ?_
    refine WP.dup dX2_pop_31 rfl ?_
    refine WP.getI (x := ((h : Nat) : Int)) dX2_pop_32 fl_X2_9 (rfl) (by decide) (by rw [e1 43 (by omega) (by omega) (by omega)]; exact h1) ?_
    refine WP.iconst dX2_pop_35 ?_
    refine WP.isub dX2_pop_36 ?_
    refine WP.putI dX2_pop_37 fl_X2_9 (rfl) (by decide) rfl ?_
    refine WP.vret dX2_pop_40 rfl ?_
    have hO : ∀ a, a ≠ 43 → mset M1 43 0 (((h : Nat) : Int) - 1) a = M1 a := fun a ha => mset_o a ha
    refine ⟨rfl, fun a i1 i2 => by rw [hO a i1, e1 a (by omega) (by omega) (by omega)], ⟨e2.fr (hO _ (by omega)) (hO _ (by omega)) (hO _ (by omega)), (h4 (h - 1) (by omega)).2⟩, by omega, by rw [mset_s]; omega, f, h2, by rw [mset_n (Or.inr (by decide)), e1 43 (by omega) (by omega) (by omega)]; exact h3, fun j hj => (h4 j (by omega)).fr ?_ ?_ ?_⟩
    · rw [hO _ (by omega), e1 _ (by omega) (by omega) (by omega)]
    · rw [hO _ (by omega), e1 _ (by omega) (by omega) (by omega)]
    · rw [hO _ (by omega), e1 _ (by omega) (by omega) (by omega)]
set_option maxHeartbeats 4000000 in
set_option maxRecDepth 20000 in
theorem c_X_isLevelCount {M : Mem} {x : Int} (hx : -2147483648 ≤ x ∧ x < 2147483648) : CT 1 m_X7_isLevelCount [vI x] M (Rt (some (vI (bi (2 ≤ x ∧ x ≤ 6)))) M) := by
  refine CT.ofWP (by decide +kernel) (Nat.le_of_ble_eq_true rfl) ?_
  show WP sc0 1 m_X7_isLevelCount 0 [vI x] [] M (Rt (some (vI (bi (2 ≤ x ∧ x ≤ 6)))) M)
  refine WP.iload_n dX7_isLevelCount_0 rfl ?_
  refine WP.iconst dX7_isLevelCount_1 ?_
  refine WP.icmp_lt (tgt := 15) dX7_isLevelCount_2 (by decide) (by omega) (by omega) (fun h2 => ?_) (fun h2 => ?_)
  · skip
    refine WP.iconst dX7_isLevelCount_15 ?_
    refine WP.zret dX7_isLevelCount_16 rfl (by decide) ?_
    exact ⟨congrArg some (congrArg vI (bi_f (by omega)).symm), rfl⟩
  · skip
    refine WP.iload_n dX7_isLevelCount_5 rfl ?_
    refine WP.bipush dX7_isLevelCount_6 (by decide) ?_
    refine WP.icmp_gt (tgt := 15) dX7_isLevelCount_8 (by decide) (by omega) (by omega) (fun h8 => ?_) (fun h8 => ?_)
    · skip
      refine WP.iconst dX7_isLevelCount_15 ?_
      refine WP.zret dX7_isLevelCount_16 rfl (by decide) ?_
      exact ⟨congrArg some (congrArg vI (bi_f (by omega)).symm), rfl⟩
    · skip
      refine WP.iconst dX7_isLevelCount_11 ?_
      refine WP.goto (tgt := 16) dX7_isLevelCount_12 (by decide) ?_
      refine WP.zret dX7_isLevelCount_16 rfl (by decide) ?_
      exact ⟨congrArg some (congrArg vI (bi_t (by omega)).symm), rfl⟩
set_option maxHeartbeats 4000000 in
set_option maxRecDepth 20000 in
theorem c_X_isImage {M : Mem} {x : Int} (hx : -2147483648 ≤ x ∧ x < 2147483648) : CT 1 m_X7_isImage [vI x] M (Rt (some (vI (bi (0 ≤ x ∧ x < 2)))) M) := by
  refine CT.ofWP (by decide +kernel) (Nat.le_of_ble_eq_true rfl) ?_
  show WP sc0 1 m_X7_isImage 0 [vI x] [] M (Rt (some (vI (bi (0 ≤ x ∧ x < 2)))) M)
  refine WP.iload_n dX7_isImage_0 rfl ?_
  refine WP.if_lt (tgt := 13) dX7_isImage_1 (by decide) (by omega) (fun h1 => ?_) (fun h1 => ?_)
  · skip
    refine WP.iconst dX7_isImage_13 ?_
    refine WP.zret dX7_isImage_14 rfl (by decide) ?_
    exact ⟨congrArg some (congrArg vI (bi_f (by omega)).symm), rfl⟩
  · skip
    refine WP.iload_n dX7_isImage_4 rfl ?_
    refine WP.iconst dX7_isImage_5 ?_
    refine WP.icmp_ge (tgt := 13) dX7_isImage_6 (by decide) (by omega) (by omega) (fun h6 => ?_) (fun h6 => ?_)
    · skip
      refine WP.iconst dX7_isImage_13 ?_
      refine WP.zret dX7_isImage_14 rfl (by decide) ?_
      exact ⟨congrArg some (congrArg vI (bi_f (by omega)).symm), rfl⟩
    · skip
      refine WP.iconst dX7_isImage_9 ?_
      refine WP.goto (tgt := 14) dX7_isImage_10 (by decide) ?_
      refine WP.zret dX7_isImage_14 rfl (by decide) ?_
      exact ⟨congrArg some (congrArg vI (bi_t (by omega)).symm), rfl⟩
