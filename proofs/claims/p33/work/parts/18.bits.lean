def iA (x y : Int) : Int := (Int32.ofInt x &&& Int32.ofInt y).toInt
def uS (x k : Int) : Int := (((Int32.ofInt x).toUInt32 >>> ((Int32.ofInt k).toUInt32 &&& Int32.toUInt32 31)).toInt32).toInt
def bq1 (x : Int) : Int := x - iA (uS x 1) 1431655765
def bq2 (x : Int) : Int := iA x 858993459 + iA (uS x 2) 858993459
def bq3 (x : Int) : Int := iA (x + uS x 4) 252645135
def bq4 (x : Int) : Int := x + uS x 8
def bq5 (x : Int) : Int := x + uS x 16
def bq (x : Int) : Int := iA (bq5 (bq4 (bq3 (bq2 (bq1 x))))) 63
def lS (x : Int64) (k : Int) : Int64 := (x.toUInt64 >>> ((Int32.ofInt k).toInt64.toUInt64 &&& Int64.toUInt64 63)).toInt64
def lq1 (x : Int64) : Int64 := x - (lS x 1 &&& 6148914691236517205)
def lq2 (x : Int64) : Int64 := (x &&& 3689348814741910323) + (lS x 2 &&& 3689348814741910323)
def lq3 (x : Int64) : Int64 := (x + lS x 4) &&& 1085102592571150095
def lq4 (x : Int64) : Int64 := x + lS x 8
def lq5 (x : Int64) : Int64 := x + lS x 16
def lq6 (x : Int64) : Int64 := x + lS x 32
def lq (x : Int64) : Int := iA ((lq6 (lq5 (lq4 (lq3 (lq2 (lq1 x)))))).toInt32.toInt) 127
/-- how many bits -/
def popn : Nat → Nat → Nat
  | 0, _ => 0
  | f + 1, m => m % 2 + popn f (m / 2)
def mk (m r : Nat) : Prop := m / 2 ^ r % 2 = 1
set_option maxHeartbeats 4000000 in
set_option maxRecDepth 20000 in
theorem c_bitCountI {M : Mem} {x : Int} {b : Nat} (h : bq x = (b : Int)) : CT 1 m_J6_bitCount_0f7a4 [vI x] M (Rt (some (vI (b : Nat))) M) := by
  refine CT.ofWP (by decide +kernel) (Nat.le_of_ble_eq_true rfl) ?_
  show WP sc0 1 m_J6_bitCount_0f7a4 0 [vI x] [] M (Rt (some (vI (b : Nat))) M)
  refine WP.iload_n dJ6_bitCount_0f7a4_0 rfl ?_
  refine WP.iload_n dJ6_bitCount_0f7a4_1 rfl ?_
  refine WP.iconst dJ6_bitCount_0f7a4_2 ?_
  refine WP.iushr (z := (uS x (1 : Int))) dJ6_bitCount_0f7a4_3 ((Int32.ofInt_toInt _).symm) ?_
  refine WP.ldcw (x := 1431655765) dJ6_bitCount_0f7a4_4 w_k_J6_265 (by decide) ?_
  refine WP.iand (z := (iA (uS x (1 : Int)) (1431655765 : Int))) dJ6_bitCount_0f7a4_7 ((Int32.ofInt_toInt _).symm) ?_
  refine WP.isub dJ6_bitCount_0f7a4_8 ?_
  refine WP.eqs (st' := [vI (bq1 x)]) rfl (lc (congrArg vI (rfl)) rfl) ?_
  refine WP.istore_n (lt := [vI (bq1 x)]) dJ6_bitCount_0f7a4_9 (by decide) rfl ?_
  refine WP.iload_n dJ6_bitCount_0f7a4_10 rfl ?_
  refine WP.ldcw (x := 858993459) dJ6_bitCount_0f7a4_11 w_k_J6_266 (by decide) ?_
  refine WP.iand (z := (iA (bq1 x) (858993459 : Int))) dJ6_bitCount_0f7a4_14 ((Int32.ofInt_toInt _).symm) ?_
  refine WP.iload_n dJ6_bitCount_0f7a4_15 rfl ?_
  refine WP.iconst dJ6_bitCount_0f7a4_16 ?_
  refine WP.iushr (z := (uS (bq1 x) (2 : Int))) dJ6_bitCount_0f7a4_17 ((Int32.ofInt_toInt _).symm) ?_
  refine WP.ldcw (x := 858993459) dJ6_bitCount_0f7a4_18 w_k_J6_266 (by decide) ?_
  refine WP.iand (z := (iA (uS (bq1 x) (2 : Int)) (858993459 : Int))) dJ6_bitCount_0f7a4_21 ((Int32.ofInt_toInt _).symm) ?_
  refine WP.iadd dJ6_bitCount_0f7a4_22 ?_
  refine WP.eqs (st' := [vI (bq2 (bq1 x))]) rfl (lc (congrArg vI (rfl)) rfl) ?_
  refine WP.istore_n (lt := [vI (bq2 (bq1 x))]) dJ6_bitCount_0f7a4_23 (by decide) rfl ?_
  refine WP.iload_n dJ6_bitCount_0f7a4_24 rfl ?_
  refine WP.iload_n dJ6_bitCount_0f7a4_25 rfl ?_
  refine WP.iconst dJ6_bitCount_0f7a4_26 ?_
  refine WP.iushr (z := (uS (bq2 (bq1 x)) (4 : Int))) dJ6_bitCount_0f7a4_27 ((Int32.ofInt_toInt _).symm) ?_
  refine WP.iadd dJ6_bitCount_0f7a4_28 ?_
  refine WP.ldcw (x := 252645135) dJ6_bitCount_0f7a4_29 w_k_J6_267 (by decide) ?_
  refine WP.iand (z := (iA ((bq2 (bq1 x)) + (uS (bq2 (bq1 x)) (4 : Int))) (252645135 : Int))) dJ6_bitCount_0f7a4_32 ((Int32.ofInt_toInt _).symm) ?_
  refine WP.eqs (st' := [vI (bq3 (bq2 (bq1 x)))]) rfl (lc (congrArg vI (rfl)) rfl) ?_
  refine WP.istore_n (lt := [vI (bq3 (bq2 (bq1 x)))]) dJ6_bitCount_0f7a4_33 (by decide) rfl ?_
  refine WP.iload_n dJ6_bitCount_0f7a4_34 rfl ?_
  refine WP.iload_n dJ6_bitCount_0f7a4_35 rfl ?_
  refine WP.bipush dJ6_bitCount_0f7a4_36 (by decide) ?_
  refine WP.iushr (z := (uS (bq3 (bq2 (bq1 x))) (8 : Int))) dJ6_bitCount_0f7a4_38 ((Int32.ofInt_toInt _).symm) ?_
  refine WP.iadd dJ6_bitCount_0f7a4_39 ?_
  refine WP.eqs (st' := [vI (bq4 (bq3 (bq2 (bq1 x))))]) rfl (lc (congrArg vI (rfl)) rfl) ?_
  refine WP.istore_n (lt := [vI (bq4 (bq3 (bq2 (bq1 x))))]) dJ6_bitCount_0f7a4_40 (by decide) rfl ?_
  refine WP.iload_n dJ6_bitCount_0f7a4_41 rfl ?_
  refine WP.iload_n dJ6_bitCount_0f7a4_42 rfl ?_
  refine WP.bipush dJ6_bitCount_0f7a4_43 (by decide) ?_
  refine WP.iushr (z := (uS (bq4 (bq3 (bq2 (bq1 x)))) (16 : Int))) dJ6_bitCount_0f7a4_45 ((Int32.ofInt_toInt _).symm) ?_
  refine WP.iadd dJ6_bitCount_0f7a4_46 ?_
  refine WP.eqs (st' := [vI (bq5 (bq4 (bq3 (bq2 (bq1 x)))))]) rfl (lc (congrArg vI (rfl)) rfl) ?_
  refine WP.istore_n (lt := [vI (bq5 (bq4 (bq3 (bq2 (bq1 x)))))]) dJ6_bitCount_0f7a4_47 (by decide) rfl ?_
  refine WP.iload_n dJ6_bitCount_0f7a4_48 rfl ?_
  refine WP.bipush dJ6_bitCount_0f7a4_49 (by decide) ?_
  refine WP.iand (z := (iA (bq5 (bq4 (bq3 (bq2 (bq1 x))))) (63 : Int))) dJ6_bitCount_0f7a4_51 ((Int32.ofInt_toInt _).symm) ?_
  refine WP.iret dJ6_bitCount_0f7a4_52 rfl ?_
  exact ⟨congrArg some (congrArg vI h), rfl⟩
set_option maxHeartbeats 4000000 in
set_option maxRecDepth 20000 in
theorem c_bitCountL {M : Mem} {x : Int64} {b : Nat} (h : lq x = (b : Int)) : CT 1 m_J13_bitCount_95d88 [vL x] M (Rt (some (vI (b : Nat))) M) := by
  refine CT.ofWP (by decide +kernel) (Nat.le_of_ble_eq_true rfl) ?_
  show WP sc0 1 m_J13_bitCount_95d88 0 [vL x, vU] [] M (Rt (some (vI (b : Nat))) M)
  refine WP.lload_n dJ13_bitCount_95d88_0 rfl ?_
  refine WP.lload_n dJ13_bitCount_95d88_1 rfl ?_
  refine WP.iconst dJ13_bitCount_95d88_2 ?_
  refine WP.lushr (z := (lS x (1 : Int))) dJ13_bitCount_95d88_3 (rfl) ?_
  refine WP.ldc2 dJ13_bitCount_95d88_4 w_k_J13_314 ?_
  refine WP.land dJ13_bitCount_95d88_7 ?_
  refine WP.lsub dJ13_bitCount_95d88_8 ?_
  refine WP.eqs (st' := [vL (lq1 x)]) rfl (lc (congrArg vL (rfl)) rfl) ?_
  refine WP.lstore_n (lt := [vL (lq1 x), vU]) dJ13_bitCount_95d88_9 (by decide) rfl ?_
  refine WP.lload_n dJ13_bitCount_95d88_10 rfl ?_
  refine WP.ldc2 dJ13_bitCount_95d88_11 w_k_J13_316 ?_
  refine WP.land dJ13_bitCount_95d88_14 ?_
  refine WP.lload_n dJ13_bitCount_95d88_15 rfl ?_
  refine WP.iconst dJ13_bitCount_95d88_16 ?_
  refine WP.lushr (z := (lS (lq1 x) (2 : Int))) dJ13_bitCount_95d88_17 (rfl) ?_
  refine WP.ldc2 dJ13_bitCount_95d88_18 w_k_J13_316 ?_
  refine WP.land dJ13_bitCount_95d88_21 ?_
  refine WP.ladd dJ13_bitCount_95d88_22 ?_
  refine WP.eqs (st' := [vL (lq2 (lq1 x))]) rfl (lc (congrArg vL (rfl)) rfl) ?_
  refine WP.lstore_n (lt := [vL (lq2 (lq1 x)), vU]) dJ13_bitCount_95d88_23 (by decide) rfl ?_
  refine WP.lload_n dJ13_bitCount_95d88_24 rfl ?_
  refine WP.lload_n dJ13_bitCount_95d88_25 rfl ?_
  refine WP.iconst dJ13_bitCount_95d88_26 ?_
  refine WP.lushr (z := (lS (lq2 (lq1 x)) (4 : Int))) dJ13_bitCount_95d88_27 (rfl) ?_
  refine WP.ladd dJ13_bitCount_95d88_28 ?_
  refine WP.ldc2 dJ13_bitCount_95d88_29 w_k_J13_318 ?_
  refine WP.land dJ13_bitCount_95d88_32 ?_
  refine WP.eqs (st' := [vL (lq3 (lq2 (lq1 x)))]) rfl (lc (congrArg vL (rfl)) rfl) ?_
  refine WP.lstore_n (lt := [vL (lq3 (lq2 (lq1 x))), vU]) dJ13_bitCount_95d88_33 (by decide) rfl ?_
  refine WP.lload_n dJ13_bitCount_95d88_34 rfl ?_
  refine WP.lload_n dJ13_bitCount_95d88_35 rfl ?_
  refine WP.bipush dJ13_bitCount_95d88_36 (by decide) ?_
  refine WP.lushr (z := (lS (lq3 (lq2 (lq1 x))) (8 : Int))) dJ13_bitCount_95d88_38 (rfl) ?_
  refine WP.ladd dJ13_bitCount_95d88_39 ?_
  refine WP.eqs (st' := [vL (lq4 (lq3 (lq2 (lq1 x))))]) rfl (lc (congrArg vL (rfl)) rfl) ?_
  refine WP.lstore_n (lt := [vL (lq4 (lq3 (lq2 (lq1 x)))), vU]) dJ13_bitCount_95d88_40 (by decide) rfl ?_
  refine WP.lload_n dJ13_bitCount_95d88_41 rfl ?_
  refine WP.lload_n dJ13_bitCount_95d88_42 rfl ?_
  refine WP.bipush dJ13_bitCount_95d88_43 (by decide) ?_
  refine WP.lushr (z := (lS (lq4 (lq3 (lq2 (lq1 x)))) (16 : Int))) dJ13_bitCount_95d88_45 (rfl) ?_
  refine WP.ladd dJ13_bitCount_95d88_46 ?_
  refine WP.eqs (st' := [vL (lq5 (lq4 (lq3 (lq2 (lq1 x)))))]) rfl (lc (congrArg vL (rfl)) rfl) ?_
  refine WP.lstore_n (lt := [vL (lq5 (lq4 (lq3 (lq2 (lq1 x))))), vU]) dJ13_bitCount_95d88_47 (by decide) rfl ?_
  refine WP.lload_n dJ13_bitCount_95d88_48 rfl ?_
  refine WP.lload_n dJ13_bitCount_95d88_49 rfl ?_
  refine WP.bipush dJ13_bitCount_95d88_50 (by decide) ?_
  refine WP.lushr (z := (lS (lq5 (lq4 (lq3 (lq2 (lq1 x))))) (32 : Int))) dJ13_bitCount_95d88_52 (rfl) ?_
  refine WP.ladd dJ13_bitCount_95d88_53 ?_
  refine WP.eqs (st' := [vL (lq6 (lq5 (lq4 (lq3 (lq2 (lq1 x))))))]) rfl (lc (congrArg vL (rfl)) rfl) ?_
  refine WP.lstore_n (lt := [vL (lq6 (lq5 (lq4 (lq3 (lq2 (lq1 x)))))), vU]) dJ13_bitCount_95d88_54 (by decide) rfl ?_
  refine WP.lload_n dJ13_bitCount_95d88_55 rfl ?_
  refine WP.l2i (z := ((lq6 (lq5 (lq4 (lq3 (lq2 (lq1 x)))))).toInt32.toInt)) dJ13_bitCount_95d88_56 ((Int32.ofInt_toInt _).symm) ?_
  refine WP.bipush dJ13_bitCount_95d88_57 (by decide) ?_
  refine WP.iand (z := (iA ((lq6 (lq5 (lq4 (lq3 (lq2 (lq1 x)))))).toInt32.toInt) (127 : Int))) dJ13_bitCount_95d88_59 ((Int32.ofInt_toInt _).symm) ?_
  refine WP.iret dJ13_bitCount_95d88_60 rfl ?_
  exact ⟨congrArg some (congrArg vI h), rfl⟩
section MATH
variable {sc : Nat × (Nat → Int)} {d : Nat} {mt : Mth} {pc : Nat} {ls st : List V} {M : Mem} {Q : Option V → Mem → Prop}
theorem w_max : Cond.code Lib.Math.max.name Lib.Math.max.code 2 (some .int) ∈ tbG := by
  have h : Lib.Math.max.code = cJ9_max_7cf53 := by decide +kernel
  rw [h]
  exact w_cd_J9_max_7cf53
theorem w_min : Cond.code Lib.Math.min.name Lib.Math.min.code 2 (some .int) ∈ tbG := by
  have h : Lib.Math.min.code = cJ9_min_7cf53 := by decide +kernel
  rw [h]
  exact w_cd_J9_min_7cf53
theorem WP.mmax {index a b : Nat} (hd : decode mt.2.1 pc = .ok (.invokestatic index, 3)) (hw : Cond.methodLink mt.1.cls index yJ9_max_7cf53 ∈ tbG) (ha : a < 2147483648) (hb : b < 2147483648) (hd1 : 1 ≤ d) (hcat : (st.map cat).sum ≤ 8) (k : WP sc d mt (pc + 3) ls (vI ((Nat.max a b : Nat) : Int) :: st) M Q) : WP sc d mt pc ls (vI (b : Int) :: vI (a : Int) :: st) M Q := by
  intro p l e R s m args below meth c E A H locs cells slots Z lsR F hP hS hl hr
  have kk := k p l e R s m args below meth c E A H locs cells slots Z lsR F hP hS hl hr
  obtain ⟨hx, hb9, hml, hown, hts, hK, hE, hA, ⟨hR1, hR2, hR3, hR4, hNW⟩, hsc⟩ := id F
  refine va_mmax hx hb9 (hml.trans hl.1.symm) hown (hts _ hw) (hts _ w_st_J9_max_7cf53) (hts _ w_ini_J9) (hts _ w_max) (by omega) (by rw [sum_cat]; omega) hR3 hR4 hd ?_
  have e9 : (if Int32.ofInt (a : Int) < Int32.ofInt (b : Int) then Int32.ofInt (b : Int) else Int32.ofInt (a : Int)) = Int32.ofInt ((Nat.max a b : Nat) : Int) := by
    by_cases h : (a : Int) < (b : Int)
    · rw [if_pos ((oi_lt (by omega) (by omega)).mpr h), show Nat.max a b = b from Nat.max_eq_right (by omega)]
    · rw [if_neg (fun z => h ((oi_lt (by omega) (by omega)).mp z)), show Nat.max a b = a from Nat.max_eq_left (by omega)]
  rw [e9]
  exact kk
theorem WP.mmin {index a b : Nat} (hd : decode mt.2.1 pc = .ok (.invokestatic index, 3)) (hw : Cond.methodLink mt.1.cls index yJ9_min_7cf53 ∈ tbG) (ha : a < 2147483648) (hb : b < 2147483648) (hd1 : 1 ≤ d) (hcat : (st.map cat).sum ≤ 8) (k : WP sc d mt (pc + 3) ls (vI ((Nat.min a b : Nat) : Int) :: st) M Q) : WP sc d mt pc ls (vI (b : Int) :: vI (a : Int) :: st) M Q := by
  intro p l e R s m args below meth c E A H locs cells slots Z lsR F hP hS hl hr
  have kk := k p l e R s m args below meth c E A H locs cells slots Z lsR F hP hS hl hr
  obtain ⟨hx, hb9, hml, hown, hts, hK, hE, hA, ⟨hR1, hR2, hR3, hR4, hNW⟩, hsc⟩ := id F
  refine va_mmin hx hb9 (hml.trans hl.1.symm) hown (hts _ hw) (hts _ w_st_J9_min_7cf53) (hts _ w_ini_J9) (hts _ w_min) (by omega) (by rw [sum_cat]; omega) hR3 hR4 hd ?_
  have e9 : (if Int32.ofInt (b : Int) < Int32.ofInt (a : Int) then Int32.ofInt (b : Int) else Int32.ofInt (a : Int)) = Int32.ofInt ((Nat.min a b : Nat) : Int) := by
    by_cases h : (b : Int) < (a : Int)
    · rw [if_pos ((oi_lt (by omega) (by omega)).mpr h), show Nat.min a b = b from Nat.min_eq_right (by omega)]
    · rw [if_neg (fun z => h ((oi_lt (by omega) (by omega)).mp z)), show Nat.min a b = a from Nat.min_eq_left (by omega)]
  rw [e9]
  exact kk
end MATH
theorem bq_ok2 : ∀ a : Nat, a < 64 → ∀ b : Nat, b < 64 → bq ((64 * a + b : Nat) : Int) = ((popn 12 (64 * a + b) : Nat) : Int) := by decide +kernel
theorem lq_ok2 : ∀ a : Nat, a < 64 → ∀ b : Nat, b < 64 → lq (Int64.ofNat (64 * a + b)) = ((popn 12 (64 * a + b) : Nat) : Int) := by decide +kernel
theorem bq_ok (m : Nat) (h : m < 4096) : bq (m : Int) = ((popn 12 m : Nat) : Int) := by
  have := bq_ok2 (m / 64) (by omega) (m % 64) (by omega)
  rwa [show 64 * (m / 64) + m % 64 = m by omega] at this
theorem lq_ok (m : Nat) (h : m < 4096) : lq (Int64.ofNat m) = ((popn 12 m : Nat) : Int) := by
  have := lq_ok2 (m / 64) (by omega) (m % 64) (by omega)
  rwa [show 64 * (m / 64) + m % 64 = m by omega] at this
theorem lq_all : ∀ n : Nat, n < 37 → lq (Int64.ofNat (2 ^ n - 1)) = (n : Int) := by decide +kernel
theorem mk_0 (m : Nat) : mk m 0 ↔ m % 2 = 1 := by unfold mk; rw [Nat.pow_zero, Nat.div_one]
theorem mk_s (m r : Nat) : mk m (r + 1) ↔ mk (m / 2) r := by
  unfold mk
  rw [Nat.pow_succ, Nat.mul_comm, ← Nat.div_div_eq_div_mul]
theorem popn_cn : ∀ (n m : Nat), popn n m = cn (mk m) n
  | 0, _ => rfl
  | n + 1, m => by
    have h : cn (mk m) (1 + n) = cn (mk m) 1 + cn (fun r => mk m (1 + r)) n := cn_split _ 1 n
    have h2 : cn (fun r => mk m (1 + r)) n = cn (mk (m / 2)) n := cn_cg (fun r _ => by rw [Nat.add_comm 1 r]; exact mk_s m r)
    rw [Nat.add_comm n 1, h, h2, ← popn_cn n, Nat.add_comm 1 n, popn]
    congr 1
    rcases Nat.mod_two_eq_zero_or_one m with e | e
    · rw [e, show (1 : Nat) = 0 + 1 from rfl, cn_f (by rw [mk_0]; omega)]; rfl
    · rw [e, show cn (mk m) 1 = cn (mk m) (0 + 1) from rfl, cn_t (by rw [mk_0]; omega)]; rfl
theorem mk_hi {m r : Nat} (h : m < 2 ^ r) : ¬ mk m r := by
  unfold mk
  rw [Nat.div_eq_of_lt h]
  decide
theorem mk_hi2 {m n r : Nat} (h : m < 2 ^ n) (hr : n ≤ r) : ¬ mk m r := mk_hi (Nat.lt_of_lt_of_le h (Nat.pow_le_pow_right (by decide) hr))
theorem cn_hi {p : Nat → Prop} {n : Nat} : ∀ {m : Nat}, n ≤ m → (∀ r, n ≤ r → r < m → ¬ p r) → cn p m = cn p n
  | 0, h, _ => by rw [show n = 0 by omega]
  | m + 1, h, hp => by
    by_cases e : n = m + 1
    · rw [e]
    · rw [cn_f (hp m (by omega) (by omega)), cn_hi (m := m) (by omega) (fun r h1 h2 => hp r h1 (by omega))]
theorem popn_12 {n m : Nat} (hn : n ≤ 12) (h : m < 2 ^ n) : popn 12 m = cn (mk m) n := by
  rw [popn_cn, cn_hi hn (fun r h1 _ => mk_hi2 h h1)]
theorem mk_all {n r : Nat} (hr : r < n) : mk (2 ^ n - 1) r := by
  unfold mk
  have := Nat.testBit_two_pow_sub_one n r
  rw [Nat.testBit_eq_decide_div_mod_eq] at this
  simpa [hr] using this
theorem cn_all {n : Nat} : cn (mk (2 ^ n - 1)) n = n := cn_full.mpr (fun r hr => mk_all hr)
theorem lN_shr {a d : Nat} {D : Int64} (hD : (D.toBitVec.smod 64).toNat = d) (h : a < 2 ^ 62) : Int64.ofNat a >>> D = Int64.ofNat (a / 2 ^ d) := by
  have hI : ∀ a : Nat, a < 2 ^ 63 → (Int64.ofNat a).toInt = (a : Int) := fun a h => lg_ofNat_toInt h
  have hd : a / 2 ^ d ≤ a := Nat.div_le_self _ _
  apply Int64.toInt_inj.mp
  have e : (Int64.ofNat a >>> D).toInt = (Int64.ofNat a).toInt >>> d := by
    rw [← hD]
    exact BitVec.toInt_sshiftRight ..
  rw [e, Int.shiftRight_eq_div_pow, hI a (by omega), hI _ (by omega)]
  rfl
theorem sh_D : ∀ r : Nat, r < 36 → (((Int32.ofInt (r : Int)).toInt64 &&& 63).toBitVec.smod 64).toNat = r := by decide +kernel
theorem l_bit {m r : Nat} (hm : m < 2 ^ 62) (hr : r < 36) : Int64.ofNat m >>> ((Int32.ofInt (r : Int)).toInt64 &&& 63) = Int64.ofNat (m / 2 ^ r) := lN_shr (sh_D r hr) hm
theorem l_and1 {m : Nat} (hm : m < 2 ^ 62) : Int64.ofNat m &&& 1 = Int64.ofNat (m % 2) := by
  apply Int64.toBitVec_inj.mp
  rw [Int64.toBitVec_and]
  apply BitVec.eq_of_toNat_eq
  have h1 : (Int64.ofNat m).toBitVec.toNat = m := by
    show (BitVec.ofNat 64 m).toNat = m
    rw [BitVec.toNat_ofNat, Nat.mod_eq_of_lt (by omega)]
  have h2 : (Int64.ofNat (m % 2)).toBitVec.toNat = m % 2 := by
    show (BitVec.ofNat 64 (m % 2)).toNat = m % 2
    rw [BitVec.toNat_ofNat, Nat.mod_eq_of_lt (by omega)]
  rw [BitVec.toNat_and, h1, h2]
  exact Nat.and_one_is_mod m
theorem lc_b : ∀ b : Nat, b < 2 → lcI (Int64.ofNat b) 1 = if b = 1 then 0 else -1 := by decide +kernel
