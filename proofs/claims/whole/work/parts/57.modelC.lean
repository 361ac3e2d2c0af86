theorem oi_and3 {a : Nat} (ha : a < 2 ^ 31) : Int32.ofInt (a : Int) &&& Int32.ofInt (3 : Int) = Int32.ofInt ((a % 4 : Nat) : Int) := by
  rw [oi_n, oi_n]
  exact pk_andN (k := 2) (by omega) (by decide +kernel)
theorem pw24 (k : Nat) : 2 ^ (2 * k) = 4 ^ k := Nat.pow_mul 2 2 k
def sdn (code s : Nat) : Nat → Nat
  | 0 => 0
  | v + 1 => if v < s then sdn code s v ||| 2 ^ imo code v else sdn code s v
theorem sdn_lt (code s : Nat) : ∀ v, sdn code s v < 2 ^ 4
  | 0 => Nat.two_pow_pos 4
  | v + 1 => by
    have ih := sdn_lt code s v
    unfold sdn
    split
    · exact or_b ih (imo_4 code v)
    · exact ih
theorem prm_c : allB (fun s => allB (fun c => (Nat.beq (sdn c s 4) (2 ^ s - 1) && allB (fun v => !decide (s ≤ v) || Nat.beq (imo c v) 0) 4) == pmoB s c) 256) 5 = true := by decide +kernel
theorem prm_ok {s c : Nat} (hs : s < 5) (hc : c < 256) (hz : ∀ v, v < 4 → s ≤ v → imo c v = 0) : sdn c s 4 = 2 ^ s - 1 ↔ pmo s c := by
  have h := eq_of_beq (allB_i.mp (allB_i.mp prm_c s hs) c hc)
  have hz2 : allB (fun v => !decide (s ≤ v) || Nat.beq (imo c v) 0) 4 = true := allB_i.mpr (fun v hv => bdec.mpr (fun e => by rw [hz v hv e]; rfl))
  rw [hz2, Bool.and_true] at h
  rw [← pmoB_iff, ← h]
  exact ⟨fun e => by rw [e]; exact Nat.beq_refl _, fun e => Nat.eq_of_beq_eq_true e⟩
/-! signatures -/
def sgi (nn : Nat) : Nat → Nat → Nat
  | 0, m => m
  | t + 1, m => 19 * sgi nn t m + nn
noncomputable def sgI (oc : Nat → Nat) (nn m : Nat) (v : Nat) : Nat := sgi nn (cn (fun u => oc u = nn) v) m
theorem sgI_t {oc : Nat → Nat} {nn m v : Nat} (h : oc v = nn) : sgI oc nn m (v + 1) = 19 * sgI oc nn m v + nn := by
  unfold sgI
  rw [cn_t (p := fun u => oc u = nn) h]; rfl
theorem sgI_f {oc : Nat → Nat} {nn m v : Nat} (h : ¬ oc v = nn) : sgI oc nn m (v + 1) = sgI oc nn m v := by
  unfold sgI
  rw [cn_f (p := fun u => oc u = nn) h]
noncomputable def sgO (oc : Nat → Nat) (s n : Nat) : Nat → Nat
  | 0 => s
  | j + 1 => sgI oc (n - j) (sgO oc s n j) s
noncomputable def sgw (oc : Nat → Nat) (s n : Nat) : Int := (Int32.ofInt ((sgO oc s n (n + 1) : Nat) : Int)).toInt
theorem sgw_r {oc : Nat → Nat} {s n : Nat} : -2147483648 ≤ sgw oc s n ∧ sgw oc s n < 2147483648 := ⟨Int32.le_toInt _, Int32.toInt_lt _⟩
theorem sgw_cg {oc oc' : Nat → Nat} {s n : Nat} (h : ∀ nn, cn (fun u => oc u = nn) s = cn (fun u => oc' u = nn) s) : sgw oc s n = sgw oc' s n := by
  have : ∀ j, sgO oc s n j = sgO oc' s n j := fun j => by
    induction j with
    | zero => rfl
    | succ j ih => rw [sgO, sgO, ih]; unfold sgI; rw [h]
  unfold sgw
  rw [this]
noncomputable def occ (A : AR) (c v : Nat) : Nat := cn (fun r => A.2.2.2 r c = v) A.1
noncomputable def sig (A : AR) (c : Nat) : Int := sgw (occ A c) (A.2.2.1 c) A.1
theorem iso_sig {A B : AR} {y : Nat → Nat} (hA : Wf A.1 A.2.1 A.2.2.1 A.2.2.2) (h : iso A B y) {c : Nat} (hc : c < A.2.1) : sig B (y c / 256) = sig A c := by
  obtain ⟨π, p1, p2, p3, p4⟩ := iso_T h
  have hz : B.2.2.1 (y c / 256) = A.2.2.1 c := (p3 c hc).1
  have hs : inj (fun v => imo (y c) v) (A.2.2.1 c) := (p3 c hc).2
  have hn : B.1 = A.1 := h.1.symm
  unfold sig
  rw [hz, hn]
  refine sgw_cg (fun nn => ?_)
  rw [← cn_inj hs.1 hs.2 (fun u => occ B (y c / 256) u = nn)]
  refine cn_cg (fun v hv => ?_)
  have e : occ B (y c / 256) (imo (y c) v) = occ A c v := by
    unfold occ
    rw [hn, ← cn_inj p1.1 p1.2 (fun r => B.2.2.2 r (y c / 256) = imo (y c) v)]
    refine cn_cg (fun r hr => ?_)
    have e9 : B.2.2.2 (π r) (y c / 256) = imo (y c) (A.2.2.2 r c) := p4 r hr c hc
    rw [e9]
    exact ⟨fun z => hs.2 _ _ (hA.2.2.2 r hr c hc) hv z, fun z => by rw [z]⟩
  rw [e]
theorem iso_like {A B : AR} {y : Nat → Nat} (hA : Wf A.1 A.2.1 A.2.2.1 A.2.2.2) (h : iso A B y) (s : Int) : cn (fun c => sig A c = s) A.2.1 = cn (fun c => sig B c = s) A.2.1 := by
  obtain ⟨π, p1, p2, p3, p4⟩ := iso_T h
  rw [← cn_inj p2.1 p2.2 (fun c => sig B c = s)]
  refine cn_cg (fun c hc => ?_)
  rw [iso_sig hA h hc]
theorem rwm_pre {A B : AR} {w : Nat → Nat} {m k : Nat} (h : rwm A B w k) (hm : m ≤ k) : rwm A B w m := by
  obtain ⟨π, p1, p2⟩ := rwm_pi.mp h
  exact rwm_pi.mpr ⟨π, p1, fun r hr c hc => p2 r hr c (by omega)⟩
/-! rows as numbers in base 4 -/
def cd4 (f : Nat → Nat) : Nat → Nat
  | 0 => 0
  | c + 1 => 4 * cd4 f c + f c
theorem cd4_inj {f g : Nat → Nat} : ∀ {m : Nat}, (∀ c, c < m → f c < 4 ∧ g c < 4) → (cd4 f m = cd4 g m ↔ ∀ c, c < m → f c = g c)
  | 0, _ => ⟨fun _ c hc => absurd hc (Nat.not_lt_zero c), fun _ => rfl⟩
  | m + 1, h => by
    have ih := cd4_inj (f := f) (g := g) (m := m) (fun c hc => h c (by omega))
    have h9 := h m (by omega)
    rw [cd4, cd4]
    constructor
    · intro e c hc
      by_cases e9 : c = m
      · rw [e9]; omega
      · exact ih.mp (by omega) c (by omega)
    · intro e
      rw [ih.mpr (fun c hc => e c (by omega)), e m (by omega)]
theorem cd4_lt {f : Nat → Nat} : ∀ {m : Nat}, (∀ c, c < m → f c < 4) → cd4 f m < 4 ^ m
  | 0, _ => Nat.one_pos
  | m + 1, h => by
    have ih := cd4_lt (f := f) (m := m) (fun c hc => h c (by omega))
    have h9 := h m (by omega)
    rw [cd4, Nat.pow_succ]
    omega
def fitsP (A B : AR) (w : Nat → Nat) (c : Nat) : Prop := B.2.2.1 (w c / 256) = A.2.2.1 c ∧ pmo (A.2.2.1 c) (w c) ∧ (∀ b, b < c → w b / 256 ≠ w c / 256) ∧ foa A c (w c) ∧ rwm A B w (c + 1)
set_option maxHeartbeats 4000000 in
set_option maxRecDepth 20000 in
theorem w_imageOf {M : Mem} {code v : Nat} (hc : code < 256) (hv : v < 4) : CT 1 m_X8_imageOf [vI ((code : Nat) : Int), vI ((v : Nat) : Int)] M (Rt (some (vI ((imo code v : Nat) : Int))) M) := by
  refine CT.ofWP (by decide +kernel) (Nat.le_of_ble_eq_true rfl) ?_
  show WP sc0 1 m_X8_imageOf 0 [vI ((code : Nat) : Int), vI ((v : Nat) : Int)] [] M (Rt (some (vI ((imo code v : Nat) : Int))) M)
  refine WP.iload_n dX8_imageOf_0 rfl ?_
  refine WP.iconst dX8_imageOf_1 ?_
  refine WP.iconst dX8_imageOf_2 ?_
  refine WP.iload_n dX8_imageOf_3 rfl ?_
  refine WP.isub dX8_imageOf_4 ?_
  refine WP.imul dX8_imageOf_5 ?_
  refine WP.ishr (z := ((code / 4 ^ (3 - v) : Nat) : Int)) dX8_imageOf_6 (by rw [show ((2 : Int) * ((3 : Int) - ((v : Nat) : Int))) = ((2 * (3 - v) : Nat) : Int) by omega, ← pw24]; exact oi_shr (by omega) (by omega)) ?_
  refine WP.iconst dX8_imageOf_7 ?_
  refine WP.iand (z := ((imo code v : Nat) : Int)) dX8_imageOf_8 (oi_and3 (Nat.lt_of_le_of_lt (Nat.div_le_self _ _) (by omega))) ?_
  refine WP.iret dX8_imageOf_9 rfl ?_
  exact ⟨rfl, rfl⟩
set_option maxHeartbeats 4000000 in
set_option maxRecDepth 20000 in
theorem w_isPermutation {M : Mem} {code s : Nat} (hc : code < 256) (hs : s ≤ 4) : CT 2 m_X8_isPermutation [vR 167, vI ((code : Nat) : Int), vI ((s : Nat) : Int)] M (Rt (some (vI (bi (pmo s code)))) M) := by
  refine CT.ofWP (by decide +kernel) (Nat.le_of_ble_eq_true rfl) ?_
  show WP sc0 2 m_X8_isPermutation 0 [vR 167, vI ((code : Nat) : Int), vI ((s : Nat) : Int), vU, vU] [] M (Rt (some (vI (bi (pmo s code)))) M)
  refine WP.iconst dX8_isPermutation_0 ?_
  refine WP.istore_n (lt := [vR 167, vI ((code : Nat) : Int), vI ((s : Nat) : Int), vI (0 : Int), vU]) dX8_isPermutation_1 (by decide) rfl ?_
  refine WP.iconst dX8_isPermutation_2 ?_
  refine WP.istore (lt := [vR 167, vI ((code : Nat) : Int), vI ((s : Nat) : Int), vI (0 : Int), vI (0 : Int)]) dX8_isPermutation_3 (by decide) rfl ?_
  have L5 : ∀ (n9 : Nat) (v : Nat) (hv : v ≤ 4) (hz : ∀ u, u < v → s ≤ u → imo code u = 0), 4 - v < n9 → WP sc0 2 m_X8_isPermutation 5 [vR 167, vI ((code : Nat) : Int), vI ((s : Nat) : Int), vI ((sdn code s v : Nat) : Int), vI ((v : Nat) : Int)] [] M (Rt (some (vI (bi (pmo s code)))) M) := by
    intro n9
    induction n9 with
    | zero =>
      intro v hv hz hm9
      exact absurd hm9 (Nat.not_lt_zero _)
    | succ n9 ih5 =>
      intro v hv hz hm9
      have hsl := sdn_lt code s v
      have h24 : 2 ^ 4 = 16 := rfl
      refine WP.iload dX8_isPermutation_5 rfl ?_
      refine WP.iconst dX8_isPermutation_7 ?_
      refine WP.icmp_ge (tgt := 55) dX8_isPermutation_8 (by decide) (by omega) (by omega) (fun h8 => ?_) (fun h8 => ?_)
      · skip
        have hv4 : v = 4 := by omega
        rw [hv4] at hz
        have hpk := prm_ok (s := s) (c := code) (by omega) hc hz
        have hp4 : 2 ^ s ≤ 2 ^ 4 := Nat.pow_le_pow_right (by decide) hs
        have hp0 : 0 < 2 ^ s := Nat.two_pow_pos s
        refine WP.iload_n dX8_isPermutation_55 rfl ?_
        refine WP.iconst dX8_isPermutation_56 ?_
        refine WP.iload_n dX8_isPermutation_57 rfl ?_
        refine WP.ishl (z := ((2 ^ s : Nat) : Int)) dX8_isPermutation_58 (shl_ok s (by omega)) ?_
        refine WP.iconst dX8_isPermutation_59 ?_
        refine WP.isub dX8_isPermutation_60 ?_
        refine WP.icmp_ne (tgt := 68) dX8_isPermutation_61 (by decide) (by omega) (by omega) (fun h61 => ?_) (fun h61 => ?_)
        · skip
          have hno : ¬ pmo s code := fun z => by have h9 := hpk.mpr z; rw [← hv4] at h9; omega
          refine WP.iconst dX8_isPermutation_68 ?_
          refine WP.zret dX8_isPermutation_69 rfl (by decide) ?_
          exact ⟨congrArg some (congrArg vI (bi_f hno).symm), rfl⟩
        · skip
          have hyes : pmo s code := hpk.mp (by rw [← hv4]; omega)
          refine WP.iconst dX8_isPermutation_64 ?_
          refine WP.goto (tgt := 69) dX8_isPermutation_65 (by decide) ?_
          refine WP.zret dX8_isPermutation_69 rfl (by decide) ?_
          exact ⟨congrArg some (congrArg vI (bi_t hyes).symm), rfl⟩
      · skip
        refine WP.iload dX8_isPermutation_11 rfl ?_
        refine WP.iload_n dX8_isPermutation_13 rfl ?_
        refine WP.icmp_lt (tgt := 28) dX8_isPermutation_14 (by decide) (by omega) (by omega) (fun h14 => ?_) (fun h14 => ?_)
        · skip
          refine WP.iload_n dX8_isPermutation_28 rfl ?_
          refine WP.iload dX8_isPermutation_29 rfl ?_
          refine WP.iload_n dX8_isPermutation_31 rfl ?_
          refine WP.icmp_ge (tgt := 46) dX8_isPermutation_32 (by decide) (by omega) (by omega) (fun h32 => ?_) (fun h32 => ?_)
          · skip
            have q47 : sdn code s (v + 1) = sdn code s v := if_neg (by omega)
            refine WP.iconst dX8_isPermutation_46 ?_
            refine WP.ior (z := ((sdn code s v : Nat) : Int)) dX8_isPermutation_47 (by have := oi_or (sdn code s v) 0; rw [Nat.or_zero] at this; exact this) ?_
            refine WP.istore_n (lt := [vR 167, vI ((code : Nat) : Int), vI ((s : Nat) : Int), vI ((sdn code s v : Nat) : Int), vI ((v : Nat) : Int)]) dX8_isPermutation_48 (by decide) rfl ?_
            refine WP.iinc (lt := [vR 167, vI ((code : Nat) : Int), vI ((s : Nat) : Int), vI ((sdn code s v : Nat) : Int), vI (((v : Nat) : Int) + 1)]) dX8_isPermutation_49 rfl (by decide) rfl ?_
            refine WP.goto (tgt := 5) dX8_isPermutation_52 (by decide) ?_
            refine WP.fgt (lt := [vR 167, vI ((code : Nat) : Int), vI ((s : Nat) : Int), vI ((sdn code s (v + 1) : Nat) : Int), vI (((v + 1) : Nat) : Int)]) ⟨Or.inr rfl, Or.inr rfl, Or.inr rfl, Or.inr (congrArg vI (by rw [q47])), Or.inr (congrArg vI (by omega)), trivial⟩ ?_
            exact ih5 (v + 1) (by omega) (fun u hu hs9 => by
              by_cases e9 : u = v
              · rw [e9]; omega
              · exact hz u (by omega) hs9) (by omega)
          · skip
            have q47 : sdn code s (v + 1) = sdn code s v ||| 2 ^ imo code v := if_pos (by omega)
            refine WP.iconst dX8_isPermutation_35 ?_
            refine WP.iload_n dX8_isPermutation_36 rfl ?_
            refine WP.iload dX8_isPermutation_37 rfl ?_
            refine WP.callSp (as := [vI ((code : Nat) : Int), vI ((v : Nat) : Int)]) dX8_isPermutation_39 ms_X8_187 rfl (w_imageOf (code := code) (v := v) hc (by omega)) rfl (Nat.le_of_ble_eq_true rfl) (by omega) ?_
            have wi39 := imo_4 code v
            refine WP.ishl (z := ((2 ^ imo code v : Nat) : Int)) dX8_isPermutation_42 (oi_shl1 (imo code v) (by omega)) ?_
            refine WP.goto (tgt := 47) dX8_isPermutation_43 (by decide) ?_
            refine WP.ior (z := ((sdn code s v ||| 2 ^ imo code v : Nat) : Int)) dX8_isPermutation_47 (oi_or _ _) ?_
            refine WP.istore_n (lt := [vR 167, vI ((code : Nat) : Int), vI ((s : Nat) : Int), vI ((sdn code s v ||| 2 ^ imo code v : Nat) : Int), vI ((v : Nat) : Int)]) dX8_isPermutation_48 (by decide) rfl ?_
            refine WP.iinc (lt := [vR 167, vI ((code : Nat) : Int), vI ((s : Nat) : Int), vI ((sdn code s v ||| 2 ^ imo code v : Nat) : Int), vI (((v : Nat) : Int) + 1)]) dX8_isPermutation_49 rfl (by decide) rfl ?_
            refine WP.goto (tgt := 5) dX8_isPermutation_52 (by decide) ?_
            refine WP.fgt (lt := [vR 167, vI ((code : Nat) : Int), vI ((s : Nat) : Int), vI ((sdn code s (v + 1) : Nat) : Int), vI (((v + 1) : Nat) : Int)]) ⟨Or.inr rfl, Or.inr rfl, Or.inr rfl, Or.inr (congrArg vI (by rw [q47])), Or.inr (congrArg vI (by omega)), trivial⟩ ?_
            exact ih5 (v + 1) (by omega) (fun u hu hs9 => by
              by_cases e9 : u = v
              · rw [e9]; omega
              · exact hz u (by omega) hs9) (by omega)
        · skip
          refine WP.iload_n dX8_isPermutation_17 rfl ?_
          refine WP.iload dX8_isPermutation_18 rfl ?_
          refine WP.callSp (as := [vI ((code : Nat) : Int), vI ((v : Nat) : Int)]) dX8_isPermutation_20 ms_X8_187 rfl (w_imageOf (code := code) (v := v) hc (by omega)) rfl (Nat.le_of_ble_eq_true rfl) (by omega) ?_
          have wi20 := imo_4 code v
          refine WP.if_eq (tgt := 28) dX8_isPermutation_23 (by decide) (by omega) (fun h23 => ?_) (fun h23 => ?_)
          · skip
            have hz9 : imo code v = 0 := by omega
            refine WP.iload_n dX8_isPermutation_28 rfl ?_
            refine WP.iload dX8_isPermutation_29 rfl ?_
            refine WP.iload_n dX8_isPermutation_31 rfl ?_
            refine WP.icmp_ge (tgt := 46) dX8_isPermutation_32 (by decide) (by omega) (by omega) (fun h32 => ?_) (fun h32 => ?_)
            · skip
              have q47 : sdn code s (v + 1) = sdn code s v := if_neg (by omega)
              refine WP.iconst dX8_isPermutation_46 ?_
              refine WP.ior (z := ((sdn code s v : Nat) : Int)) dX8_isPermutation_47 (by have := oi_or (sdn code s v) 0; rw [Nat.or_zero] at this; exact this) ?_
              refine WP.istore_n (lt := [vR 167, vI ((code : Nat) : Int), vI ((s : Nat) : Int), vI ((sdn code s v : Nat) : Int), vI ((v : Nat) : Int)]) dX8_isPermutation_48 (by decide) rfl ?_
              refine WP.iinc (lt := [vR 167, vI ((code : Nat) : Int), vI ((s : Nat) : Int), vI ((sdn code s v : Nat) : Int), vI (((v : Nat) : Int) + 1)]) dX8_isPermutation_49 rfl (by decide) rfl ?_
              refine WP.goto (tgt := 5) dX8_isPermutation_52 (by decide) ?_
              refine WP.fgt (lt := [vR 167, vI ((code : Nat) : Int), vI ((s : Nat) : Int), vI ((sdn code s (v + 1) : Nat) : Int), vI (((v + 1) : Nat) : Int)]) ⟨Or.inr rfl, Or.inr rfl, Or.inr rfl, Or.inr (congrArg vI (by rw [q47])), Or.inr (congrArg vI (by omega)), trivial⟩ ?_
              exact ih5 (v + 1) (by omega) (fun u hu hs9 => by
                by_cases e9 : u = v
                · rw [e9]; omega
                · exact hz u (by omega) hs9) (by omega)
            · skip
              have q47 : sdn code s (v + 1) = sdn code s v ||| 2 ^ imo code v := if_pos (by omega)
              refine WP.iconst dX8_isPermutation_35 ?_
              refine WP.iload_n dX8_isPermutation_36 rfl ?_
              refine WP.iload dX8_isPermutation_37 rfl ?_
              refine WP.callSp (as := [vI ((code : Nat) : Int), vI ((v : Nat) : Int)]) dX8_isPermutation_39 ms_X8_187 rfl (w_imageOf (code := code) (v := v) hc (by omega)) rfl (Nat.le_of_ble_eq_true rfl) (by omega) ?_
              have wi39 := imo_4 code v
              refine WP.ishl (z := ((2 ^ imo code v : Nat) : Int)) dX8_isPermutation_42 (oi_shl1 (imo code v) (by omega)) ?_
              refine WP.goto (tgt := 47) dX8_isPermutation_43 (by decide) ?_
              refine WP.ior (z := ((sdn code s v ||| 2 ^ imo code v : Nat) : Int)) dX8_isPermutation_47 (oi_or _ _) ?_
              refine WP.istore_n (lt := [vR 167, vI ((code : Nat) : Int), vI ((s : Nat) : Int), vI ((sdn code s v ||| 2 ^ imo code v : Nat) : Int), vI ((v : Nat) : Int)]) dX8_isPermutation_48 (by decide) rfl ?_
              refine WP.iinc (lt := [vR 167, vI ((code : Nat) : Int), vI ((s : Nat) : Int), vI ((sdn code s v ||| 2 ^ imo code v : Nat) : Int), vI (((v : Nat) : Int) + 1)]) dX8_isPermutation_49 rfl (by decide) rfl ?_
              refine WP.goto (tgt := 5) dX8_isPermutation_52 (by decide) ?_
              refine WP.fgt (lt := [vR 167, vI ((code : Nat) : Int), vI ((s : Nat) : Int), vI ((sdn code s (v + 1) : Nat) : Int), vI (((v + 1) : Nat) : Int)]) ⟨Or.inr rfl, Or.inr rfl, Or.inr rfl, Or.inr (congrArg vI (by rw [q47])), Or.inr (congrArg vI (by omega)), trivial⟩ ?_
              exact ih5 (v + 1) (by omega) (fun u hu hs9 => by
                by_cases e9 : u = v
                · rw [e9]; omega
                · exact hz u (by omega) hs9) (by omega)
          · skip
            refine WP.iconst dX8_isPermutation_26 ?_
            refine WP.zret dX8_isPermutation_27 rfl (by decide) ?_
            exact ⟨congrArg some (congrArg vI (bi_f (fun z => by have := z.2.2 v (by omega) (by omega); omega)).symm), rfl⟩
  refine WP.fgt (lt := [vR 167, vI ((code : Nat) : Int), vI ((s : Nat) : Int), vI ((sdn code s 0 : Nat) : Int), vI ((0 : Nat) : Int)]) ⟨Or.inr rfl, Or.inr rfl, Or.inr rfl, Or.inr (congrArg vI (rfl)), Or.inr (congrArg vI (by omega)), trivial⟩ ?_
  exact L5 _ (0) (by omega) (fun u hu => absurd hu (Nat.not_lt_zero u)) (Nat.lt_succ_self _)
set_option maxHeartbeats 4000000 in
set_option maxRecDepth 20000 in
theorem w_occurrences {M : Mem} {a L o : Nat} {A : AR} (ha : shp a = (10, L)) (hL : o + 261 ≤ L) (hL9 : L < 3000) (hB : BA (fun j => M a (o + j)) A) {c v : Nat} (hc : c < A.2.1) (hv : v < 6) : CT 1 m_X8_occurrences [vR a, vI ((o : Nat) : Int), vI ((c : Nat) : Int), vI ((v : Nat) : Int)] M (Rt (some (vI ((occ A c v : Nat) : Int))) M) := by
  obtain ⟨hB1, hBW⟩ := id hB
  have b1 := hBW.1
  have b2 := hBW.2.1
  refine CT.ofWP (by decide +kernel) (Nat.le_of_ble_eq_true rfl) ?_
  show WP sc0 1 m_X8_occurrences 0 [vR a, vI ((o : Nat) : Int), vI ((c : Nat) : Int), vI ((v : Nat) : Int), vU, vU] [] M (Rt (some (vI ((occ A c v : Nat) : Int))) M)
  refine WP.iconst dX8_occurrences_0 ?_
  refine WP.istore (lt := [vR a, vI ((o : Nat) : Int), vI ((c : Nat) : Int), vI ((v : Nat) : Int), vI (0 : Int), vU]) dX8_occurrences_1 (by decide) rfl ?_
  refine WP.iconst dX8_occurrences_3 ?_
  refine WP.istore (lt := [vR a, vI ((o : Nat) : Int), vI ((c : Nat) : Int), vI ((v : Nat) : Int), vI (0 : Int), vI (0 : Int)]) dX8_occurrences_4 (by decide) rfl ?_
  have L6 : ∀ (n9 : Nat) (r : Nat) (hr : r ≤ A.1), A.1 - r < n9 → WP sc0 1 m_X8_occurrences 6 [vR a, vI ((o : Nat) : Int), vI ((c : Nat) : Int), vI ((v : Nat) : Int), vI ((cn (fun y9 => A.2.2.2 y9 c = v) r : Nat) : Int), vI ((r : Nat) : Int)] [] M (Rt (some (vI ((occ A c v : Nat) : Int))) M) := by
    intro n9
    induction n9 with
    | zero =>
      intro r hr hm9
      exact absurd hm9 (Nat.not_lt_zero _)
    | succ n9 ih6 =>
      intro r hr hm9
      have hcl := cn_le (fun y9 => A.2.2.2 y9 c = v) r
      refine WP.iload dX8_occurrences_6 rfl ?_
      refine WP.aload_n dX8_occurrences_8 rfl ?_
      refine WP.iload_n dX8_occurrences_9 rfl ?_
      refine WP.iconst dX8_occurrences_10 ?_
      refine WP.iadd dX8_occurrences_11 ?_
      refine WP.iaload (y := (o + 0)) (x := ((A.1 : Nat) : Int)) dX8_occurrences_12 (ha) (by omega) (by omega) (hB1.1) ?_
      refine WP.icmp_ge (tgt := 50) dX8_occurrences_13 (by decide) (by omega) (by omega) (fun h13 => ?_) (fun h13 => ?_)
      · skip
        refine WP.iload dX8_occurrences_50 rfl ?_
        refine WP.iret dX8_occurrences_52 rfl ?_
        rw [show r = A.1 by omega]
        exact ⟨rfl, rfl⟩
      · skip
        have w1 := hBW.2.2.2 r (by omega) c hc
        have w2 := hBW.2.2.1 c hc
        refine WP.iload dX8_occurrences_16 rfl ?_
        refine WP.aload_n dX8_occurrences_18 rfl ?_
        refine WP.iload_n dX8_occurrences_19 rfl ?_
        refine WP.bipush dX8_occurrences_20 (by decide) ?_
        refine WP.iadd dX8_occurrences_22 ?_
        refine WP.bipush dX8_occurrences_23 (by decide) ?_
        refine WP.iload dX8_occurrences_25 rfl ?_
        refine WP.imul dX8_occurrences_27 ?_
        refine WP.iadd dX8_occurrences_28 ?_
        refine WP.iload_n dX8_occurrences_29 rfl ?_
        refine WP.iadd dX8_occurrences_30 ?_
        refine WP.iaload (y := (o + (9 + 7 * r + c))) (x := ((A.2.2.2 r c : Nat) : Int)) dX8_occurrences_31 (ha) (by omega) (by omega) (hB1.2.2.2 r (by omega) c hc) ?_
        refine WP.iload_n dX8_occurrences_32 rfl ?_
        refine WP.icmp_ne (tgt := 40) dX8_occurrences_33 (by decide) (by omega) (by omega) (fun h33 => ?_) (fun h33 => ?_)
        · skip
          have q33 : cn (fun y9 => A.2.2.2 y9 c = v) (r + 1) = cn (fun y9 => A.2.2.2 y9 c = v) r := cn_f (p := (fun y9 => A.2.2.2 y9 c = v)) (by omega)
          refine WP.iconst dX8_occurrences_40 ?_
          refine WP.iadd dX8_occurrences_41 ?_
          refine WP.istore (lt := [vR a, vI ((o : Nat) : Int), vI ((c : Nat) : Int), vI ((v : Nat) : Int), vI (((cn (fun y9 => A.2.2.2 y9 c = v) r : Nat) : Int) + (0 : Int)), vI ((r : Nat) : Int)]) dX8_occurrences_42 (by decide) rfl ?_
          refine WP.iinc (lt := [vR a, vI ((o : Nat) : Int), vI ((c : Nat) : Int), vI ((v : Nat) : Int), vI (((cn (fun y9 => A.2.2.2 y9 c = v) r : Nat) : Int) + (0 : Int)), vI (((r : Nat) : Int) + 1)]) dX8_occurrences_44 rfl (by decide) rfl ?_
          refine WP.goto (tgt := 6) dX8_occurrences_47 (by decide) ?_
          refine WP.fgt (lt := [vR a, vI ((o : Nat) : Int), vI ((c : Nat) : Int), vI ((v : Nat) : Int), vI ((cn (fun y9 => A.2.2.2 y9 c = v) (r + 1) : Nat) : Int), vI (((r + 1) : Nat) : Int)]) ⟨Or.inr rfl, Or.inr rfl, Or.inr rfl, Or.inr rfl, Or.inr (congrArg vI (by rw [q33]; omega)), Or.inr (congrArg vI (by omega)), trivial⟩ ?_
          exact ih6 (r + 1) (by omega) (by omega)
        · skip
          have q33 : cn (fun y9 => A.2.2.2 y9 c = v) (r + 1) = cn (fun y9 => A.2.2.2 y9 c = v) r + 1 := cn_t (p := (fun y9 => A.2.2.2 y9 c = v)) (by omega)
          refine WP.iconst dX8_occurrences_36 ?_
          refine WP.goto (tgt := 41) dX8_occurrences_37 (by decide) ?_
          refine WP.iadd dX8_occurrences_41 ?_
          refine WP.istore (lt := [vR a, vI ((o : Nat) : Int), vI ((c : Nat) : Int), vI ((v : Nat) : Int), vI (((cn (fun y9 => A.2.2.2 y9 c = v) r : Nat) : Int) + (1 : Int)), vI ((r : Nat) : Int)]) dX8_occurrences_42 (by decide) rfl ?_
          refine WP.iinc (lt := [vR a, vI ((o : Nat) : Int), vI ((c : Nat) : Int), vI ((v : Nat) : Int), vI (((cn (fun y9 => A.2.2.2 y9 c = v) r : Nat) : Int) + (1 : Int)), vI (((r : Nat) : Int) + 1)]) dX8_occurrences_44 rfl (by decide) rfl ?_
          refine WP.goto (tgt := 6) dX8_occurrences_47 (by decide) ?_
          refine WP.fgt (lt := [vR a, vI ((o : Nat) : Int), vI ((c : Nat) : Int), vI ((v : Nat) : Int), vI ((cn (fun y9 => A.2.2.2 y9 c = v) (r + 1) : Nat) : Int), vI (((r + 1) : Nat) : Int)]) ⟨Or.inr rfl, Or.inr rfl, Or.inr rfl, Or.inr rfl, Or.inr (congrArg vI (by rw [q33]; omega)), Or.inr (congrArg vI (by omega)), trivial⟩ ?_
          exact ih6 (r + 1) (by omega) (by omega)
  refine WP.fgt (lt := [vR a, vI ((o : Nat) : Int), vI ((c : Nat) : Int), vI ((v : Nat) : Int), vI ((cn (fun y9 => A.2.2.2 y9 c = v) 0 : Nat) : Int), vI ((0 : Nat) : Int)]) ⟨Or.inr rfl, Or.inr rfl, Or.inr rfl, Or.inr rfl, Or.inr (congrArg vI (rfl)), Or.inr (congrArg vI (by omega)), trivial⟩ ?_
  exact L6 _ (0) (Nat.zero_le _) (Nat.lt_succ_self _)
set_option maxHeartbeats 4000000 in
set_option maxRecDepth 20000 in
theorem w_signature {M : Mem} {a L o : Nat} {A : AR} (ha : shp a = (10, L)) (hL : o + 261 ≤ L) (hL9 : L < 3000) (hB : BA (fun j => M a (o + j)) A) {c : Nat} (hc : c < A.2.1) : CT 2 m_X8_signature [vR a, vI ((o : Nat) : Int), vI ((c : Nat) : Int)] M (Rt (some (vI (sig A c))) M) := by
  obtain ⟨hB1, hBW⟩ := id hB
  have b1 := hBW.1
  have b2 := hBW.2.1
  refine CT.ofWP (by decide +kernel) (Nat.le_of_ble_eq_true rfl) ?_
  show WP sc0 2 m_X8_signature 0 [vR a, vI ((o : Nat) : Int), vI ((c : Nat) : Int), vU, vU, vU] [] M (Rt (some (vI (sig A c))) M)
  refine WP.aload_n dX8_signature_0 rfl ?_
  refine WP.iload_n dX8_signature_1 rfl ?_
  refine WP.iconst dX8_signature_2 ?_
  refine WP.iadd dX8_signature_3 ?_
  refine WP.iload_n dX8_signature_4 rfl ?_
  refine WP.iadd dX8_signature_5 ?_
  refine WP.iaload (y := (o + (2 + c))) (x := ((A.2.2.1 c : Nat) : Int)) dX8_signature_6 (ha) (by omega) (by omega) (hB1.2.2.1 c hc) ?_
  refine WP.istore_n (lt := [vR a, vI ((o : Nat) : Int), vI ((c : Nat) : Int), vI ((A.2.2.1 c : Nat) : Int), vU, vU]) dX8_signature_7 (by decide) rfl ?_
  refine WP.aload_n dX8_signature_8 rfl ?_
  refine WP.iload_n dX8_signature_9 rfl ?_
  refine WP.iconst dX8_signature_10 ?_
  refine WP.iadd dX8_signature_11 ?_
  refine WP.iaload (y := (o + 0)) (x := ((A.1 : Nat) : Int)) dX8_signature_12 (ha) (by omega) (by omega) (hB1.1) ?_
  refine WP.istore (lt := [vR a, vI ((o : Nat) : Int), vI ((c : Nat) : Int), vI ((A.2.2.1 c : Nat) : Int), vI ((A.1 : Nat) : Int), vU]) dX8_signature_13 (by decide) rfl ?_
  have L15 : ∀ (n9 : Nat) (j : Nat) (hj : j ≤ A.1 + 1), A.1 + 1 - j < n9 → WP sc0 2 m_X8_signature 15 [vR a, vI ((o : Nat) : Int), vI ((c : Nat) : Int), vI ((sgO (occ A c) (A.2.2.1 c) A.1 j : Nat) : Int), vI (((A.1 : Nat) : Int) - ((j : Nat) : Int)), vU] [] M (Rt (some (vI (sig A c))) M) := by
    intro n9
    induction n9 with
    | zero =>
      intro j hj hm9
      exact absurd hm9 (Nat.not_lt_zero _)
    | succ n9 ih15 =>
      intro j hj hm9
      have hw2 := hBW.2.2.1 c hc
      refine WP.iload dX8_signature_15 rfl ?_
      refine WP.if_lt (tgt := 72) dX8_signature_17 (by decide) (by omega) (fun h17 => ?_) (fun h17 => ?_)
      · skip
        refine WP.iload_n dX8_signature_72 rfl ?_
        refine WP.wrap (y := sig A c) (by rw [show j = A.1 + 1 by omega]; exact (Int32.ofInt_toInt _).symm) ?_
        refine WP.iret dX8_signature_73 rfl ?_
        exact ⟨rfl, rfl⟩
      · skip
        refine WP.iconst dX8_signature_20 ?_
        refine WP.istore (lt := [vR a, vI ((o : Nat) : Int), vI ((c : Nat) : Int), vI ((sgO (occ A c) (A.2.2.1 c) A.1 j : Nat) : Int), vI (((A.1 : Nat) : Int) - ((j : Nat) : Int)), vI (0 : Int)]) dX8_signature_21 (by decide) rfl ?_
        have L23 : ∀ (n9 : Nat) (v : Nat) (hv : v ≤ A.2.2.1 c), A.2.2.1 c - v < n9 → WP sc0 2 m_X8_signature 23 [vR a, vI ((o : Nat) : Int), vI ((c : Nat) : Int), vI ((sgI (occ A c) (A.1 - j) (sgO (occ A c) (A.2.2.1 c) A.1 j) v : Nat) : Int), vI (((A.1 : Nat) : Int) - ((j : Nat) : Int)), vI ((v : Nat) : Int)] [] M (Rt (some (vI (sig A c))) M) := by
          intro n9
          induction n9 with
          | zero =>
            intro v hv hm9
            exact absurd hm9 (Nat.not_lt_zero _)
          | succ n9 ih23 =>
            intro v hv hm9
            refine WP.iload dX8_signature_23 rfl ?_
            refine WP.aload_n dX8_signature_25 rfl ?_
            refine WP.iload_n dX8_signature_26 rfl ?_
            refine WP.iconst dX8_signature_27 ?_
            refine WP.iadd dX8_signature_28 ?_
            refine WP.iload_n dX8_signature_29 rfl ?_
            refine WP.iadd dX8_signature_30 ?_
            refine WP.iaload (y := (o + (2 + c))) (x := ((A.2.2.1 c : Nat) : Int)) dX8_signature_31 (ha) (by omega) (by omega) (hB1.2.2.1 c hc) ?_
            refine WP.icmp_ge (tgt := 66) dX8_signature_32 (by decide) (by omega) (by omega) (fun h32 => ?_) (fun h32 => ?_)
            · skip
              refine WP.iinc (lt := [vR a, vI ((o : Nat) : Int), vI ((c : Nat) : Int), vI ((sgI (occ A c) (A.1 - j) (sgO (occ A c) (A.2.2.1 c) A.1 j) v : Nat) : Int), vI ((((A.1 : Nat) : Int) - ((j : Nat) : Int)) + (-1)), vI ((v : Nat) : Int)]) dX8_signature_66 rfl (by decide) rfl ?_
              refine WP.goto (tgt := 15) dX8_signature_69 (by decide) ?_
              refine WP.fgt (lt := [vR a, vI ((o : Nat) : Int), vI ((c : Nat) : Int), vI ((sgO (occ A c) (A.2.2.1 c) A.1 (j + 1) : Nat) : Int), vI (((A.1 : Nat) : Int) - (((j + 1) : Nat) : Int)), vU]) ⟨Or.inr rfl, Or.inr rfl, Or.inr rfl, Or.inr (congrArg vI (by rw [sgO, show v = A.2.2.1 c by omega])), Or.inr (congrArg vI (by omega)), Or.inl rfl, trivial⟩ ?_
              exact ih15 (j + 1) (by omega) (by omega)
            · skip
              refine WP.aload_n dX8_signature_35 rfl ?_
              refine WP.iload_n dX8_signature_36 rfl ?_
              refine WP.iload_n dX8_signature_37 rfl ?_
              refine WP.iload dX8_signature_38 rfl ?_
              refine WP.callSp (as := [vR a, vI ((o : Nat) : Int), vI ((c : Nat) : Int), vI ((v : Nat) : Int)]) dX8_signature_40 ms_X8_190 rfl (w_occurrences (c := c) (v := v) ha hL hL9 hB hc (by omega)) rfl (Nat.le_of_ble_eq_true rfl) (by omega) ?_
              have hol : occ A c v ≤ A.1 := cn_le _ _
              refine WP.iload dX8_signature_43 rfl ?_
              refine WP.icmp_ne (tgt := 58) dX8_signature_45 (by decide) (by omega) (by omega) (fun h45 => ?_) (fun h45 => ?_)
              · skip
                have q45 := sgI_f (oc := (occ A c)) (nn := A.1 - j) (m := sgO (occ A c) (A.2.2.1 c) A.1 j) (v := v) (by omega)
                refine WP.iload_n dX8_signature_58 rfl ?_
                refine WP.istore_n (lt := [vR a, vI ((o : Nat) : Int), vI ((c : Nat) : Int), vI ((sgI (occ A c) (A.1 - j) (sgO (occ A c) (A.2.2.1 c) A.1 j) v : Nat) : Int), vI (((A.1 : Nat) : Int) - ((j : Nat) : Int)), vI ((v : Nat) : Int)]) dX8_signature_59 (by decide) rfl ?_
                refine WP.iinc (lt := [vR a, vI ((o : Nat) : Int), vI ((c : Nat) : Int), vI ((sgI (occ A c) (A.1 - j) (sgO (occ A c) (A.2.2.1 c) A.1 j) v : Nat) : Int), vI (((A.1 : Nat) : Int) - ((j : Nat) : Int)), vI (((v : Nat) : Int) + 1)]) dX8_signature_60 rfl (by decide) rfl ?_
                refine WP.goto (tgt := 23) dX8_signature_63 (by decide) ?_
                refine WP.fgt (lt := [vR a, vI ((o : Nat) : Int), vI ((c : Nat) : Int), vI ((sgI (occ A c) (A.1 - j) (sgO (occ A c) (A.2.2.1 c) A.1 j) (v + 1) : Nat) : Int), vI (((A.1 : Nat) : Int) - ((j : Nat) : Int)), vI (((v + 1) : Nat) : Int)]) ⟨Or.inr rfl, Or.inr rfl, Or.inr rfl, Or.inr (congrArg vI (by rw [q45] <;> omega)), Or.inr rfl, Or.inr (congrArg vI (by omega)), trivial⟩ ?_
                exact ih23 (v + 1) (by omega) (by omega)
              · skip
                have q45 := sgI_t (oc := (occ A c)) (nn := A.1 - j) (m := sgO (occ A c) (A.2.2.1 c) A.1 j) (v := v) (by omega)
                refine WP.bipush dX8_signature_48 (by decide) ?_
                refine WP.iload_n dX8_signature_50 rfl ?_
                refine WP.imul dX8_signature_51 ?_
                refine WP.iload dX8_signature_52 rfl ?_
                refine WP.iadd dX8_signature_54 ?_
                refine WP.goto (tgt := 59) dX8_signature_55 (by decide) ?_
                refine WP.istore_n (lt := [vR a, vI ((o : Nat) : Int), vI ((c : Nat) : Int), vI (((19 : Int) * ((sgI (occ A c) (A.1 - j) (sgO (occ A c) (A.2.2.1 c) A.1 j) v : Nat) : Int)) + (((A.1 : Nat) : Int) - ((j : Nat) : Int))), vI (((A.1 : Nat) : Int) - ((j : Nat) : Int)), vI ((v : Nat) : Int)]) dX8_signature_59 (by decide) rfl ?_
                refine WP.iinc (lt := [vR a, vI ((o : Nat) : Int), vI ((c : Nat) : Int), vI (((19 : Int) * ((sgI (occ A c) (A.1 - j) (sgO (occ A c) (A.2.2.1 c) A.1 j) v : Nat) : Int)) + (((A.1 : Nat) : Int) - ((j : Nat) : Int))), vI (((A.1 : Nat) : Int) - ((j : Nat) : Int)), vI (((v : Nat) : Int) + 1)]) dX8_signature_60 rfl (by decide) rfl ?_
                refine WP.goto (tgt := 23) dX8_signature_63 (by decide) ?_
                refine WP.fgt (lt := [vR a, vI ((o : Nat) : Int), vI ((c : Nat) : Int), vI ((sgI (occ A c) (A.1 - j) (sgO (occ A c) (A.2.2.1 c) A.1 j) (v + 1) : Nat) : Int), vI (((A.1 : Nat) : Int) - ((j : Nat) : Int)), vI (((v + 1) : Nat) : Int)]) ⟨Or.inr rfl, Or.inr rfl, Or.inr rfl, Or.inr (congrArg vI (by rw [q45] <;> omega)), Or.inr rfl, Or.inr (congrArg vI (by omega)), trivial⟩ ?_
                exact ih23 (v + 1) (by omega) (by omega)
        refine WP.fgt (lt := [vR a, vI ((o : Nat) : Int), vI ((c : Nat) : Int), vI ((sgI (occ A c) (A.1 - j) (sgO (occ A c) (A.2.2.1 c) A.1 j) 0 : Nat) : Int), vI (((A.1 : Nat) : Int) - ((j : Nat) : Int)), vI ((0 : Nat) : Int)]) ⟨Or.inr rfl, Or.inr rfl, Or.inr rfl, Or.inr (congrArg vI (rfl)), Or.inr rfl, Or.inr (congrArg vI (by omega)), trivial⟩ ?_
        exact L23 _ (0) (Nat.zero_le _) (Nat.lt_succ_self _)
  refine WP.fgt (lt := [vR a, vI ((o : Nat) : Int), vI ((c : Nat) : Int), vI ((sgO (occ A c) (A.2.2.1 c) A.1 0 : Nat) : Int), vI (((A.1 : Nat) : Int) - ((0 : Nat) : Int)), vU]) ⟨Or.inr rfl, Or.inr rfl, Or.inr rfl, Or.inr (congrArg vI (rfl)), Or.inr (congrArg vI (by omega)), Or.inl rfl, trivial⟩ ?_
  exact L15 _ (0) (Nat.zero_le _) (Nat.lt_succ_self _)
set_option maxHeartbeats 4000000 in
set_option maxRecDepth 20000 in
theorem w_columnsLike {M : Mem} {a L o : Nat} {A : AR} (ha : shp a = (10, L)) (hL : o + 261 ≤ L) (hL9 : L < 3000) (hB : BA (fun j => M a (o + j)) A) {s : Int} (hs : -2147483648 ≤ s ∧ s < 2147483648) (hk : M 168 1 = ((A.2.1 : Nat) : Int)) : CT 3 m_X8_columnsLike [vR 167, vI s, vR a, vI ((o : Nat) : Int)] M (Rt (some (vI ((cn (fun y9 => sig A y9 = s) A.2.1 : Nat) : Int))) M) := by
  obtain ⟨hB1, hBW⟩ := id hB
  have b1 := hBW.1
  have b2 := hBW.2.1
  refine CT.ofWP (by decide +kernel) (Nat.le_of_ble_eq_true rfl) ?_
  show WP sc0 3 m_X8_columnsLike 0 [vR 167, vI s, vR a, vI ((o : Nat) : Int), vU, vU] [] M (Rt (some (vI ((cn (fun y9 => sig A y9 = s) A.2.1 : Nat) : Int))) M)
  refine WP.iconst dX8_columnsLike_0 ?_
  refine WP.istore (lt := [vR 167, vI s, vR a, vI ((o : Nat) : Int), vI (0 : Int), vU]) dX8_columnsLike_1 (by decide) rfl ?_
  refine WP.iconst dX8_columnsLike_3 ?_
  refine WP.istore (lt := [vR 167, vI s, vR a, vI ((o : Nat) : Int), vI (0 : Int), vI (0 : Int)]) dX8_columnsLike_4 (by decide) rfl ?_
  have L6 : ∀ (n9 : Nat) (c : Nat) (hc : c ≤ A.2.1), A.2.1 - c < n9 → WP sc0 3 m_X8_columnsLike 6 [vR 167, vI s, vR a, vI ((o : Nat) : Int), vI ((cn (fun y9 => sig A y9 = s) c : Nat) : Int), vI ((c : Nat) : Int)] [] M (Rt (some (vI ((cn (fun y9 => sig A y9 = s) A.2.1 : Nat) : Int))) M) := by
    intro n9
    induction n9 with
    | zero =>
      intro c hc hm9
      exact absurd hm9 (Nat.not_lt_zero _)
    | succ n9 ih6 =>
      intro c hc hm9
      have hcl := cn_le (fun y9 => sig A y9 = s) c
      refine WP.iload dX8_columnsLike_6 rfl ?_
      refine WP.aload_n dX8_columnsLike_8 rfl ?_
      refine WP.getR (y := 168) dX8_columnsLike_9 fl_X8_7 (rfl) (by decide) (rfl) ?_
      refine WP.iconst dX8_columnsLike_12 ?_
      refine WP.iaload (y := 1) (x := ((A.2.1 : Nat) : Int)) dX8_columnsLike_13 (rfl) (by omega) (by omega) (hk) ?_
      refine WP.icmp_ge (tgt := 44) dX8_columnsLike_14 (by decide) (by omega) (by omega) (fun h14 => ?_) (fun h14 => ?_)
      · skip
        refine WP.iload dX8_columnsLike_44 rfl ?_
        refine WP.iret dX8_columnsLike_46 rfl ?_
        rw [show c = A.2.1 by omega]
        exact ⟨rfl, rfl⟩
      · skip
        refine WP.iload dX8_columnsLike_17 rfl ?_
        refine WP.aload_n dX8_columnsLike_19 rfl ?_
        refine WP.iload_n dX8_columnsLike_20 rfl ?_
        refine WP.iload dX8_columnsLike_21 rfl ?_
        refine WP.callSp (as := [vR a, vI ((o : Nat) : Int), vI ((c : Nat) : Int)]) dX8_columnsLike_23 ms_X8_194 rfl (w_signature (c := c) ha hL hL9 hB (by omega)) rfl (Nat.le_of_ble_eq_true rfl) (by omega) ?_
        refine WP.iload_n dX8_columnsLike_26 rfl ?_
        refine WP.icmp_ne (tgt := 34) dX8_columnsLike_27 (by decide) (sgw_r) (hs) (fun h27 => ?_) (fun h27 => ?_)
        · skip
          have q27 : cn (fun y9 => sig A y9 = s) (c + 1) = cn (fun y9 => sig A y9 = s) c := cn_f (p := (fun y9 => sig A y9 = s)) h27
          refine WP.iconst dX8_columnsLike_34 ?_
          refine WP.iadd dX8_columnsLike_35 ?_
          refine WP.istore (lt := [vR 167, vI s, vR a, vI ((o : Nat) : Int), vI (((cn (fun y9 => sig A y9 = s) c : Nat) : Int) + (0 : Int)), vI ((c : Nat) : Int)]) dX8_columnsLike_36 (by decide) rfl ?_
          refine WP.iinc (lt := [vR 167, vI s, vR a, vI ((o : Nat) : Int), vI (((cn (fun y9 => sig A y9 = s) c : Nat) : Int) + (0 : Int)), vI (((c : Nat) : Int) + 1)]) dX8_columnsLike_38 rfl (by decide) rfl ?_
          refine WP.goto (tgt := 6) dX8_columnsLike_41 (by decide) ?_
          refine WP.fgt (lt := [vR 167, vI s, vR a, vI ((o : Nat) : Int), vI ((cn (fun y9 => sig A y9 = s) (c + 1) : Nat) : Int), vI (((c + 1) : Nat) : Int)]) ⟨Or.inr rfl, Or.inr rfl, Or.inr rfl, Or.inr rfl, Or.inr (congrArg vI (by rw [q27]; omega)), Or.inr (congrArg vI (by omega)), trivial⟩ ?_
          exact ih6 (c + 1) (by omega) (by omega)
        · skip
          have q27 : cn (fun y9 => sig A y9 = s) (c + 1) = cn (fun y9 => sig A y9 = s) c + 1 := cn_t (p := (fun y9 => sig A y9 = s)) h27
          refine WP.iconst dX8_columnsLike_30 ?_
          refine WP.goto (tgt := 35) dX8_columnsLike_31 (by decide) ?_
          refine WP.iadd dX8_columnsLike_35 ?_
          refine WP.istore (lt := [vR 167, vI s, vR a, vI ((o : Nat) : Int), vI (((cn (fun y9 => sig A y9 = s) c : Nat) : Int) + (1 : Int)), vI ((c : Nat) : Int)]) dX8_columnsLike_36 (by decide) rfl ?_
          refine WP.iinc (lt := [vR 167, vI s, vR a, vI ((o : Nat) : Int), vI (((cn (fun y9 => sig A y9 = s) c : Nat) : Int) + (1 : Int)), vI (((c : Nat) : Int) + 1)]) dX8_columnsLike_38 rfl (by decide) rfl ?_
          refine WP.goto (tgt := 6) dX8_columnsLike_41 (by decide) ?_
          refine WP.fgt (lt := [vR 167, vI s, vR a, vI ((o : Nat) : Int), vI ((cn (fun y9 => sig A y9 = s) (c + 1) : Nat) : Int), vI (((c + 1) : Nat) : Int)]) ⟨Or.inr rfl, Or.inr rfl, Or.inr rfl, Or.inr rfl, Or.inr (congrArg vI (by rw [q27]; omega)), Or.inr (congrArg vI (by omega)), trivial⟩ ?_
          exact ih6 (c + 1) (by omega) (by omega)
  refine WP.fgt (lt := [vR 167, vI s, vR a, vI ((o : Nat) : Int), vI ((cn (fun y9 => sig A y9 = s) 0 : Nat) : Int), vI ((0 : Nat) : Int)]) ⟨Or.inr rfl, Or.inr rfl, Or.inr rfl, Or.inr rfl, Or.inr (congrArg vI (rfl)), Or.inr (congrArg vI (by omega)), trivial⟩ ?_
  exact L6 _ (0) (Nat.zero_le _) (Nat.lt_succ_self _)
