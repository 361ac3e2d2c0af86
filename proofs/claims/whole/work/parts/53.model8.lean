theorem oi_shr36 {a r : Nat} (ha : a < 2 ^ 31) (hr : r < 36) : Int32.ofInt (a : Int) >>> (Int32.ofInt (r : Int) &&& 31) = Int32.ofInt ((a / 2 ^ (r % 32) : Nat) : Int) := by
  have hs : ∀ n, n < 36 → ((nI n &&& 31).toBitVec.smod 32).toNat = n % 32 := by decide +kernel
  rw [oi_n, oi_n, oi_n]
  exact pk_shrN ha _ (r % 32) (hs r hr)
theorem sp_bit {sp r : Nat} (hs : sp < 2 ^ 12) (hr : r < 36) : (sp / 2 ^ (r % 32) % 2 = 0 → ¬ mk sp r) ∧ (30 < r → ¬ mk sp r) ∧ (r ≤ 30 → ¬ sp / 2 ^ (r % 32) % 2 = 0 → ¬ ¬ mk sp r) := by
  refine ⟨fun h z => ?_, fun h => mk_hi2 hs (by omega), fun h h2 z => ?_⟩
  · by_cases e : r < 32
    · rw [Nat.mod_eq_of_lt e] at h
      unfold mk at z
      omega
    · exact mk_hi2 hs (by omega) z
  · rw [Nat.mod_eq_of_lt (show r < 32 by omega)] at h2
    refine z ?_
    unfold mk
    have := Nat.mod_lt (sp / 2 ^ r) (show 2 > 0 by decide)
    omega
section AUD
variable {n k set : Nat} {sz : Nat → Nat} {ce : Nat → Nat → Nat} {P : Nat → Prop}
def fst1 (sz : Nat → Nat) (ce : Nat → Nat → Nat) (set k : Nat) (P : Nat → Prop) (r : Nat) : Prop := P r ∧ ∀ p, p < r → P p → tpo sz (ce p) set k ≠ tpo sz (ce r) set k
theorem aud_seen (hW : Wf n k sz ce) : ∀ r, r ≤ n → cn (fst1 sz ce set k P) r = cn (fun v => 0 < tc sz ce set k P v r) (tps sz set k)
  | 0, _ => by
    show 0 = _
    exact (cn_0.mpr (fun v _ z => absurd z (Nat.lt_irrefl 0))).symm
  | r + 1, h => by
    have ih := aud_seen hW r (by omega)
    have hlt := tpo_lt (sz := sz) (row := ce r) (set := set) (k := k) (fun c hc => hW.2.2.2 r (by omega) c hc)
    by_cases hf : fst1 sz ce set k P r
    · rw [cn_t hf, ih]
      have h2 := cn_add (p := fun v => 0 < tc sz ce set k P v r) (q := fun v => v = tpo sz (ce r) set k) (s := fun v => 0 < tc sz ce set k P v (r + 1)) (n := tps sz set k) (fun v _ => ⟨⟨fun z => z.elim (fun z => Nat.lt_of_lt_of_le z (tc_le (by omega))) (fun z => by rw [z, tc_t hf.1 rfl]; omega), fun z => by
        by_cases e : v = tpo sz (ce r) set k
        · exact Or.inr e
        · rw [tc_f (fun y => e y.2.symm)] at z
          exact Or.inl z⟩, fun z => by
        obtain ⟨q, q1, q2, q3⟩ := cn_pos.mp z.1
        exact hf.2 q q1 q2 (q3.trans z.2)⟩)
      rw [cn_one hlt] at h2
      exact h2
    · rw [cn_f hf, ih]
      refine cn_cg (fun v _ => ?_)
      by_cases e : P r ∧ tpo sz (ce r) set k = v
      · rw [tc_t e.1 e.2]
        refine ⟨fun _ => by omega, fun _ => ?_⟩
        refine Classical.byContradiction (fun z => hf ⟨e.1, fun p hp hP y => z (cn_pos.mpr ⟨p, hp, hP, y.trans e.2⟩)⟩)
      · rw [tc_f e]
theorem aud_end (hW : Wf n k sz ce) {mo fe : Nat} (h1 : ∀ q, q < n → P q → tc sz ce set k P (tpo sz (ce q) set k) n ≤ mo) (h2 : mo = 0 ∨ ∃ q, q < n ∧ P q ∧ mo = tc sz ce set k P (tpo sz (ce q) set k) n) (h3 : ∀ q, q < n → P q → fe ≤ tc sz ce set k P (tpo sz (ce q) set k) n) (h4 : fe = 36 ∨ ∃ q, q < n ∧ P q ∧ fe = tc sz ce set k P (tpo sz (ce q) set k) n) (h5 : fe ≤ 36) : mo = mxv (fun v => tc sz ce set k P v n) (tps sz set k) ∧ (if cn (fst1 sz ce set k P) n < tps sz set k then 0 else fe) = mnv (fun v => tc sz ce set k P v n) 36 (tps sz set k) := by
  have hlt : ∀ q, q < n → tpo sz (ce q) set k < tps sz set k := fun q hq => tpo_lt (fun c hc => hW.2.2.2 q hq c hc)
  have hs := aud_seen (set := set) (P := P) hW n (Nat.le_refl n)
  constructor
  · apply Nat.le_antisymm
    · rcases h2 with h2 | ⟨q, q1, q2, q3⟩
      · omega
      · rw [q3]
        exact mxv_ge (f := fun v => tc sz ce set k P v n) (hlt q q1)
    · refine mxv_le (fun v hv => ?_)
      rcases Nat.eq_zero_or_pos (tc sz ce set k P v n) with e | e
      · omega
      · obtain ⟨q, q1, q2, q3⟩ := cn_pos.mp e
        have := h1 q q1 q2
        rw [q3] at this
        exact this
  · by_cases e : cn (fst1 sz ce set k P) n < tps sz set k
    · rw [if_pos e]
      rw [hs] at e
      have : ¬ ∀ v, v < tps sz set k → 0 < tc sz ce set k P v n := fun z => by
        rw [cn_full.mpr z] at e
        omega
      obtain ⟨v, hv⟩ := Classical.not_forall.mp this
      have hv1 : v < tps sz set k := Classical.byContradiction fun z => hv (fun q => absurd q z)
      have hv2 : ¬ 0 < tc sz ce set k P v n := fun z => hv (fun _ => z)
      have := mnv_le (f := fun v => tc sz ce set k P v n) (a := 36) hv1
      omega
    · rw [if_neg e]
      rw [hs] at e
      have hle := cn_le (fun v => 0 < tc sz ce set k P v n) (tps sz set k)
      have hall := cn_full.mp (show cn (fun v => 0 < tc sz ce set k P v n) (tps sz set k) = tps sz set k by omega)
      apply Nat.le_antisymm
      · refine mnv_ge h5 (fun v hv => ?_)
        obtain ⟨q, q1, q2, q3⟩ := cn_pos.mp (hall v hv)
        have := h3 q q1 q2
        rw [q3] at this
        exact this
      · rcases h4 with h4 | ⟨q, q1, q2, q3⟩
        · rw [h4]; exact mnv_lea
        · rw [q3]
          exact mnv_le (f := fun v => tc sz ce set k P v n) (hlt q q1)
theorem aud_bal (hW : Wf n k sz ce) : mnv (fun v => tc sz ce set k P v n) 36 (tps sz set k) = mxv (fun v => tc sz ce set k P v n) (tps sz set k) ↔ bal n k sz ce set P := by
  have hT : 0 < tps sz set k := tps_pos (fun c hc => (hW.2.2.1 c hc).1)
  have hsum := tc_sum hW set P
  constructor
  · intro h v hv
    have hall : ∀ u, u < tps sz set k → tc sz ce set k P u n = mxv (fun v => tc sz ce set k P v n) (tps sz set k) := fun u hu => by
      have a1 := mxv_ge (f := fun v => tc sz ce set k P v n) hu
      have a2 := mnv_le (f := fun v => tc sz ce set k P v n) (a := 36) hu
      rw [h] at a2
      exact Nat.le_antisymm a1 a2
    rw [sm_cg hall, sm_const] at hsum
    rw [hall v hv, Nat.mul_comm]
    exact hsum
  · intro h
    have hall : ∀ u, u < tps sz set k → tc sz ce set k P u n = tc sz ce set k P 0 n := fun u hu => Nat.eq_of_mul_eq_mul_right hT ((h u hu).trans (h 0 hT).symm)
    apply Nat.le_antisymm
    · exact Nat.le_trans (mnv_le (f := fun v => tc sz ce set k P v n) hT) (mxv_ge (f := fun v => tc sz ce set k P v n) hT)
    · refine mnv_ge ?_ (fun v hv => mxv_le (fun u hu => ?_))
      · refine mxv_le (fun u hu => ?_)
        have : tc sz ce set k P u n ≤ n := cn_le _ n
        have := hW.1
        omega
      · rw [hall u hu, hall v hv]
        exact Nat.le_refl _
theorem aud_mn (hW : Wf n k sz ce) : mnv (fun v => tc sz ce set k aT v n) 36 (tps sz set k) = mnS n k sz ce set := by
  have hT : 0 < tps sz set k := tps_pos (fun c hc => (hW.2.2.1 c hc).1)
  have h1 := mnv_min (f := fun v => tc sz ce set k aT v n) hW.1 (tps sz set k)
  have h2 := mnv_le (f := fun v => tc sz ce set k aT v n) (a := 36) hT
  have h3 : tc sz ce set k aT 0 n ≤ n := cn_le _ n
  unfold mnS
  refine Eq.trans ?_ h1
  exact (Nat.min_eq_right (Nat.le_trans h2 h3)).symm
end AUD
set_option maxHeartbeats 4000000 in
set_option maxRecDepth 20000 in
theorem w_audits {M : Mem} {n k : Nat} {sz : Nat → Nat} {ce : Nat → Nat → Nat} {set sp : Nat} {P : Nat → Prop} (hA : BX (M 168) n k sz ce) (hW : Wf n k sz ce) (hset : set < 2147483648) (hsp : sp < 2 ^ 12) (hPd : ∀ q, q < n → (P q ↔ ¬ mk sp q)) : CT 3 m_X8_audits [vR 167, vI ((set : Nat) : Int), vI ((sp : Nat) : Int)] M (fun z M' => z = none ∧ (∀ a, a ≠ 167 → M' a = M a) ∧ (∀ j, j ≠ 8 → j ≠ 9 → M' 167 j = M 167 j) ∧ M' 167 8 = ((mnv (fun v => tc sz ce set k P v n) 36 (tps sz set k) : Nat) : Int) ∧ M' 167 9 = ((mxv (fun v => tc sz ce set k P v n) (tps sz set k) : Nat) : Int)) := by
  have b1 := hW.1
  have b2 := hW.2.1
  have hs12 : 2 ^ 12 = 4096 := rfl
  refine CT.ofWP (by decide +kernel) (Nat.le_of_ble_eq_true rfl) ?_
  show WP sc0 3 m_X8_audits 0 [vR 167, vI ((set : Nat) : Int), vI ((sp : Nat) : Int), vU, vU, vU, vU, vU, vU] [] M (fun z M' => z = none ∧ (∀ a, a ≠ 167 → M' a = M a) ∧ (∀ j, j ≠ 8 → j ≠ 9 → M' 167 j = M 167 j) ∧ M' 167 8 = ((mnv (fun v => tc sz ce set k P v n) 36 (tps sz set k) : Nat) : Int) ∧ M' 167 9 = ((mxv (fun v => tc sz ce set k P v n) (tps sz set k) : Nat) : Int))
  refine WP.iconst dX8_audits_0 ?_
  refine WP.istore_n (lt := [vR 167, vI ((set : Nat) : Int), vI ((sp : Nat) : Int), vI (0 : Int), vU, vU, vU, vU, vU]) dX8_audits_1 (by decide) rfl ?_
  refine WP.aload_n dX8_audits_2 rfl ?_
  refine WP.iconst dX8_audits_3 ?_
  refine WP.putI dX8_audits_4 fl_X8_123 (rfl) (by decide) rfl ?_
  refine WP.aload_n dX8_audits_7 rfl ?_
  refine WP.bipush dX8_audits_8 (by decide) ?_
  refine WP.putI dX8_audits_10 fl_X8_126 (rfl) (by decide) rfl ?_
  obtain ⟨M1, hM1⟩ : ∃ z, z = (mset (mset M 167 9 (0 : Int)) 167 8 (36 : Int)) := ⟨_, rfl⟩
  refine WP.eqM hM1.symm ?_
  have hF1 : ∀ a, a ≠ 167 → M1 a = M a := fun a ha => by rw [hM1, mset_o a ha, mset_o a ha]
  have hG1 : ∀ j, j ≠ 8 → j ≠ 9 → M1 167 j = M 167 j := fun j i1 i2 => by rw [hM1, mset_n (Or.inr i1), mset_n (Or.inr i2)]
  have hm1 : M1 167 9 = ((0 : Nat) : Int) := by rw [hM1, mset_n (Or.inr (by decide)), mset_s]; rfl
  have hf1 : M1 167 8 = ((36 : Nat) : Int) := by rw [hM1, mset_s]; rfl
  refine WP.iconst dX8_audits_13 ?_
  refine WP.istore (lt := [vR 167, vI ((set : Nat) : Int), vI ((sp : Nat) : Int), vI (0 : Int), vI (0 : Int), vU, vU, vU, vU]) dX8_audits_14 (by decide) rfl ?_
  have L16 : ∀ (n9 : Nat) (r mo fe : Nat) (M2 : Mem) (hr : r ≤ n) (hF2 : ∀ a, a ≠ 167 → M2 a = M a) (hG2 : ∀ j, j ≠ 8 → j ≠ 9 → M2 167 j = M 167 j) (hm2 : M2 167 9 = (mo : Int)) (hf2 : M2 167 8 = (fe : Int)) (hm3 : ∀ q, q < r → P q → tc sz ce set k P (tpo sz (ce q) set k) n ≤ mo) (hm4 : mo = 0 ∨ ∃ q, q < r ∧ P q ∧ mo = tc sz ce set k P (tpo sz (ce q) set k) n) (hf3 : ∀ q, q < r → P q → fe ≤ tc sz ce set k P (tpo sz (ce q) set k) n) (hf4 : fe = 36 ∨ ∃ q, q < r ∧ P q ∧ fe = tc sz ce set k P (tpo sz (ce q) set k) n) (hf5 : fe ≤ 36 ∧ mo ≤ 36), n - r < n9 → WP sc0 3 m_X8_audits 16 [vR 167, vI ((set : Nat) : Int), vI ((sp : Nat) : Int), vI ((cn (fst1 sz ce set k P) r : Nat) : Int), vI ((r : Nat) : Int), vU, vU, vU, vU] [] M2 (fun z M' => z = none ∧ (∀ a, a ≠ 167 → M' a = M a) ∧ (∀ j, j ≠ 8 → j ≠ 9 → M' 167 j = M 167 j) ∧ M' 167 8 = ((mnv (fun v => tc sz ce set k P v n) 36 (tps sz set k) : Nat) : Int) ∧ M' 167 9 = ((mxv (fun v => tc sz ce set k P v n) (tps sz set k) : Nat) : Int)) := by
    intro n9
    induction n9 with
    | zero =>
      intro r mo fe M2 hr hF2 hG2 hm2 hf2 hm3 hm4 hf3 hf4 hf5 hm9
      exact absurd hm9 (Nat.not_lt_zero _)
    | succ n9 ih16 =>
      intro r mo fe M2 hr hF2 hG2 hm2 hf2 hm3 hm4 hf3 hf4 hf5 hm9
      have hA2 : BX (M2 168) n k sz ce := by rw [hF2 168 (by decide)]; exact hA
      have hcs := cn_le (fst1 sz ce set k P) r
      have hT9 := tps_b (sz := sz) (set := set) b2 (fun b hb => (hW.2.2.1 b hb).2)
      refine WP.iload dX8_audits_16 rfl ?_
      refine WP.aload_n dX8_audits_18 rfl ?_
      refine WP.getR (y := 168) dX8_audits_19 fl_X8_7 (rfl) (by decide) (rfl) ?_
      refine WP.iconst dX8_audits_22 ?_
      refine WP.iaload (y := 0) (x := ((n : Nat) : Int)) dX8_audits_23 (rfl) (by omega) (by omega) (hA2.1) ?_
      refine WP.icmp_ge (tgt := 209) dX8_audits_24 (by decide) (by omega) (by omega) (fun h24 => ?_) (fun h24 => ?_)
      · skip
        have hrn : r = n := by omega
        rw [hrn] at hm3 hm4 hf3 hf4
        obtain ⟨e1, e2⟩ := aud_end (set := set) (P := P) hW hm3 hm4 hf3 hf4 hf5.1
        refine WP.aload_n dX8_audits_209 rfl ?_
        refine WP.iload_n dX8_audits_210 rfl ?_
        refine WP.aload_n dX8_audits_211 rfl ?_
        refine WP.iload_n dX8_audits_212 rfl ?_
        refine WP.callVp (as := [vI ((set : Nat) : Int)]) dX8_audits_213 mv_X8_132 rfl (rfl) (by decide) rfl rfl (w_tuples (set := set) hA2 hW (by omega)) rfl (Nat.le_of_ble_eq_true rfl) (by omega) ?_
        refine WP.icmp_ge (tgt := 223) dX8_audits_216 (by decide) (by omega) (by omega) (fun h216 => ?_) (fun h216 => ?_)
        · skip
          have hfin : fe = mnv (fun v => tc sz ce set k P v n) 36 (tps sz set k) := by
            rw [← e2, ← hrn, if_neg (by omega)]
          refine WP.aload_n dX8_audits_223 rfl ?_
          refine WP.getI (x := ((fe : Nat) : Int)) dX8_audits_224 fl_X8_126 (rfl) (by decide) (hf2) ?_
          refine WP.putI dX8_audits_227 fl_X8_126 (rfl) (by decide) rfl ?_
          obtain ⟨M5, hM5⟩ : ∃ z, z = (mset M2 167 8 ((fe : Nat) : Int)) := ⟨_, rfl⟩
          refine WP.eqM hM5.symm ?_
          have hO5 : ∀ a, a ≠ 167 → M5 a = M2 a := fun a ha => by rw [hM5]; exact mset_o a ha
          refine WP.vret dX8_audits_230 rfl ?_
          refine ⟨rfl, fun a ha => by rw [hO5 a ha]; exact hF2 a ha, fun j i1 i2 => by rw [hM5, mset_n (Or.inr i1)]; exact hG2 j i1 i2, by rw [hM5, mset_s, ← hfin] <;> rfl, by rw [hM5, mset_n (Or.inr (by decide)), ← e1]; exact hm2⟩
        · skip
          have hfin : 0 = mnv (fun v => tc sz ce set k P v n) 36 (tps sz set k) := by
            rw [← e2, ← hrn, if_pos (by omega)]
          refine WP.iconst dX8_audits_219 ?_
          refine WP.goto (tgt := 227) dX8_audits_220 (by decide) ?_
          refine WP.putI dX8_audits_227 fl_X8_126 (rfl) (by decide) rfl ?_
          obtain ⟨M5, hM5⟩ : ∃ z, z = (mset M2 167 8 (0 : Int)) := ⟨_, rfl⟩
          refine WP.eqM hM5.symm ?_
          have hO5 : ∀ a, a ≠ 167 → M5 a = M2 a := fun a ha => by rw [hM5]; exact mset_o a ha
          refine WP.vret dX8_audits_230 rfl ?_
          refine ⟨rfl, fun a ha => by rw [hO5 a ha]; exact hF2 a ha, fun j i1 i2 => by rw [hM5, mset_n (Or.inr i1)]; exact hG2 j i1 i2, by rw [hM5, mset_s, ← hfin] <;> rfl, by rw [hM5, mset_n (Or.inr (by decide)), ← e1]; exact hm2⟩
      · skip
        refine WP.iload_n dX8_audits_27 rfl ?_
        refine WP.iload dX8_audits_28 rfl ?_
        refine WP.ishr (z := ((sp / 2 ^ (r % 32) : Nat) : Int)) dX8_audits_30 (oi_shr36 (by omega) (by omega)) ?_
        refine WP.iconst dX8_audits_31 ?_
        refine WP.iand (z := ((sp / 2 ^ (r % 32) % 2 : Nat) : Int)) dX8_audits_32 (oi_and1 (bit_lt (by omega))) ?_
        have hsbr := sp_bit (r := r) hsp (by omega)
        have hsmr : sp / 2 ^ (r % 32) % 2 < 2 := Nat.mod_lt _ (by decide)
        refine WP.if_eq (tgt := 43) dX8_audits_33 (by decide) (by omega) (fun h33 => ?_) (fun h33 => ?_)
        · skip
          have hPr : P r := (hPd r (by omega)).mpr (hsbr.1 (by omega))
          refine WP.iconst dX8_audits_43 ?_
          refine WP.istore (lt := [vR 167, vI ((set : Nat) : Int), vI ((sp : Nat) : Int), vI ((cn (fst1 sz ce set k P) r : Nat) : Int), vI ((r : Nat) : Int), vI (0 : Int), vU, vU, vU]) dX8_audits_44 (by decide) rfl ?_
          refine WP.iconst dX8_audits_46 ?_
          refine WP.istore (lt := [vR 167, vI ((set : Nat) : Int), vI ((sp : Nat) : Int), vI ((cn (fst1 sz ce set k P) r : Nat) : Int), vI ((r : Nat) : Int), vI (0 : Int), vI (1 : Int), vU, vU]) dX8_audits_47 (by decide) rfl ?_
          refine WP.iconst dX8_audits_49 ?_
          refine WP.istore (lt := [vR 167, vI ((set : Nat) : Int), vI ((sp : Nat) : Int), vI ((cn (fst1 sz ce set k P) r : Nat) : Int), vI ((r : Nat) : Int), vI (0 : Int), vI (1 : Int), vI (0 : Int), vU]) dX8_audits_50 (by decide) rfl ?_
          have L52 : ∀ (n9 : Nat) (q : Nat) (hq : q ≤ n), n - q < n9 → WP sc0 3 m_X8_audits 52 [vR 167, vI ((set : Nat) : Int), vI ((sp : Nat) : Int), vI ((cn (fst1 sz ce set k P) r : Nat) : Int), vI ((r : Nat) : Int), vI ((cn (fun y9 => P y9 ∧ tpo sz (ce y9) set k = tpo sz (ce r) set k) q : Nat) : Int), vI (bi (∀ p, p < q → p < r → P p → tpo sz (ce p) set k ≠ tpo sz (ce r) set k)), vI ((q : Nat) : Int), vU] [] M2 (fun z M' => z = none ∧ (∀ a, a ≠ 167 → M' a = M a) ∧ (∀ j, j ≠ 8 → j ≠ 9 → M' 167 j = M 167 j) ∧ M' 167 8 = ((mnv (fun v => tc sz ce set k P v n) 36 (tps sz set k) : Nat) : Int) ∧ M' 167 9 = ((mxv (fun v => tc sz ce set k P v n) (tps sz set k) : Nat) : Int)) := by
            intro n9
            induction n9 with
            | zero =>
              intro q hq hm9
              exact absurd hm9 (Nat.not_lt_zero _)
            | succ n9 ih52 =>
              intro q hq hm9
              have hcl := cn_le (fun y9 => P y9 ∧ tpo sz (ce y9) set k = tpo sz (ce r) set k) q
              refine WP.iload dX8_audits_52 rfl ?_
              refine WP.aload_n dX8_audits_54 rfl ?_
              refine WP.getR (y := 168) dX8_audits_55 fl_X8_7 (rfl) (by decide) (rfl) ?_
              refine WP.iconst dX8_audits_58 ?_
              refine WP.iaload (y := 0) (x := ((n : Nat) : Int)) dX8_audits_59 (rfl) (by omega) (by omega) (hA2.1) ?_
              refine WP.icmp_ge (tgt := 146) dX8_audits_60 (by decide) (by omega) (by omega) (fun h60 => ?_) (fun h60 => ?_)
              · skip
                have hcn9 : cn (fun y9 => P y9 ∧ tpo sz (ce y9) set k = tpo sz (ce r) set k) q = tc sz ce set k P (tpo sz (ce r) set k) n := by rw [show q = n by omega]; rfl
                have hcn8 : tc sz ce set k P (tpo sz (ce r) set k) n ≤ 36 := by rw [← hcn9]; omega
                refine WP.fgt (lt := [vR 167, vI ((set : Nat) : Int), vI ((sp : Nat) : Int), vI ((cn (fst1 sz ce set k P) r : Nat) : Int), vI ((r : Nat) : Int), vI ((tc sz ce set k P (tpo sz (ce r) set k) n : Nat) : Int), vI (bi (∀ p, p < q → p < r → P p → tpo sz (ce p) set k ≠ tpo sz (ce r) set k)), vI ((q : Nat) : Int), vU]) ⟨Or.inr rfl, Or.inr rfl, Or.inr rfl, Or.inr rfl, Or.inr rfl, Or.inr (congrArg vI (by rw [hcn9])), Or.inr rfl, Or.inr rfl, Or.inl rfl, trivial⟩ ?_
                refine WP.iload_n dX8_audits_146 rfl ?_
                refine WP.iload dX8_audits_147 rfl ?_
                refine WP.if_eq (tgt := 156) dX8_audits_149 (by decide) (bi_rng) (fun h149 => ?_) (fun h149 => ?_)
                · skip
                  have q149 : cn (fst1 sz ce set k P) (r + 1) = cn (fst1 sz ce set k P) r := cn_f (p := fst1 sz ce set k P) (fun z => bi_0 h149 (fun p _ hp => z.2 p hp))
                  refine WP.iconst dX8_audits_156 ?_
                  refine WP.iadd dX8_audits_157 ?_
                  refine WP.istore_n (lt := [vR 167, vI ((set : Nat) : Int), vI ((sp : Nat) : Int), vI (((cn (fst1 sz ce set k P) r : Nat) : Int) + (0 : Int)), vI ((r : Nat) : Int), vI ((tc sz ce set k P (tpo sz (ce r) set k) n : Nat) : Int), vI (bi (∀ p, p < q → p < r → P p → tpo sz (ce p) set k ≠ tpo sz (ce r) set k)), vI ((q : Nat) : Int), vU]) dX8_audits_158 (by decide) rfl ?_
                  refine WP.aload_n dX8_audits_159 rfl ?_
                  refine WP.iload dX8_audits_160 rfl ?_
                  refine WP.aload_n dX8_audits_162 rfl ?_
                  refine WP.getI (x := ((mo : Nat) : Int)) dX8_audits_163 fl_X8_123 (rfl) (by decide) (hm2) ?_
                  refine WP.icmp_le (tgt := 174) dX8_audits_166 (by decide) (by omega) (by omega) (fun h166 => ?_) (fun h166 => ?_)
                  · skip
                    refine WP.aload_n dX8_audits_174 rfl ?_
                    refine WP.getI (x := ((mo : Nat) : Int)) dX8_audits_175 fl_X8_123 (rfl) (by decide) (hm2) ?_
                    refine WP.putI dX8_audits_178 fl_X8_123 (rfl) (by decide) rfl ?_
                    obtain ⟨M3, hM3⟩ : ∃ z, z = (mset M2 167 9 ((mo : Nat) : Int)) := ⟨_, rfl⟩
                    refine WP.eqM hM3.symm ?_
                    have hO3 : ∀ a, a ≠ 167 → M3 a = M2 a := fun a ha => by rw [hM3]; exact mset_o a ha
                    refine WP.aload_n dX8_audits_181 rfl ?_
                    refine WP.iload dX8_audits_182 rfl ?_
                    refine WP.aload_n dX8_audits_184 rfl ?_
                    refine WP.getI (x := ((fe : Nat) : Int)) dX8_audits_185 fl_X8_126 (rfl) (by decide) (by rw [hM3, mset_n (Or.inr (by decide))]; exact hf2) ?_
                    refine WP.icmp_ge (tgt := 196) dX8_audits_188 (by decide) (by omega) (by omega) (fun h188 => ?_) (fun h188 => ?_)
                    · skip
                      refine WP.aload_n dX8_audits_196 rfl ?_
                      refine WP.getI (x := ((fe : Nat) : Int)) dX8_audits_197 fl_X8_126 (rfl) (by decide) (by rw [hM3, mset_n (Or.inr (by decide))]; exact hf2) ?_
                      refine WP.putI dX8_audits_200 fl_X8_126 (rfl) (by decide) rfl ?_
                      obtain ⟨M4, hM4⟩ : ∃ z, z = (mset M3 167 8 ((fe : Nat) : Int)) := ⟨_, rfl⟩
                      refine WP.eqM hM4.symm ?_
                      have hO4 : ∀ a, a ≠ 167 → M4 a = M3 a := fun a ha => by rw [hM4]; exact mset_o a ha
                      refine WP.iinc (lt := [vR 167, vI ((set : Nat) : Int), vI ((sp : Nat) : Int), vI (((cn (fst1 sz ce set k P) r : Nat) : Int) + (0 : Int)), vI (((r : Nat) : Int) + 1), vI ((tc sz ce set k P (tpo sz (ce r) set k) n : Nat) : Int), vI (bi (∀ p, p < q → p < r → P p → tpo sz (ce p) set k ≠ tpo sz (ce r) set k)), vI ((q : Nat) : Int), vU]) dX8_audits_203 rfl (by decide) rfl ?_
                      refine WP.goto (tgt := 16) dX8_audits_206 (by decide) ?_
                      refine WP.fgt (lt := [vR 167, vI ((set : Nat) : Int), vI ((sp : Nat) : Int), vI ((cn (fst1 sz ce set k P) (r + 1) : Nat) : Int), vI (((r + 1) : Nat) : Int), vU, vU, vU, vU]) ⟨Or.inr rfl, Or.inr rfl, Or.inr rfl, Or.inr (congrArg vI (by rw [q149]; omega)), Or.inr (congrArg vI (by omega)), Or.inl rfl, Or.inl rfl, Or.inl rfl, Or.inl rfl, trivial⟩ ?_
                      exact ih16 (r + 1) (mo) (fe) (M4) (by omega) (fun a ha => by rw [hO4 a ha, hO3 a ha]; exact hF2 a ha) (fun j i1 i2 => by rw [hM4, mset_n (Or.inr i1), hM3, mset_n (Or.inr i2)]; exact hG2 j i1 i2) (by rw [hM4, mset_n (Or.inr (by decide)), hM3, mset_s]) (by rw [hM4, mset_s]) (fun q hq hP9 => by
                        by_cases e9 : q = r
                        · rw [e9]; omega
                        · exact hm3 q (by omega) hP9) (hm4.elim Or.inl (fun ⟨q, q1, q2⟩ => Or.inr ⟨q, by omega, q2⟩)) (fun q hq hP9 => by
                        by_cases e9 : q = r
                        · rw [e9]; omega
                        · exact hf3 q (by omega) hP9) (hf4.elim Or.inl (fun ⟨q, q1, q2⟩ => Or.inr ⟨q, by omega, q2⟩)) (by omega) (by omega)
                    · skip
                      refine WP.iload dX8_audits_191 rfl ?_
                      refine WP.goto (tgt := 200) dX8_audits_193 (by decide) ?_
                      refine WP.putI dX8_audits_200 fl_X8_126 (rfl) (by decide) rfl ?_
                      obtain ⟨M4, hM4⟩ : ∃ z, z = (mset M3 167 8 ((tc sz ce set k P (tpo sz (ce r) set k) n : Nat) : Int)) := ⟨_, rfl⟩
                      refine WP.eqM hM4.symm ?_
                      have hO4 : ∀ a, a ≠ 167 → M4 a = M3 a := fun a ha => by rw [hM4]; exact mset_o a ha
                      refine WP.iinc (lt := [vR 167, vI ((set : Nat) : Int), vI ((sp : Nat) : Int), vI (((cn (fst1 sz ce set k P) r : Nat) : Int) + (0 : Int)), vI (((r : Nat) : Int) + 1), vI ((tc sz ce set k P (tpo sz (ce r) set k) n : Nat) : Int), vI (bi (∀ p, p < q → p < r → P p → tpo sz (ce p) set k ≠ tpo sz (ce r) set k)), vI ((q : Nat) : Int), vU]) dX8_audits_203 rfl (by decide) rfl ?_
                      refine WP.goto (tgt := 16) dX8_audits_206 (by decide) ?_
                      refine WP.fgt (lt := [vR 167, vI ((set : Nat) : Int), vI ((sp : Nat) : Int), vI ((cn (fst1 sz ce set k P) (r + 1) : Nat) : Int), vI (((r + 1) : Nat) : Int), vU, vU, vU, vU]) ⟨Or.inr rfl, Or.inr rfl, Or.inr rfl, Or.inr (congrArg vI (by rw [q149]; omega)), Or.inr (congrArg vI (by omega)), Or.inl rfl, Or.inl rfl, Or.inl rfl, Or.inl rfl, trivial⟩ ?_
                      exact ih16 (r + 1) (mo) (tc sz ce set k P (tpo sz (ce r) set k) n) (M4) (by omega) (fun a ha => by rw [hO4 a ha, hO3 a ha]; exact hF2 a ha) (fun j i1 i2 => by rw [hM4, mset_n (Or.inr i1), hM3, mset_n (Or.inr i2)]; exact hG2 j i1 i2) (by rw [hM4, mset_n (Or.inr (by decide)), hM3, mset_s]) (by rw [hM4, mset_s]) (fun q hq hP9 => by
                        by_cases e9 : q = r
                        · rw [e9]; omega
                        · exact hm3 q (by omega) hP9) (hm4.elim Or.inl (fun ⟨q, q1, q2⟩ => Or.inr ⟨q, by omega, q2⟩)) (fun q hq hP9 => by
                        by_cases e9 : q = r
                        · rw [e9]; exact Nat.le_refl _
                        · have := hf3 q (by omega) hP9; omega) (Or.inr ⟨r, by omega, hPr, rfl⟩) (by omega) (by omega)
                  · skip
                    refine WP.iload dX8_audits_169 rfl ?_
                    refine WP.goto (tgt := 178) dX8_audits_171 (by decide) ?_
                    refine WP.putI dX8_audits_178 fl_X8_123 (rfl) (by decide) rfl ?_
                    obtain ⟨M3, hM3⟩ : ∃ z, z = (mset M2 167 9 ((tc sz ce set k P (tpo sz (ce r) set k) n : Nat) : Int)) := ⟨_, rfl⟩
                    refine WP.eqM hM3.symm ?_
                    have hO3 : ∀ a, a ≠ 167 → M3 a = M2 a := fun a ha => by rw [hM3]; exact mset_o a ha
                    refine WP.aload_n dX8_audits_181 rfl ?_
                    refine WP.iload dX8_audits_182 rfl ?_
                    refine WP.aload_n dX8_audits_184 rfl ?_
                    refine WP.getI (x := ((fe : Nat) : Int)) dX8_audits_185 fl_X8_126 (rfl) (by decide) (by rw [hM3, mset_n (Or.inr (by decide))]; exact hf2) ?_
                    refine WP.icmp_ge (tgt := 196) dX8_audits_188 (by decide) (by omega) (by omega) (fun h188 => ?_) (fun h188 => ?_)
                    · skip
                      refine WP.aload_n dX8_audits_196 rfl ?_
                      refine WP.getI (x := ((fe : Nat) : Int)) dX8_audits_197 fl_X8_126 (rfl) (by decide) (by rw [hM3, mset_n (Or.inr (by decide))]; exact hf2) ?_
                      refine WP.putI dX8_audits_200 fl_X8_126 (rfl) (by decide) rfl ?_
                      obtain ⟨M4, hM4⟩ : ∃ z, z = (mset M3 167 8 ((fe : Nat) : Int)) := ⟨_, rfl⟩
                      refine WP.eqM hM4.symm ?_
                      have hO4 : ∀ a, a ≠ 167 → M4 a = M3 a := fun a ha => by rw [hM4]; exact mset_o a ha
                      refine WP.iinc (lt := [vR 167, vI ((set : Nat) : Int), vI ((sp : Nat) : Int), vI (((cn (fst1 sz ce set k P) r : Nat) : Int) + (0 : Int)), vI (((r : Nat) : Int) + 1), vI ((tc sz ce set k P (tpo sz (ce r) set k) n : Nat) : Int), vI (bi (∀ p, p < q → p < r → P p → tpo sz (ce p) set k ≠ tpo sz (ce r) set k)), vI ((q : Nat) : Int), vU]) dX8_audits_203 rfl (by decide) rfl ?_
                      refine WP.goto (tgt := 16) dX8_audits_206 (by decide) ?_
                      refine WP.fgt (lt := [vR 167, vI ((set : Nat) : Int), vI ((sp : Nat) : Int), vI ((cn (fst1 sz ce set k P) (r + 1) : Nat) : Int), vI (((r + 1) : Nat) : Int), vU, vU, vU, vU]) ⟨Or.inr rfl, Or.inr rfl, Or.inr rfl, Or.inr (congrArg vI (by rw [q149]; omega)), Or.inr (congrArg vI (by omega)), Or.inl rfl, Or.inl rfl, Or.inl rfl, Or.inl rfl, trivial⟩ ?_
                      exact ih16 (r + 1) (tc sz ce set k P (tpo sz (ce r) set k) n) (fe) (M4) (by omega) (fun a ha => by rw [hO4 a ha, hO3 a ha]; exact hF2 a ha) (fun j i1 i2 => by rw [hM4, mset_n (Or.inr i1), hM3, mset_n (Or.inr i2)]; exact hG2 j i1 i2) (by rw [hM4, mset_n (Or.inr (by decide)), hM3, mset_s]) (by rw [hM4, mset_s]) (fun q hq hP9 => by
                        by_cases e9 : q = r
                        · rw [e9]; exact Nat.le_refl _
                        · have := hm3 q (by omega) hP9; omega) (Or.inr ⟨r, by omega, hPr, rfl⟩) (fun q hq hP9 => by
                        by_cases e9 : q = r
                        · rw [e9]; omega
                        · exact hf3 q (by omega) hP9) (hf4.elim Or.inl (fun ⟨q, q1, q2⟩ => Or.inr ⟨q, by omega, q2⟩)) (by omega) (by omega)
                    · skip
                      refine WP.iload dX8_audits_191 rfl ?_
                      refine WP.goto (tgt := 200) dX8_audits_193 (by decide) ?_
                      refine WP.putI dX8_audits_200 fl_X8_126 (rfl) (by decide) rfl ?_
                      obtain ⟨M4, hM4⟩ : ∃ z, z = (mset M3 167 8 ((tc sz ce set k P (tpo sz (ce r) set k) n : Nat) : Int)) := ⟨_, rfl⟩
                      refine WP.eqM hM4.symm ?_
                      have hO4 : ∀ a, a ≠ 167 → M4 a = M3 a := fun a ha => by rw [hM4]; exact mset_o a ha
                      refine WP.iinc (lt := [vR 167, vI ((set : Nat) : Int), vI ((sp : Nat) : Int), vI (((cn (fst1 sz ce set k P) r : Nat) : Int) + (0 : Int)), vI (((r : Nat) : Int) + 1), vI ((tc sz ce set k P (tpo sz (ce r) set k) n : Nat) : Int), vI (bi (∀ p, p < q → p < r → P p → tpo sz (ce p) set k ≠ tpo sz (ce r) set k)), vI ((q : Nat) : Int), vU]) dX8_audits_203 rfl (by decide) rfl ?_
                      refine WP.goto (tgt := 16) dX8_audits_206 (by decide) ?_
                      refine WP.fgt (lt := [vR 167, vI ((set : Nat) : Int), vI ((sp : Nat) : Int), vI ((cn (fst1 sz ce set k P) (r + 1) : Nat) : Int), vI (((r + 1) : Nat) : Int), vU, vU, vU, vU]) ⟨Or.inr rfl, Or.inr rfl, Or.inr rfl, Or.inr (congrArg vI (by rw [q149]; omega)), Or.inr (congrArg vI (by omega)), Or.inl rfl, Or.inl rfl, Or.inl rfl, Or.inl rfl, trivial⟩ ?_
                      exact ih16 (r + 1) (tc sz ce set k P (tpo sz (ce r) set k) n) (tc sz ce set k P (tpo sz (ce r) set k) n) (M4) (by omega) (fun a ha => by rw [hO4 a ha, hO3 a ha]; exact hF2 a ha) (fun j i1 i2 => by rw [hM4, mset_n (Or.inr i1), hM3, mset_n (Or.inr i2)]; exact hG2 j i1 i2) (by rw [hM4, mset_n (Or.inr (by decide)), hM3, mset_s]) (by rw [hM4, mset_s]) (fun q hq hP9 => by
                        by_cases e9 : q = r
                        · rw [e9]; exact Nat.le_refl _
                        · have := hm3 q (by omega) hP9; omega) (Or.inr ⟨r, by omega, hPr, rfl⟩) (fun q hq hP9 => by
                        by_cases e9 : q = r
                        · rw [e9]; exact Nat.le_refl _
                        · have := hf3 q (by omega) hP9; omega) (Or.inr ⟨r, by omega, hPr, rfl⟩) (by omega) (by omega)
                · skip
                  have q149 : cn (fst1 sz ce set k P) (r + 1) = cn (fst1 sz ce set k P) r + 1 := cn_t (p := fst1 sz ce set k P) ⟨hPr, fun p hp => bi_1 h149 p (by omega) hp⟩
                  refine WP.iconst dX8_audits_152 ?_
                  refine WP.goto (tgt := 157) dX8_audits_153 (by decide) ?_
                  refine WP.iadd dX8_audits_157 ?_
                  refine WP.istore_n (lt := [vR 167, vI ((set : Nat) : Int), vI ((sp : Nat) : Int), vI (((cn (fst1 sz ce set k P) r : Nat) : Int) + (1 : Int)), vI ((r : Nat) : Int), vI ((tc sz ce set k P (tpo sz (ce r) set k) n : Nat) : Int), vI (bi (∀ p, p < q → p < r → P p → tpo sz (ce p) set k ≠ tpo sz (ce r) set k)), vI ((q : Nat) : Int), vU]) dX8_audits_158 (by decide) rfl ?_
                  refine WP.aload_n dX8_audits_159 rfl ?_
                  refine WP.iload dX8_audits_160 rfl ?_
                  refine WP.aload_n dX8_audits_162 rfl ?_
                  refine WP.getI (x := ((mo : Nat) : Int)) dX8_audits_163 fl_X8_123 (rfl) (by decide) (hm2) ?_
                  refine WP.icmp_le (tgt := 174) dX8_audits_166 (by decide) (by omega) (by omega) (fun h166 => ?_) (fun h166 => ?_)
                  · skip
                    refine WP.aload_n dX8_audits_174 rfl ?_
                    refine WP.getI (x := ((mo : Nat) : Int)) dX8_audits_175 fl_X8_123 (rfl) (by decide) (hm2) ?_
                    refine WP.putI dX8_audits_178 fl_X8_123 (rfl) (by decide) rfl ?_
                    obtain ⟨M3, hM3⟩ : ∃ z, z = (mset M2 167 9 ((mo : Nat) : Int)) := ⟨_, rfl⟩
                    refine WP.eqM hM3.symm ?_
                    have hO3 : ∀ a, a ≠ 167 → M3 a = M2 a := fun a ha => by rw [hM3]; exact mset_o a ha
                    refine WP.aload_n dX8_audits_181 rfl ?_
                    refine WP.iload dX8_audits_182 rfl ?_
                    refine WP.aload_n dX8_audits_184 rfl ?_
                    refine WP.getI (x := ((fe : Nat) : Int)) dX8_audits_185 fl_X8_126 (rfl) (by decide) (by rw [hM3, mset_n (Or.inr (by decide))]; exact hf2) ?_
                    refine WP.icmp_ge (tgt := 196) dX8_audits_188 (by decide) (by omega) (by omega) (fun h188 => ?_) (fun h188 => ?_)
                    · skip
                      refine WP.aload_n dX8_audits_196 rfl ?_
                      refine WP.getI (x := ((fe : Nat) : Int)) dX8_audits_197 fl_X8_126 (rfl) (by decide) (by rw [hM3, mset_n (Or.inr (by decide))]; exact hf2) ?_
                      refine WP.putI dX8_audits_200 fl_X8_126 (rfl) (by decide) rfl ?_
                      obtain ⟨M4, hM4⟩ : ∃ z, z = (mset M3 167 8 ((fe : Nat) : Int)) := ⟨_, rfl⟩
                      refine WP.eqM hM4.symm ?_
                      have hO4 : ∀ a, a ≠ 167 → M4 a = M3 a := fun a ha => by rw [hM4]; exact mset_o a ha
                      refine WP.iinc (lt := [vR 167, vI ((set : Nat) : Int), vI ((sp : Nat) : Int), vI (((cn (fst1 sz ce set k P) r : Nat) : Int) + (1 : Int)), vI (((r : Nat) : Int) + 1), vI ((tc sz ce set k P (tpo sz (ce r) set k) n : Nat) : Int), vI (bi (∀ p, p < q → p < r → P p → tpo sz (ce p) set k ≠ tpo sz (ce r) set k)), vI ((q : Nat) : Int), vU]) dX8_audits_203 rfl (by decide) rfl ?_
                      refine WP.goto (tgt := 16) dX8_audits_206 (by decide) ?_
                      refine WP.fgt (lt := [vR 167, vI ((set : Nat) : Int), vI ((sp : Nat) : Int), vI ((cn (fst1 sz ce set k P) (r + 1) : Nat) : Int), vI (((r + 1) : Nat) : Int), vU, vU, vU, vU]) ⟨Or.inr rfl, Or.inr rfl, Or.inr rfl, Or.inr (congrArg vI (by rw [q149]; omega)), Or.inr (congrArg vI (by omega)), Or.inl rfl, Or.inl rfl, Or.inl rfl, Or.inl rfl, trivial⟩ ?_
                      exact ih16 (r + 1) (mo) (fe) (M4) (by omega) (fun a ha => by rw [hO4 a ha, hO3 a ha]; exact hF2 a ha) (fun j i1 i2 => by rw [hM4, mset_n (Or.inr i1), hM3, mset_n (Or.inr i2)]; exact hG2 j i1 i2) (by rw [hM4, mset_n (Or.inr (by decide)), hM3, mset_s]) (by rw [hM4, mset_s]) (fun q hq hP9 => by
                        by_cases e9 : q = r
                        · rw [e9]; omega
                        · exact hm3 q (by omega) hP9) (hm4.elim Or.inl (fun ⟨q, q1, q2⟩ => Or.inr ⟨q, by omega, q2⟩)) (fun q hq hP9 => by
                        by_cases e9 : q = r
                        · rw [e9]; omega
                        · exact hf3 q (by omega) hP9) (hf4.elim Or.inl (fun ⟨q, q1, q2⟩ => Or.inr ⟨q, by omega, q2⟩)) (by omega) (by omega)
                    · skip
                      refine WP.iload dX8_audits_191 rfl ?_
                      refine WP.goto (tgt := 200) dX8_audits_193 (by decide) ?_
                      refine WP.putI dX8_audits_200 fl_X8_126 (rfl) (by decide) rfl ?_
                      obtain ⟨M4, hM4⟩ : ∃ z, z = (mset M3 167 8 ((tc sz ce set k P (tpo sz (ce r) set k) n : Nat) : Int)) := ⟨_, rfl⟩
                      refine WP.eqM hM4.symm ?_
                      have hO4 : ∀ a, a ≠ 167 → M4 a = M3 a := fun a ha => by rw [hM4]; exact mset_o a ha
                      refine WP.iinc (lt := [vR 167, vI ((set : Nat) : Int), vI ((sp : Nat) : Int), vI (((cn (fst1 sz ce set k P) r : Nat) : Int) + (1 : Int)), vI (((r : Nat) : Int) + 1), vI ((tc sz ce set k P (tpo sz (ce r) set k) n : Nat) : Int), vI (bi (∀ p, p < q → p < r → P p → tpo sz (ce p) set k ≠ tpo sz (ce r) set k)), vI ((q : Nat) : Int), vU]) dX8_audits_203 rfl (by decide) rfl ?_
                      refine WP.goto (tgt := 16) dX8_audits_206 (by decide) ?_
                      refine WP.fgt (lt := [vR 167, vI ((set : Nat) : Int), vI ((sp : Nat) : Int), vI ((cn (fst1 sz ce set k P) (r + 1) : Nat) : Int), vI (((r + 1) : Nat) : Int), vU, vU, vU, vU]) ⟨Or.inr rfl, Or.inr rfl, Or.inr rfl, Or.inr (congrArg vI (by rw [q149]; omega)), Or.inr (congrArg vI (by omega)), Or.inl rfl, Or.inl rfl, Or.inl rfl, Or.inl rfl, trivial⟩ ?_
                      exact ih16 (r + 1) (mo) (tc sz ce set k P (tpo sz (ce r) set k) n) (M4) (by omega) (fun a ha => by rw [hO4 a ha, hO3 a ha]; exact hF2 a ha) (fun j i1 i2 => by rw [hM4, mset_n (Or.inr i1), hM3, mset_n (Or.inr i2)]; exact hG2 j i1 i2) (by rw [hM4, mset_n (Or.inr (by decide)), hM3, mset_s]) (by rw [hM4, mset_s]) (fun q hq hP9 => by
                        by_cases e9 : q = r
                        · rw [e9]; omega
                        · exact hm3 q (by omega) hP9) (hm4.elim Or.inl (fun ⟨q, q1, q2⟩ => Or.inr ⟨q, by omega, q2⟩)) (fun q hq hP9 => by
                        by_cases e9 : q = r
                        · rw [e9]; exact Nat.le_refl _
                        · have := hf3 q (by omega) hP9; omega) (Or.inr ⟨r, by omega, hPr, rfl⟩) (by omega) (by omega)
                  · skip
                    refine WP.iload dX8_audits_169 rfl ?_
                    refine WP.goto (tgt := 178) dX8_audits_171 (by decide) ?_
                    refine WP.putI dX8_audits_178 fl_X8_123 (rfl) (by decide) rfl ?_
                    obtain ⟨M3, hM3⟩ : ∃ z, z = (mset M2 167 9 ((tc sz ce set k P (tpo sz (ce r) set k) n : Nat) : Int)) := ⟨_, rfl⟩
                    refine WP.eqM hM3.symm ?_
                    have hO3 : ∀ a, a ≠ 167 → M3 a = M2 a := fun a ha => by rw [hM3]; exact mset_o a ha
                    refine WP.aload_n dX8_audits_181 rfl ?_
                    refine WP.iload dX8_audits_182 rfl ?_
                    refine WP.aload_n dX8_audits_184 rfl ?_
                    refine WP.getI (x := ((fe : Nat) : Int)) dX8_audits_185 fl_X8_126 (rfl) (by decide) (by rw [hM3, mset_n (Or.inr (by decide))]; exact hf2) ?_
                    refine WP.icmp_ge (tgt := 196) dX8_audits_188 (by decide) (by omega) (by omega) (fun h188 => ?_) (fun h188 => ?_)
                    · skip
                      refine WP.aload_n dX8_audits_196 rfl ?_
                      refine WP.getI (x := ((fe : Nat) : Int)) dX8_audits_197 fl_X8_126 (rfl) (by decide) (by rw [hM3, mset_n (Or.inr (by decide))]; exact hf2) ?_
                      refine WP.putI dX8_audits_200 fl_X8_126 (rfl) (by decide) rfl ?_
                      obtain ⟨M4, hM4⟩ : ∃ z, z = (mset M3 167 8 ((fe : Nat) : Int)) := ⟨_, rfl⟩
                      refine WP.eqM hM4.symm ?_
                      have hO4 : ∀ a, a ≠ 167 → M4 a = M3 a := fun a ha => by rw [hM4]; exact mset_o a ha
                      refine WP.iinc (lt := [vR 167, vI ((set : Nat) : Int), vI ((sp : Nat) : Int), vI (((cn (fst1 sz ce set k P) r : Nat) : Int) + (1 : Int)), vI (((r : Nat) : Int) + 1), vI ((tc sz ce set k P (tpo sz (ce r) set k) n : Nat) : Int), vI (bi (∀ p, p < q → p < r → P p → tpo sz (ce p) set k ≠ tpo sz (ce r) set k)), vI ((q : Nat) : Int), vU]) dX8_audits_203 rfl (by decide) rfl ?_
                      refine WP.goto (tgt := 16) dX8_audits_206 (by decide) ?_
                      refine WP.fgt (lt := [vR 167, vI ((set : Nat) : Int), vI ((sp : Nat) : Int), vI ((cn (fst1 sz ce set k P) (r + 1) : Nat) : Int), vI (((r + 1) : Nat) : Int), vU, vU, vU, vU]) ⟨Or.inr rfl, Or.inr rfl, Or.inr rfl, Or.inr (congrArg vI (by rw [q149]; omega)), Or.inr (congrArg vI (by omega)), Or.inl rfl, Or.inl rfl, Or.inl rfl, Or.inl rfl, trivial⟩ ?_
                      exact ih16 (r + 1) (tc sz ce set k P (tpo sz (ce r) set k) n) (fe) (M4) (by omega) (fun a ha => by rw [hO4 a ha, hO3 a ha]; exact hF2 a ha) (fun j i1 i2 => by rw [hM4, mset_n (Or.inr i1), hM3, mset_n (Or.inr i2)]; exact hG2 j i1 i2) (by rw [hM4, mset_n (Or.inr (by decide)), hM3, mset_s]) (by rw [hM4, mset_s]) (fun q hq hP9 => by
                        by_cases e9 : q = r
                        · rw [e9]; exact Nat.le_refl _
                        · have := hm3 q (by omega) hP9; omega) (Or.inr ⟨r, by omega, hPr, rfl⟩) (fun q hq hP9 => by
                        by_cases e9 : q = r
                        · rw [e9]; omega
                        · exact hf3 q (by omega) hP9) (hf4.elim Or.inl (fun ⟨q, q1, q2⟩ => Or.inr ⟨q, by omega, q2⟩)) (by omega) (by omega)
                    · skip
                      refine WP.iload dX8_audits_191 rfl ?_
                      refine WP.goto (tgt := 200) dX8_audits_193 (by decide) ?_
                      refine WP.putI dX8_audits_200 fl_X8_126 (rfl) (by decide) rfl ?_
                      obtain ⟨M4, hM4⟩ : ∃ z, z = (mset M3 167 8 ((tc sz ce set k P (tpo sz (ce r) set k) n : Nat) : Int)) := ⟨_, rfl⟩
                      refine WP.eqM hM4.symm ?_
                      have hO4 : ∀ a, a ≠ 167 → M4 a = M3 a := fun a ha => by rw [hM4]; exact mset_o a ha
                      refine WP.iinc (lt := [vR 167, vI ((set : Nat) : Int), vI ((sp : Nat) : Int), vI (((cn (fst1 sz ce set k P) r : Nat) : Int) + (1 : Int)), vI (((r : Nat) : Int) + 1), vI ((tc sz ce set k P (tpo sz (ce r) set k) n : Nat) : Int), vI (bi (∀ p, p < q → p < r → P p → tpo sz (ce p) set k ≠ tpo sz (ce r) set k)), vI ((q : Nat) : Int), vU]) dX8_audits_203 rfl (by decide) rfl ?_
                      refine WP.goto (tgt := 16) dX8_audits_206 (by decide) ?_
                      refine WP.fgt (lt := [vR 167, vI ((set : Nat) : Int), vI ((sp : Nat) : Int), vI ((cn (fst1 sz ce set k P) (r + 1) : Nat) : Int), vI (((r + 1) : Nat) : Int), vU, vU, vU, vU]) ⟨Or.inr rfl, Or.inr rfl, Or.inr rfl, Or.inr (congrArg vI (by rw [q149]; omega)), Or.inr (congrArg vI (by omega)), Or.inl rfl, Or.inl rfl, Or.inl rfl, Or.inl rfl, trivial⟩ ?_
                      exact ih16 (r + 1) (tc sz ce set k P (tpo sz (ce r) set k) n) (tc sz ce set k P (tpo sz (ce r) set k) n) (M4) (by omega) (fun a ha => by rw [hO4 a ha, hO3 a ha]; exact hF2 a ha) (fun j i1 i2 => by rw [hM4, mset_n (Or.inr i1), hM3, mset_n (Or.inr i2)]; exact hG2 j i1 i2) (by rw [hM4, mset_n (Or.inr (by decide)), hM3, mset_s]) (by rw [hM4, mset_s]) (fun q hq hP9 => by
                        by_cases e9 : q = r
                        · rw [e9]; exact Nat.le_refl _
                        · have := hm3 q (by omega) hP9; omega) (Or.inr ⟨r, by omega, hPr, rfl⟩) (fun q hq hP9 => by
                        by_cases e9 : q = r
                        · rw [e9]; exact Nat.le_refl _
                        · have := hf3 q (by omega) hP9; omega) (Or.inr ⟨r, by omega, hPr, rfl⟩) (by omega) (by omega)
              · skip
                refine WP.iload_n dX8_audits_63 rfl ?_
                refine WP.iload dX8_audits_64 rfl ?_
                refine WP.ishr (z := ((sp / 2 ^ (q % 32) : Nat) : Int)) dX8_audits_66 (oi_shr36 (by omega) (by omega)) ?_
                refine WP.iconst dX8_audits_67 ?_
                refine WP.iand (z := ((sp / 2 ^ (q % 32) % 2 : Nat) : Int)) dX8_audits_68 (oi_and1 (bit_lt (by omega))) ?_
                have hsbq := sp_bit (r := q) hsp (by omega)
                have hsmq : sp / 2 ^ (q % 32) % 2 < 2 := Nat.mod_lt _ (by decide)
                refine WP.if_eq (tgt := 79) dX8_audits_69 (by decide) (by omega) (fun h69 => ?_) (fun h69 => ?_)
                · skip
                  have hPq : P q := (hPd q (by omega)).mpr (hsbq.1 (by omega))
                  refine WP.aload_n dX8_audits_79 rfl ?_
                  refine WP.iload dX8_audits_80 rfl ?_
                  refine WP.iload_n dX8_audits_82 rfl ?_
                  refine WP.callVp (as := [vI ((q : Nat) : Int), vI ((set : Nat) : Int)]) dX8_audits_83 mv_X8_129 rfl (rfl) (by decide) rfl rfl (w_tupleOf (r := q) (set := set) hA2 hW (by omega) (by omega)) rfl (Nat.le_of_ble_eq_true rfl) (by omega) ?_
                  have wtq := tpo_lt (sz := sz) (row := ce q) (set := set) (k := k) (fun b hb => hW.2.2.2 q (by omega) b hb)
                  refine WP.aload_n dX8_audits_86 rfl ?_
                  refine WP.iload dX8_audits_87 rfl ?_
                  refine WP.iload_n dX8_audits_89 rfl ?_
                  refine WP.callVp (as := [vI ((r : Nat) : Int), vI ((set : Nat) : Int)]) dX8_audits_90 mv_X8_129 rfl (rfl) (by decide) rfl rfl (w_tupleOf (r := r) (set := set) hA2 hW (by omega) (by omega)) rfl (Nat.le_of_ble_eq_true rfl) (by omega) ?_
                  have wtr := tpo_lt (sz := sz) (row := ce r) (set := set) (k := k) (fun b hb => hW.2.2.2 r (by omega) b hb)
                  refine WP.icmp_ne (tgt := 100) dX8_audits_93 (by decide) (by omega) (by omega) (fun h93 => ?_) (fun h93 => ?_)
                  · skip
                    have hIS : ¬ (P q ∧ tpo sz (ce q) set k = tpo sz (ce r) set k) := fun z => by have := z.2; omega
                    have q101 : cn (fun y9 => P y9 ∧ tpo sz (ce y9) set k = tpo sz (ce r) set k) (q + 1) = cn (fun y9 => P y9 ∧ tpo sz (ce y9) set k = tpo sz (ce r) set k) q := cn_f (p := (fun y9 => P y9 ∧ tpo sz (ce y9) set k = tpo sz (ce r) set k)) hIS
                    refine WP.iconst dX8_audits_100 ?_
                    refine WP.istore (lt := [vR 167, vI ((set : Nat) : Int), vI ((sp : Nat) : Int), vI ((cn (fst1 sz ce set k P) r : Nat) : Int), vI ((r : Nat) : Int), vI ((cn (fun y9 => P y9 ∧ tpo sz (ce y9) set k = tpo sz (ce r) set k) q : Nat) : Int), vI (bi (∀ p, p < q → p < r → P p → tpo sz (ce p) set k ≠ tpo sz (ce r) set k)), vI ((q : Nat) : Int), vI (0 : Int)]) dX8_audits_101 (by decide) rfl ?_
                    refine WP.iload dX8_audits_103 rfl ?_
                    refine WP.iload dX8_audits_105 rfl ?_
                    refine WP.if_eq (tgt := 114) dX8_audits_107 (by decide) (by omega) (fun h107 => ?_) (fun h107 => ?_)
                    · skip
                      refine WP.iconst dX8_audits_114 ?_
                      refine WP.iadd dX8_audits_115 ?_
                      refine WP.istore (lt := [vR 167, vI ((set : Nat) : Int), vI ((sp : Nat) : Int), vI ((cn (fst1 sz ce set k P) r : Nat) : Int), vI ((r : Nat) : Int), vI (((cn (fun y9 => P y9 ∧ tpo sz (ce y9) set k = tpo sz (ce r) set k) q : Nat) : Int) + (0 : Int)), vI (bi (∀ p, p < q → p < r → P p → tpo sz (ce p) set k ≠ tpo sz (ce r) set k)), vI ((q : Nat) : Int), vI (0 : Int)]) dX8_audits_116 (by decide) rfl ?_
                      refine WP.iload dX8_audits_118 rfl ?_
                      refine WP.iload dX8_audits_120 rfl ?_
                      refine WP.if_eq (tgt := 132) dX8_audits_122 (by decide) (by omega) (fun h122 => ?_) (fun h122 => ?_)
                      · skip
                        refine WP.iconst dX8_audits_132 ?_
                        refine WP.goto (tgt := 137) dX8_audits_133 (by decide) ?_
                        refine WP.iand (z := bi (∀ p, p < q → p < r → P p → tpo sz (ce p) set k ≠ tpo sz (ce r) set k)) dX8_audits_137 (by rcases @bi_01 (∀ p, p < q → p < r → P p → tpo sz (ce p) set k ≠ tpo sz (ce r) set k) with z9 | z9 <;> rw [z9] <;> decide) ?_
                        refine WP.istore (lt := [vR 167, vI ((set : Nat) : Int), vI ((sp : Nat) : Int), vI ((cn (fst1 sz ce set k P) r : Nat) : Int), vI ((r : Nat) : Int), vI (((cn (fun y9 => P y9 ∧ tpo sz (ce y9) set k = tpo sz (ce r) set k) q : Nat) : Int) + (0 : Int)), vI (bi (∀ p, p < q → p < r → P p → tpo sz (ce p) set k ≠ tpo sz (ce r) set k)), vI ((q : Nat) : Int), vI (0 : Int)]) dX8_audits_138 (by decide) rfl ?_
                        refine WP.iinc (lt := [vR 167, vI ((set : Nat) : Int), vI ((sp : Nat) : Int), vI ((cn (fst1 sz ce set k P) r : Nat) : Int), vI ((r : Nat) : Int), vI (((cn (fun y9 => P y9 ∧ tpo sz (ce y9) set k = tpo sz (ce r) set k) q : Nat) : Int) + (0 : Int)), vI (bi (∀ p, p < q → p < r → P p → tpo sz (ce p) set k ≠ tpo sz (ce r) set k)), vI (((q : Nat) : Int) + 1), vI (0 : Int)]) dX8_audits_140 rfl (by decide) rfl ?_
                        refine WP.goto (tgt := 52) dX8_audits_143 (by decide) ?_
                        refine WP.fgt (lt := [vR 167, vI ((set : Nat) : Int), vI ((sp : Nat) : Int), vI ((cn (fst1 sz ce set k P) r : Nat) : Int), vI ((r : Nat) : Int), vI ((cn (fun y9 => P y9 ∧ tpo sz (ce y9) set k = tpo sz (ce r) set k) (q + 1) : Nat) : Int), vI (bi (∀ p, p < (q + 1) → p < r → P p → tpo sz (ce p) set k ≠ tpo sz (ce r) set k)), vI (((q + 1) : Nat) : Int), vU]) ⟨Or.inr rfl, Or.inr rfl, Or.inr rfl, Or.inr rfl, Or.inr rfl, Or.inr (congrArg vI (by rw [q101]; omega)), Or.inr (congrArg vI (bi_cg ⟨fun z p hp => z p (by omega), fun z p hp hpr hP9 => by
                          by_cases e9 : p = q
                          · rw [e9] at hP9 ⊢; exact fun y => hIS ⟨hP9, y⟩
                          · exact z p (by omega) hpr hP9⟩)), Or.inr (congrArg vI (by omega)), Or.inl rfl, trivial⟩ ?_
                        exact ih52 (q + 1) (by omega) (by omega)
                      · skip
                        exact absurd rfl h122
                    · skip
                      exact absurd rfl h107
                  · skip
                    have hIS : P q ∧ tpo sz (ce q) set k = tpo sz (ce r) set k := ⟨hPq, by omega⟩
                    have q101 : cn (fun y9 => P y9 ∧ tpo sz (ce y9) set k = tpo sz (ce r) set k) (q + 1) = cn (fun y9 => P y9 ∧ tpo sz (ce y9) set k = tpo sz (ce r) set k) q + 1 := cn_t (p := (fun y9 => P y9 ∧ tpo sz (ce y9) set k = tpo sz (ce r) set k)) hIS
                    refine WP.iconst dX8_audits_96 ?_
                    refine WP.goto (tgt := 101) dX8_audits_97 (by decide) ?_
                    refine WP.istore (lt := [vR 167, vI ((set : Nat) : Int), vI ((sp : Nat) : Int), vI ((cn (fst1 sz ce set k P) r : Nat) : Int), vI ((r : Nat) : Int), vI ((cn (fun y9 => P y9 ∧ tpo sz (ce y9) set k = tpo sz (ce r) set k) q : Nat) : Int), vI (bi (∀ p, p < q → p < r → P p → tpo sz (ce p) set k ≠ tpo sz (ce r) set k)), vI ((q : Nat) : Int), vI (1 : Int)]) dX8_audits_101 (by decide) rfl ?_
                    refine WP.iload dX8_audits_103 rfl ?_
                    refine WP.iload dX8_audits_105 rfl ?_
                    refine WP.if_eq (tgt := 114) dX8_audits_107 (by decide) (by omega) (fun h107 => ?_) (fun h107 => ?_)
                    · skip
                      exact absurd h107 (by decide)
                    · skip
                      refine WP.iconst dX8_audits_110 ?_
                      refine WP.goto (tgt := 115) dX8_audits_111 (by decide) ?_
                      refine WP.iadd dX8_audits_115 ?_
                      refine WP.istore (lt := [vR 167, vI ((set : Nat) : Int), vI ((sp : Nat) : Int), vI ((cn (fst1 sz ce set k P) r : Nat) : Int), vI ((r : Nat) : Int), vI (((cn (fun y9 => P y9 ∧ tpo sz (ce y9) set k = tpo sz (ce r) set k) q : Nat) : Int) + (1 : Int)), vI (bi (∀ p, p < q → p < r → P p → tpo sz (ce p) set k ≠ tpo sz (ce r) set k)), vI ((q : Nat) : Int), vI (1 : Int)]) dX8_audits_116 (by decide) rfl ?_
                      refine WP.iload dX8_audits_118 rfl ?_
                      refine WP.iload dX8_audits_120 rfl ?_
                      refine WP.if_eq (tgt := 132) dX8_audits_122 (by decide) (by omega) (fun h122 => ?_) (fun h122 => ?_)
                      · skip
                        exact absurd h122 (by decide)
                      · skip
                        refine WP.iload dX8_audits_125 rfl ?_
                        refine WP.iload dX8_audits_127 rfl ?_
                        refine WP.icmp_lt (tgt := 136) dX8_audits_129 (by decide) (by omega) (by omega) (fun h129 => ?_) (fun h129 => ?_)
                        · skip
                          refine WP.iconst dX8_audits_136 ?_
                          refine WP.iand (z := (0 : Int)) dX8_audits_137 (by rcases @bi_01 (∀ p, p < q → p < r → P p → tpo sz (ce p) set k ≠ tpo sz (ce r) set k) with z9 | z9 <;> rw [z9] <;> decide) ?_
                          refine WP.istore (lt := [vR 167, vI ((set : Nat) : Int), vI ((sp : Nat) : Int), vI ((cn (fst1 sz ce set k P) r : Nat) : Int), vI ((r : Nat) : Int), vI (((cn (fun y9 => P y9 ∧ tpo sz (ce y9) set k = tpo sz (ce r) set k) q : Nat) : Int) + (1 : Int)), vI (0 : Int), vI ((q : Nat) : Int), vI (1 : Int)]) dX8_audits_138 (by decide) rfl ?_
                          refine WP.iinc (lt := [vR 167, vI ((set : Nat) : Int), vI ((sp : Nat) : Int), vI ((cn (fst1 sz ce set k P) r : Nat) : Int), vI ((r : Nat) : Int), vI (((cn (fun y9 => P y9 ∧ tpo sz (ce y9) set k = tpo sz (ce r) set k) q : Nat) : Int) + (1 : Int)), vI (0 : Int), vI (((q : Nat) : Int) + 1), vI (1 : Int)]) dX8_audits_140 rfl (by decide) rfl ?_
                          refine WP.goto (tgt := 52) dX8_audits_143 (by decide) ?_
                          refine WP.fgt (lt := [vR 167, vI ((set : Nat) : Int), vI ((sp : Nat) : Int), vI ((cn (fst1 sz ce set k P) r : Nat) : Int), vI ((r : Nat) : Int), vI ((cn (fun y9 => P y9 ∧ tpo sz (ce y9) set k = tpo sz (ce r) set k) (q + 1) : Nat) : Int), vI (bi (∀ p, p < (q + 1) → p < r → P p → tpo sz (ce p) set k ≠ tpo sz (ce r) set k)), vI (((q + 1) : Nat) : Int), vU]) ⟨Or.inr rfl, Or.inr rfl, Or.inr rfl, Or.inr rfl, Or.inr rfl, Or.inr (congrArg vI (by rw [q101]; omega)), Or.inr (congrArg vI (bi_f (fun z => z q (by omega) (by omega) hIS.1 hIS.2))), Or.inr (congrArg vI (by omega)), Or.inl rfl, trivial⟩ ?_
                          exact ih52 (q + 1) (by omega) (by omega)
                        · skip
                          refine WP.iconst dX8_audits_132 ?_
                          refine WP.goto (tgt := 137) dX8_audits_133 (by decide) ?_
                          refine WP.iand (z := bi (∀ p, p < q → p < r → P p → tpo sz (ce p) set k ≠ tpo sz (ce r) set k)) dX8_audits_137 (by rcases @bi_01 (∀ p, p < q → p < r → P p → tpo sz (ce p) set k ≠ tpo sz (ce r) set k) with z9 | z9 <;> rw [z9] <;> decide) ?_
                          refine WP.istore (lt := [vR 167, vI ((set : Nat) : Int), vI ((sp : Nat) : Int), vI ((cn (fst1 sz ce set k P) r : Nat) : Int), vI ((r : Nat) : Int), vI (((cn (fun y9 => P y9 ∧ tpo sz (ce y9) set k = tpo sz (ce r) set k) q : Nat) : Int) + (1 : Int)), vI (bi (∀ p, p < q → p < r → P p → tpo sz (ce p) set k ≠ tpo sz (ce r) set k)), vI ((q : Nat) : Int), vI (1 : Int)]) dX8_audits_138 (by decide) rfl ?_
                          refine WP.iinc (lt := [vR 167, vI ((set : Nat) : Int), vI ((sp : Nat) : Int), vI ((cn (fst1 sz ce set k P) r : Nat) : Int), vI ((r : Nat) : Int), vI (((cn (fun y9 => P y9 ∧ tpo sz (ce y9) set k = tpo sz (ce r) set k) q : Nat) : Int) + (1 : Int)), vI (bi (∀ p, p < q → p < r → P p → tpo sz (ce p) set k ≠ tpo sz (ce r) set k)), vI (((q : Nat) : Int) + 1), vI (1 : Int)]) dX8_audits_140 rfl (by decide) rfl ?_
                          refine WP.goto (tgt := 52) dX8_audits_143 (by decide) ?_
                          refine WP.fgt (lt := [vR 167, vI ((set : Nat) : Int), vI ((sp : Nat) : Int), vI ((cn (fst1 sz ce set k P) r : Nat) : Int), vI ((r : Nat) : Int), vI ((cn (fun y9 => P y9 ∧ tpo sz (ce y9) set k = tpo sz (ce r) set k) (q + 1) : Nat) : Int), vI (bi (∀ p, p < (q + 1) → p < r → P p → tpo sz (ce p) set k ≠ tpo sz (ce r) set k)), vI (((q + 1) : Nat) : Int), vU]) ⟨Or.inr rfl, Or.inr rfl, Or.inr rfl, Or.inr rfl, Or.inr rfl, Or.inr (congrArg vI (by rw [q101]; omega)), Or.inr (congrArg vI (bi_cg ⟨fun z p hp => z p (by omega), fun z p hp hpr hP9 => z p (by omega) hpr hP9⟩)), Or.inr (congrArg vI (by omega)), Or.inl rfl, trivial⟩ ?_
                          exact ih52 (q + 1) (by omega) (by omega)
                · skip
                  refine WP.iload dX8_audits_72 rfl ?_
                  refine WP.bipush dX8_audits_74 (by decide) ?_
                  refine WP.icmp_le (tgt := 100) dX8_audits_76 (by decide) (by omega) (by omega) (fun h76 => ?_) (fun h76 => ?_)
                  · skip
                    have hIS : ¬ (P q ∧ tpo sz (ce q) set k = tpo sz (ce r) set k) := fun z => hsbq.2.2 (by omega) (by omega) ((hPd q (by omega)).mp z.1)
                    have q101 : cn (fun y9 => P y9 ∧ tpo sz (ce y9) set k = tpo sz (ce r) set k) (q + 1) = cn (fun y9 => P y9 ∧ tpo sz (ce y9) set k = tpo sz (ce r) set k) q := cn_f (p := (fun y9 => P y9 ∧ tpo sz (ce y9) set k = tpo sz (ce r) set k)) hIS
                    refine WP.iconst dX8_audits_100 ?_
                    refine WP.istore (lt := [vR 167, vI ((set : Nat) : Int), vI ((sp : Nat) : Int), vI ((cn (fst1 sz ce set k P) r : Nat) : Int), vI ((r : Nat) : Int), vI ((cn (fun y9 => P y9 ∧ tpo sz (ce y9) set k = tpo sz (ce r) set k) q : Nat) : Int), vI (bi (∀ p, p < q → p < r → P p → tpo sz (ce p) set k ≠ tpo sz (ce r) set k)), vI ((q : Nat) : Int), vI (0 : Int)]) dX8_audits_101 (by decide) rfl ?_
                    refine WP.iload dX8_audits_103 rfl ?_
                    refine WP.iload dX8_audits_105 rfl ?_
                    refine WP.if_eq (tgt := 114) dX8_audits_107 (by decide) (by omega) (fun h107 => ?_) (fun h107 => ?_)
                    · skip
                      refine WP.iconst dX8_audits_114 ?_
                      refine WP.iadd dX8_audits_115 ?_
                      refine WP.istore (lt := [vR 167, vI ((set : Nat) : Int), vI ((sp : Nat) : Int), vI ((cn (fst1 sz ce set k P) r : Nat) : Int), vI ((r : Nat) : Int), vI (((cn (fun y9 => P y9 ∧ tpo sz (ce y9) set k = tpo sz (ce r) set k) q : Nat) : Int) + (0 : Int)), vI (bi (∀ p, p < q → p < r → P p → tpo sz (ce p) set k ≠ tpo sz (ce r) set k)), vI ((q : Nat) : Int), vI (0 : Int)]) dX8_audits_116 (by decide) rfl ?_
                      refine WP.iload dX8_audits_118 rfl ?_
                      refine WP.iload dX8_audits_120 rfl ?_
                      refine WP.if_eq (tgt := 132) dX8_audits_122 (by decide) (by omega) (fun h122 => ?_) (fun h122 => ?_)
                      · skip
                        refine WP.iconst dX8_audits_132 ?_
                        refine WP.goto (tgt := 137) dX8_audits_133 (by decide) ?_
                        refine WP.iand (z := bi (∀ p, p < q → p < r → P p → tpo sz (ce p) set k ≠ tpo sz (ce r) set k)) dX8_audits_137 (by rcases @bi_01 (∀ p, p < q → p < r → P p → tpo sz (ce p) set k ≠ tpo sz (ce r) set k) with z9 | z9 <;> rw [z9] <;> decide) ?_
                        refine WP.istore (lt := [vR 167, vI ((set : Nat) : Int), vI ((sp : Nat) : Int), vI ((cn (fst1 sz ce set k P) r : Nat) : Int), vI ((r : Nat) : Int), vI (((cn (fun y9 => P y9 ∧ tpo sz (ce y9) set k = tpo sz (ce r) set k) q : Nat) : Int) + (0 : Int)), vI (bi (∀ p, p < q → p < r → P p → tpo sz (ce p) set k ≠ tpo sz (ce r) set k)), vI ((q : Nat) : Int), vI (0 : Int)]) dX8_audits_138 (by decide) rfl ?_
                        refine WP.iinc (lt := [vR 167, vI ((set : Nat) : Int), vI ((sp : Nat) : Int), vI ((cn (fst1 sz ce set k P) r : Nat) : Int), vI ((r : Nat) : Int), vI (((cn (fun y9 => P y9 ∧ tpo sz (ce y9) set k = tpo sz (ce r) set k) q : Nat) : Int) + (0 : Int)), vI (bi (∀ p, p < q → p < r → P p → tpo sz (ce p) set k ≠ tpo sz (ce r) set k)), vI (((q : Nat) : Int) + 1), vI (0 : Int)]) dX8_audits_140 rfl (by decide) rfl ?_
                        refine WP.goto (tgt := 52) dX8_audits_143 (by decide) ?_
                        refine WP.fgt (lt := [vR 167, vI ((set : Nat) : Int), vI ((sp : Nat) : Int), vI ((cn (fst1 sz ce set k P) r : Nat) : Int), vI ((r : Nat) : Int), vI ((cn (fun y9 => P y9 ∧ tpo sz (ce y9) set k = tpo sz (ce r) set k) (q + 1) : Nat) : Int), vI (bi (∀ p, p < (q + 1) → p < r → P p → tpo sz (ce p) set k ≠ tpo sz (ce r) set k)), vI (((q + 1) : Nat) : Int), vU]) ⟨Or.inr rfl, Or.inr rfl, Or.inr rfl, Or.inr rfl, Or.inr rfl, Or.inr (congrArg vI (by rw [q101]; omega)), Or.inr (congrArg vI (bi_cg ⟨fun z p hp => z p (by omega), fun z p hp hpr hP9 => by
                          by_cases e9 : p = q
                          · rw [e9] at hP9 ⊢; exact fun y => hIS ⟨hP9, y⟩
                          · exact z p (by omega) hpr hP9⟩)), Or.inr (congrArg vI (by omega)), Or.inl rfl, trivial⟩ ?_
                        exact ih52 (q + 1) (by omega) (by omega)
                      · skip
                        exact absurd rfl h122
                    · skip
                      exact absurd rfl h107
                  · skip
                    have hPq : P q := (hPd q (by omega)).mpr (hsbq.2.1 (by omega))
                    refine WP.aload_n dX8_audits_79 rfl ?_
                    refine WP.iload dX8_audits_80 rfl ?_
                    refine WP.iload_n dX8_audits_82 rfl ?_
                    refine WP.callVp (as := [vI ((q : Nat) : Int), vI ((set : Nat) : Int)]) dX8_audits_83 mv_X8_129 rfl (rfl) (by decide) rfl rfl (w_tupleOf (r := q) (set := set) hA2 hW (by omega) (by omega)) rfl (Nat.le_of_ble_eq_true rfl) (by omega) ?_
                    have wtq := tpo_lt (sz := sz) (row := ce q) (set := set) (k := k) (fun b hb => hW.2.2.2 q (by omega) b hb)
                    refine WP.aload_n dX8_audits_86 rfl ?_
                    refine WP.iload dX8_audits_87 rfl ?_
                    refine WP.iload_n dX8_audits_89 rfl ?_
                    refine WP.callVp (as := [vI ((r : Nat) : Int), vI ((set : Nat) : Int)]) dX8_audits_90 mv_X8_129 rfl (rfl) (by decide) rfl rfl (w_tupleOf (r := r) (set := set) hA2 hW (by omega) (by omega)) rfl (Nat.le_of_ble_eq_true rfl) (by omega) ?_
                    have wtr := tpo_lt (sz := sz) (row := ce r) (set := set) (k := k) (fun b hb => hW.2.2.2 r (by omega) b hb)
                    refine WP.icmp_ne (tgt := 100) dX8_audits_93 (by decide) (by omega) (by omega) (fun h93 => ?_) (fun h93 => ?_)
                    · skip
                      have hIS : ¬ (P q ∧ tpo sz (ce q) set k = tpo sz (ce r) set k) := fun z => by have := z.2; omega
                      have q101 : cn (fun y9 => P y9 ∧ tpo sz (ce y9) set k = tpo sz (ce r) set k) (q + 1) = cn (fun y9 => P y9 ∧ tpo sz (ce y9) set k = tpo sz (ce r) set k) q := cn_f (p := (fun y9 => P y9 ∧ tpo sz (ce y9) set k = tpo sz (ce r) set k)) hIS
                      refine WP.iconst dX8_audits_100 ?_
                      refine WP.istore (lt := [vR 167, vI ((set : Nat) : Int), vI ((sp : Nat) : Int), vI ((cn (fst1 sz ce set k P) r : Nat) : Int), vI ((r : Nat) : Int), vI ((cn (fun y9 => P y9 ∧ tpo sz (ce y9) set k = tpo sz (ce r) set k) q : Nat) : Int), vI (bi (∀ p, p < q → p < r → P p → tpo sz (ce p) set k ≠ tpo sz (ce r) set k)), vI ((q : Nat) : Int), vI (0 : Int)]) dX8_audits_101 (by decide) rfl ?_
                      refine WP.iload dX8_audits_103 rfl ?_
                      refine WP.iload dX8_audits_105 rfl ?_
                      refine WP.if_eq (tgt := 114) dX8_audits_107 (by decide) (by omega) (fun h107 => ?_) (fun h107 => ?_)
                      · skip
                        refine WP.iconst dX8_audits_114 ?_
                        refine WP.iadd dX8_audits_115 ?_
                        refine WP.istore (lt := [vR 167, vI ((set : Nat) : Int), vI ((sp : Nat) : Int), vI ((cn (fst1 sz ce set k P) r : Nat) : Int), vI ((r : Nat) : Int), vI (((cn (fun y9 => P y9 ∧ tpo sz (ce y9) set k = tpo sz (ce r) set k) q : Nat) : Int) + (0 : Int)), vI (bi (∀ p, p < q → p < r → P p → tpo sz (ce p) set k ≠ tpo sz (ce r) set k)), vI ((q : Nat) : Int), vI (0 : Int)]) dX8_audits_116 (by decide) rfl ?_
                        refine WP.iload dX8_audits_118 rfl ?_
                        refine WP.iload dX8_audits_120 rfl ?_
                        refine WP.if_eq (tgt := 132) dX8_audits_122 (by decide) (by omega) (fun h122 => ?_) (fun h122 => ?_)
                        · skip
                          refine WP.iconst dX8_audits_132 ?_
                          refine WP.goto (tgt := 137) dX8_audits_133 (by decide) ?_
                          refine WP.iand (z := bi (∀ p, p < q → p < r → P p → tpo sz (ce p) set k ≠ tpo sz (ce r) set k)) dX8_audits_137 (by rcases @bi_01 (∀ p, p < q → p < r → P p → tpo sz (ce p) set k ≠ tpo sz (ce r) set k) with z9 | z9 <;> rw [z9] <;> decide) ?_
                          refine WP.istore (lt := [vR 167, vI ((set : Nat) : Int), vI ((sp : Nat) : Int), vI ((cn (fst1 sz ce set k P) r : Nat) : Int), vI ((r : Nat) : Int), vI (((cn (fun y9 => P y9 ∧ tpo sz (ce y9) set k = tpo sz (ce r) set k) q : Nat) : Int) + (0 : Int)), vI (bi (∀ p, p < q → p < r → P p → tpo sz (ce p) set k ≠ tpo sz (ce r) set k)), vI ((q : Nat) : Int), vI (0 : Int)]) dX8_audits_138 (by decide) rfl ?_
                          refine WP.iinc (lt := [vR 167, vI ((set : Nat) : Int), vI ((sp : Nat) : Int), vI ((cn (fst1 sz ce set k P) r : Nat) : Int), vI ((r : Nat) : Int), vI (((cn (fun y9 => P y9 ∧ tpo sz (ce y9) set k = tpo sz (ce r) set k) q : Nat) : Int) + (0 : Int)), vI (bi (∀ p, p < q → p < r → P p → tpo sz (ce p) set k ≠ tpo sz (ce r) set k)), vI (((q : Nat) : Int) + 1), vI (0 : Int)]) dX8_audits_140 rfl (by decide) rfl ?_
                          refine WP.goto (tgt := 52) dX8_audits_143 (by decide) ?_
                          refine WP.fgt (lt := [vR 167, vI ((set : Nat) : Int), vI ((sp : Nat) : Int), vI ((cn (fst1 sz ce set k P) r : Nat) : Int), vI ((r : Nat) : Int), vI ((cn (fun y9 => P y9 ∧ tpo sz (ce y9) set k = tpo sz (ce r) set k) (q + 1) : Nat) : Int), vI (bi (∀ p, p < (q + 1) → p < r → P p → tpo sz (ce p) set k ≠ tpo sz (ce r) set k)), vI (((q + 1) : Nat) : Int), vU]) ⟨Or.inr rfl, Or.inr rfl, Or.inr rfl, Or.inr rfl, Or.inr rfl, Or.inr (congrArg vI (by rw [q101]; omega)), Or.inr (congrArg vI (bi_cg ⟨fun z p hp => z p (by omega), fun z p hp hpr hP9 => by
                            by_cases e9 : p = q
                            · rw [e9] at hP9 ⊢; exact fun y => hIS ⟨hP9, y⟩
                            · exact z p (by omega) hpr hP9⟩)), Or.inr (congrArg vI (by omega)), Or.inl rfl, trivial⟩ ?_
                          exact ih52 (q + 1) (by omega) (by omega)
                        · skip
                          exact absurd rfl h122
                      · skip
                        exact absurd rfl h107
                    · skip
                      have hIS : P q ∧ tpo sz (ce q) set k = tpo sz (ce r) set k := ⟨hPq, by omega⟩
                      have q101 : cn (fun y9 => P y9 ∧ tpo sz (ce y9) set k = tpo sz (ce r) set k) (q + 1) = cn (fun y9 => P y9 ∧ tpo sz (ce y9) set k = tpo sz (ce r) set k) q + 1 := cn_t (p := (fun y9 => P y9 ∧ tpo sz (ce y9) set k = tpo sz (ce r) set k)) hIS
                      refine WP.iconst dX8_audits_96 ?_
                      refine WP.goto (tgt := 101) dX8_audits_97 (by decide) ?_
                      refine WP.istore (lt := [vR 167, vI ((set : Nat) : Int), vI ((sp : Nat) : Int), vI ((cn (fst1 sz ce set k P) r : Nat) : Int), vI ((r : Nat) : Int), vI ((cn (fun y9 => P y9 ∧ tpo sz (ce y9) set k = tpo sz (ce r) set k) q : Nat) : Int), vI (bi (∀ p, p < q → p < r → P p → tpo sz (ce p) set k ≠ tpo sz (ce r) set k)), vI ((q : Nat) : Int), vI (1 : Int)]) dX8_audits_101 (by decide) rfl ?_
                      refine WP.iload dX8_audits_103 rfl ?_
                      refine WP.iload dX8_audits_105 rfl ?_
                      refine WP.if_eq (tgt := 114) dX8_audits_107 (by decide) (by omega) (fun h107 => ?_) (fun h107 => ?_)
                      · skip
                        exact absurd h107 (by decide)
                      · skip
                        refine WP.iconst dX8_audits_110 ?_
                        refine WP.goto (tgt := 115) dX8_audits_111 (by decide) ?_
                        refine WP.iadd dX8_audits_115 ?_
                        refine WP.istore (lt := [vR 167, vI ((set : Nat) : Int), vI ((sp : Nat) : Int), vI ((cn (fst1 sz ce set k P) r : Nat) : Int), vI ((r : Nat) : Int), vI (((cn (fun y9 => P y9 ∧ tpo sz (ce y9) set k = tpo sz (ce r) set k) q : Nat) : Int) + (1 : Int)), vI (bi (∀ p, p < q → p < r → P p → tpo sz (ce p) set k ≠ tpo sz (ce r) set k)), vI ((q : Nat) : Int), vI (1 : Int)]) dX8_audits_116 (by decide) rfl ?_
                        refine WP.iload dX8_audits_118 rfl ?_
                        refine WP.iload dX8_audits_120 rfl ?_
                        refine WP.if_eq (tgt := 132) dX8_audits_122 (by decide) (by omega) (fun h122 => ?_) (fun h122 => ?_)
                        · skip
                          exact absurd h122 (by decide)
                        · skip
                          refine WP.iload dX8_audits_125 rfl ?_
                          refine WP.iload dX8_audits_127 rfl ?_
                          refine WP.icmp_lt (tgt := 136) dX8_audits_129 (by decide) (by omega) (by omega) (fun h129 => ?_) (fun h129 => ?_)
                          · skip
                            refine WP.iconst dX8_audits_136 ?_
                            refine WP.iand (z := (0 : Int)) dX8_audits_137 (by rcases @bi_01 (∀ p, p < q → p < r → P p → tpo sz (ce p) set k ≠ tpo sz (ce r) set k) with z9 | z9 <;> rw [z9] <;> decide) ?_
                            refine WP.istore (lt := [vR 167, vI ((set : Nat) : Int), vI ((sp : Nat) : Int), vI ((cn (fst1 sz ce set k P) r : Nat) : Int), vI ((r : Nat) : Int), vI (((cn (fun y9 => P y9 ∧ tpo sz (ce y9) set k = tpo sz (ce r) set k) q : Nat) : Int) + (1 : Int)), vI (0 : Int), vI ((q : Nat) : Int), vI (1 : Int)]) dX8_audits_138 (by decide) rfl ?_
                            refine WP.iinc (lt := [vR 167, vI ((set : Nat) : Int), vI ((sp : Nat) : Int), vI ((cn (fst1 sz ce set k P) r : Nat) : Int), vI ((r : Nat) : Int), vI (((cn (fun y9 => P y9 ∧ tpo sz (ce y9) set k = tpo sz (ce r) set k) q : Nat) : Int) + (1 : Int)), vI (0 : Int), vI (((q : Nat) : Int) + 1), vI (1 : Int)]) dX8_audits_140 rfl (by decide) rfl ?_
                            refine WP.goto (tgt := 52) dX8_audits_143 (by decide) ?_
                            refine WP.fgt (lt := [vR 167, vI ((set : Nat) : Int), vI ((sp : Nat) : Int), vI ((cn (fst1 sz ce set k P) r : Nat) : Int), vI ((r : Nat) : Int), vI ((cn (fun y9 => P y9 ∧ tpo sz (ce y9) set k = tpo sz (ce r) set k) (q + 1) : Nat) : Int), vI (bi (∀ p, p < (q + 1) → p < r → P p → tpo sz (ce p) set k ≠ tpo sz (ce r) set k)), vI (((q + 1) : Nat) : Int), vU]) ⟨Or.inr rfl, Or.inr rfl, Or.inr rfl, Or.inr rfl, Or.inr rfl, Or.inr (congrArg vI (by rw [q101]; omega)), Or.inr (congrArg vI (bi_f (fun z => z q (by omega) (by omega) hIS.1 hIS.2))), Or.inr (congrArg vI (by omega)), Or.inl rfl, trivial⟩ ?_
                            exact ih52 (q + 1) (by omega) (by omega)
                          · skip
                            refine WP.iconst dX8_audits_132 ?_
                            refine WP.goto (tgt := 137) dX8_audits_133 (by decide) ?_
                            refine WP.iand (z := bi (∀ p, p < q → p < r → P p → tpo sz (ce p) set k ≠ tpo sz (ce r) set k)) dX8_audits_137 (by rcases @bi_01 (∀ p, p < q → p < r → P p → tpo sz (ce p) set k ≠ tpo sz (ce r) set k) with z9 | z9 <;> rw [z9] <;> decide) ?_
                            refine WP.istore (lt := [vR 167, vI ((set : Nat) : Int), vI ((sp : Nat) : Int), vI ((cn (fst1 sz ce set k P) r : Nat) : Int), vI ((r : Nat) : Int), vI (((cn (fun y9 => P y9 ∧ tpo sz (ce y9) set k = tpo sz (ce r) set k) q : Nat) : Int) + (1 : Int)), vI (bi (∀ p, p < q → p < r → P p → tpo sz (ce p) set k ≠ tpo sz (ce r) set k)), vI ((q : Nat) : Int), vI (1 : Int)]) dX8_audits_138 (by decide) rfl ?_
                            refine WP.iinc (lt := [vR 167, vI ((set : Nat) : Int), vI ((sp : Nat) : Int), vI ((cn (fst1 sz ce set k P) r : Nat) : Int), vI ((r : Nat) : Int), vI (((cn (fun y9 => P y9 ∧ tpo sz (ce y9) set k = tpo sz (ce r) set k) q : Nat) : Int) + (1 : Int)), vI (bi (∀ p, p < q → p < r → P p → tpo sz (ce p) set k ≠ tpo sz (ce r) set k)), vI (((q : Nat) : Int) + 1), vI (1 : Int)]) dX8_audits_140 rfl (by decide) rfl ?_
                            refine WP.goto (tgt := 52) dX8_audits_143 (by decide) ?_
                            refine WP.fgt (lt := [vR 167, vI ((set : Nat) : Int), vI ((sp : Nat) : Int), vI ((cn (fst1 sz ce set k P) r : Nat) : Int), vI ((r : Nat) : Int), vI ((cn (fun y9 => P y9 ∧ tpo sz (ce y9) set k = tpo sz (ce r) set k) (q + 1) : Nat) : Int), vI (bi (∀ p, p < (q + 1) → p < r → P p → tpo sz (ce p) set k ≠ tpo sz (ce r) set k)), vI (((q + 1) : Nat) : Int), vU]) ⟨Or.inr rfl, Or.inr rfl, Or.inr rfl, Or.inr rfl, Or.inr rfl, Or.inr (congrArg vI (by rw [q101]; omega)), Or.inr (congrArg vI (bi_cg ⟨fun z p hp => z p (by omega), fun z p hp hpr hP9 => z p (by omega) hpr hP9⟩)), Or.inr (congrArg vI (by omega)), Or.inl rfl, trivial⟩ ?_
                            exact ih52 (q + 1) (by omega) (by omega)
          refine WP.fgt (lt := [vR 167, vI ((set : Nat) : Int), vI ((sp : Nat) : Int), vI ((cn (fst1 sz ce set k P) r : Nat) : Int), vI ((r : Nat) : Int), vI ((cn (fun y9 => P y9 ∧ tpo sz (ce y9) set k = tpo sz (ce r) set k) 0 : Nat) : Int), vI (bi (∀ p, p < 0 → p < r → P p → tpo sz (ce p) set k ≠ tpo sz (ce r) set k)), vI ((0 : Nat) : Int), vU]) ⟨Or.inr rfl, Or.inr rfl, Or.inr rfl, Or.inr rfl, Or.inr rfl, Or.inr (congrArg vI (rfl)), Or.inr (congrArg vI ((bi_t (fun p hp => absurd hp (Nat.not_lt_zero p))))), Or.inr (congrArg vI (by omega)), Or.inl rfl, trivial⟩ ?_
          exact L52 _ (0) (Nat.zero_le _) (Nat.lt_succ_self _)
        · skip
          refine WP.iload dX8_audits_36 rfl ?_
          refine WP.bipush dX8_audits_38 (by decide) ?_
          refine WP.icmp_le (tgt := 203) dX8_audits_40 (by decide) (by omega) (by omega) (fun h40 => ?_) (fun h40 => ?_)
          · skip
            have hnP : ¬ P r := fun z => hsbr.2.2 (by omega) (by omega) ((hPd r (by omega)).mp z)
            refine WP.iinc (lt := [vR 167, vI ((set : Nat) : Int), vI ((sp : Nat) : Int), vI ((cn (fst1 sz ce set k P) r : Nat) : Int), vI (((r : Nat) : Int) + 1), vU, vU, vU, vU]) dX8_audits_203 rfl (by decide) rfl ?_
            refine WP.goto (tgt := 16) dX8_audits_206 (by decide) ?_
            refine WP.fgt (lt := [vR 167, vI ((set : Nat) : Int), vI ((sp : Nat) : Int), vI ((cn (fst1 sz ce set k P) (r + 1) : Nat) : Int), vI (((r + 1) : Nat) : Int), vU, vU, vU, vU]) ⟨Or.inr rfl, Or.inr rfl, Or.inr rfl, Or.inr (congrArg vI (by rw [cn_f (p := fst1 sz ce set k P) (fun z => hnP z.1)])), Or.inr (congrArg vI (by omega)), Or.inl rfl, Or.inl rfl, Or.inl rfl, Or.inl rfl, trivial⟩ ?_
            exact ih16 (r + 1) (mo) (fe) (M2) (by omega) (hF2) (hG2) (hm2) (hf2) (fun q hq hP => by
              by_cases e9 : q = r
              · rw [e9] at hP; exact absurd hP hnP
              · exact hm3 q (by omega) hP) (hm4.elim Or.inl (fun ⟨q, q1, q2⟩ => Or.inr ⟨q, by omega, q2⟩)) (fun q hq hP => by
              by_cases e9 : q = r
              · rw [e9] at hP; exact absurd hP hnP
              · exact hf3 q (by omega) hP) (hf4.elim Or.inl (fun ⟨q, q1, q2⟩ => Or.inr ⟨q, by omega, q2⟩)) (hf5) (by omega)
          · skip
            have hPr : P r := (hPd r (by omega)).mpr (hsbr.2.1 (by omega))
            refine WP.iconst dX8_audits_43 ?_
            refine WP.istore (lt := [vR 167, vI ((set : Nat) : Int), vI ((sp : Nat) : Int), vI ((cn (fst1 sz ce set k P) r : Nat) : Int), vI ((r : Nat) : Int), vI (0 : Int), vU, vU, vU]) dX8_audits_44 (by decide) rfl ?_
            refine WP.iconst dX8_audits_46 ?_
            refine WP.istore (lt := [vR 167, vI ((set : Nat) : Int), vI ((sp : Nat) : Int), vI ((cn (fst1 sz ce set k P) r : Nat) : Int), vI ((r : Nat) : Int), vI (0 : Int), vI (1 : Int), vU, vU]) dX8_audits_47 (by decide) rfl ?_
            refine WP.iconst dX8_audits_49 ?_
            refine WP.istore (lt := [vR 167, vI ((set : Nat) : Int), vI ((sp : Nat) : Int), vI ((cn (fst1 sz ce set k P) r : Nat) : Int), vI ((r : Nat) : Int), vI (0 : Int), vI (1 : Int), vI (0 : Int), vU]) dX8_audits_50 (by decide) rfl ?_
            have L52 : ∀ (n9 : Nat) (q : Nat) (hq : q ≤ n), n - q < n9 → WP sc0 3 m_X8_audits 52 [vR 167, vI ((set : Nat) : Int), vI ((sp : Nat) : Int), vI ((cn (fst1 sz ce set k P) r : Nat) : Int), vI ((r : Nat) : Int), vI ((cn (fun y9 => P y9 ∧ tpo sz (ce y9) set k = tpo sz (ce r) set k) q : Nat) : Int), vI (bi (∀ p, p < q → p < r → P p → tpo sz (ce p) set k ≠ tpo sz (ce r) set k)), vI ((q : Nat) : Int), vU] [] M2 (fun z M' => z = none ∧ (∀ a, a ≠ 167 → M' a = M a) ∧ (∀ j, j ≠ 8 → j ≠ 9 → M' 167 j = M 167 j) ∧ M' 167 8 = ((mnv (fun v => tc sz ce set k P v n) 36 (tps sz set k) : Nat) : Int) ∧ M' 167 9 = ((mxv (fun v => tc sz ce set k P v n) (tps sz set k) : Nat) : Int)) := by
              intro n9
              induction n9 with
              | zero =>
                intro q hq hm9
                exact absurd hm9 (Nat.not_lt_zero _)
              | succ n9 ih52 =>
                intro q hq hm9
                have hcl := cn_le (fun y9 => P y9 ∧ tpo sz (ce y9) set k = tpo sz (ce r) set k) q
                refine WP.iload dX8_audits_52 rfl ?_
                refine WP.aload_n dX8_audits_54 rfl ?_
                refine WP.getR (y := 168) dX8_audits_55 fl_X8_7 (rfl) (by decide) (rfl) ?_
                refine WP.iconst dX8_audits_58 ?_
                refine WP.iaload (y := 0) (x := ((n : Nat) : Int)) dX8_audits_59 (rfl) (by omega) (by omega) (hA2.1) ?_
                refine WP.icmp_ge (tgt := 146) dX8_audits_60 (by decide) (by omega) (by omega) (fun h60 => ?_) (fun h60 => ?_)
                · skip
                  have hcn9 : cn (fun y9 => P y9 ∧ tpo sz (ce y9) set k = tpo sz (ce r) set k) q = tc sz ce set k P (tpo sz (ce r) set k) n := by rw [show q = n by omega]; rfl
                  have hcn8 : tc sz ce set k P (tpo sz (ce r) set k) n ≤ 36 := by rw [← hcn9]; omega
                  refine WP.fgt (lt := [vR 167, vI ((set : Nat) : Int), vI ((sp : Nat) : Int), vI ((cn (fst1 sz ce set k P) r : Nat) : Int), vI ((r : Nat) : Int), vI ((tc sz ce set k P (tpo sz (ce r) set k) n : Nat) : Int), vI (bi (∀ p, p < q → p < r → P p → tpo sz (ce p) set k ≠ tpo sz (ce r) set k)), vI ((q : Nat) : Int), vU]) ⟨Or.inr rfl, Or.inr rfl, Or.inr rfl, Or.inr rfl, Or.inr rfl, Or.inr (congrArg vI (by rw [hcn9])), Or.inr rfl, Or.inr rfl, Or.inl rfl, trivial⟩ ?_
                  refine WP.iload_n dX8_audits_146 rfl ?_
                  refine WP.iload dX8_audits_147 rfl ?_
                  refine WP.if_eq (tgt := 156) dX8_audits_149 (by decide) (bi_rng) (fun h149 => ?_) (fun h149 => ?_)
                  · skip
                    have q149 : cn (fst1 sz ce set k P) (r + 1) = cn (fst1 sz ce set k P) r := cn_f (p := fst1 sz ce set k P) (fun z => bi_0 h149 (fun p _ hp => z.2 p hp))
                    refine WP.iconst dX8_audits_156 ?_
                    refine WP.iadd dX8_audits_157 ?_
                    refine WP.istore_n (lt := [vR 167, vI ((set : Nat) : Int), vI ((sp : Nat) : Int), vI (((cn (fst1 sz ce set k P) r : Nat) : Int) + (0 : Int)), vI ((r : Nat) : Int), vI ((tc sz ce set k P (tpo sz (ce r) set k) n : Nat) : Int), vI (bi (∀ p, p < q → p < r → P p → tpo sz (ce p) set k ≠ tpo sz (ce r) set k)), vI ((q : Nat) : Int), vU]) dX8_audits_158 (by decide) rfl ?_
                    refine WP.aload_n dX8_audits_159 rfl ?_
                    refine WP.iload dX8_audits_160 rfl ?_
                    refine WP.aload_n dX8_audits_162 rfl ?_
                    refine WP.getI (x := ((mo : Nat) : Int)) dX8_audits_163 fl_X8_123 (rfl) (by decide) (hm2) ?_
                    refine WP.icmp_le (tgt := 174) dX8_audits_166 (by decide) (by omega) (by omega) (fun h166 => ?_) (fun h166 => ?_)
                    · skip
                      refine WP.aload_n dX8_audits_174 rfl ?_
                      refine WP.getI (x := ((mo : Nat) : Int)) dX8_audits_175 fl_X8_123 (rfl) (by decide) (hm2) ?_
                      refine WP.putI dX8_audits_178 fl_X8_123 (rfl) (by decide) rfl ?_
                      obtain ⟨M3, hM3⟩ : ∃ z, z = (mset M2 167 9 ((mo : Nat) : Int)) := ⟨_, rfl⟩
                      refine WP.eqM hM3.symm ?_
                      have hO3 : ∀ a, a ≠ 167 → M3 a = M2 a := fun a ha => by rw [hM3]; exact mset_o a ha
                      refine WP.aload_n dX8_audits_181 rfl ?_
                      refine WP.iload dX8_audits_182 rfl ?_
                      refine WP.aload_n dX8_audits_184 rfl ?_
                      refine WP.getI (x := ((fe : Nat) : Int)) dX8_audits_185 fl_X8_126 (rfl) (by decide) (by rw [hM3, mset_n (Or.inr (by decide))]; exact hf2) ?_
                      refine WP.icmp_ge (tgt := 196) dX8_audits_188 (by decide) (by omega) (by omega) (fun h188 => ?_) (fun h188 => ?_)
                      · skip
                        refine WP.aload_n dX8_audits_196 rfl ?_
                        refine WP.getI (x := ((fe : Nat) : Int)) dX8_audits_197 fl_X8_126 (rfl) (by decide) (by rw [hM3, mset_n (Or.inr (by decide))]; exact hf2) ?_
                        refine WP.putI dX8_audits_200 fl_X8_126 (rfl) (by decide) rfl ?_
                        obtain ⟨M4, hM4⟩ : ∃ z, z = (mset M3 167 8 ((fe : Nat) : Int)) := ⟨_, rfl⟩
                        refine WP.eqM hM4.symm ?_
                        have hO4 : ∀ a, a ≠ 167 → M4 a = M3 a := fun a ha => by rw [hM4]; exact mset_o a ha
                        refine WP.iinc (lt := [vR 167, vI ((set : Nat) : Int), vI ((sp : Nat) : Int), vI (((cn (fst1 sz ce set k P) r : Nat) : Int) + (0 : Int)), vI (((r : Nat) : Int) + 1), vI ((tc sz ce set k P (tpo sz (ce r) set k) n : Nat) : Int), vI (bi (∀ p, p < q → p < r → P p → tpo sz (ce p) set k ≠ tpo sz (ce r) set k)), vI ((q : Nat) : Int), vU]) dX8_audits_203 rfl (by decide) rfl ?_
                        refine WP.goto (tgt := 16) dX8_audits_206 (by decide) ?_
                        refine WP.fgt (lt := [vR 167, vI ((set : Nat) : Int), vI ((sp : Nat) : Int), vI ((cn (fst1 sz ce set k P) (r + 1) : Nat) : Int), vI (((r + 1) : Nat) : Int), vU, vU, vU, vU]) ⟨Or.inr rfl, Or.inr rfl, Or.inr rfl, Or.inr (congrArg vI (by rw [q149]; omega)), Or.inr (congrArg vI (by omega)), Or.inl rfl, Or.inl rfl, Or.inl rfl, Or.inl rfl, trivial⟩ ?_
                        exact ih16 (r + 1) (mo) (fe) (M4) (by omega) (fun a ha => by rw [hO4 a ha, hO3 a ha]; exact hF2 a ha) (fun j i1 i2 => by rw [hM4, mset_n (Or.inr i1), hM3, mset_n (Or.inr i2)]; exact hG2 j i1 i2) (by rw [hM4, mset_n (Or.inr (by decide)), hM3, mset_s]) (by rw [hM4, mset_s]) (fun q hq hP9 => by
                          by_cases e9 : q = r
                          · rw [e9]; omega
                          · exact hm3 q (by omega) hP9) (hm4.elim Or.inl (fun ⟨q, q1, q2⟩ => Or.inr ⟨q, by omega, q2⟩)) (fun q hq hP9 => by
                          by_cases e9 : q = r
                          · rw [e9]; omega
                          · exact hf3 q (by omega) hP9) (hf4.elim Or.inl (fun ⟨q, q1, q2⟩ => Or.inr ⟨q, by omega, q2⟩)) (by omega) (by omega)
                      · skip
                        refine WP.iload dX8_audits_191 rfl ?_
                        refine WP.goto (tgt := 200) dX8_audits_193 (by decide) ?_
                        refine WP.putI dX8_audits_200 fl_X8_126 (rfl) (by decide) rfl ?_
                        obtain ⟨M4, hM4⟩ : ∃ z, z = (mset M3 167 8 ((tc sz ce set k P (tpo sz (ce r) set k) n : Nat) : Int)) := ⟨_, rfl⟩
                        refine WP.eqM hM4.symm ?_
                        have hO4 : ∀ a, a ≠ 167 → M4 a = M3 a := fun a ha => by rw [hM4]; exact mset_o a ha
                        refine WP.iinc (lt := [vR 167, vI ((set : Nat) : Int), vI ((sp : Nat) : Int), vI (((cn (fst1 sz ce set k P) r : Nat) : Int) + (0 : Int)), vI (((r : Nat) : Int) + 1), vI ((tc sz ce set k P (tpo sz (ce r) set k) n : Nat) : Int), vI (bi (∀ p, p < q → p < r → P p → tpo sz (ce p) set k ≠ tpo sz (ce r) set k)), vI ((q : Nat) : Int), vU]) dX8_audits_203 rfl (by decide) rfl ?_
                        refine WP.goto (tgt := 16) dX8_audits_206 (by decide) ?_
                        refine WP.fgt (lt := [vR 167, vI ((set : Nat) : Int), vI ((sp : Nat) : Int), vI ((cn (fst1 sz ce set k P) (r + 1) : Nat) : Int), vI (((r + 1) : Nat) : Int), vU, vU, vU, vU]) ⟨Or.inr rfl, Or.inr rfl, Or.inr rfl, Or.inr (congrArg vI (by rw [q149]; omega)), Or.inr (congrArg vI (by omega)), Or.inl rfl, Or.inl rfl, Or.inl rfl, Or.inl rfl, trivial⟩ ?_
                        exact ih16 (r + 1) (mo) (tc sz ce set k P (tpo sz (ce r) set k) n) (M4) (by omega) (fun a ha => by rw [hO4 a ha, hO3 a ha]; exact hF2 a ha) (fun j i1 i2 => by rw [hM4, mset_n (Or.inr i1), hM3, mset_n (Or.inr i2)]; exact hG2 j i1 i2) (by rw [hM4, mset_n (Or.inr (by decide)), hM3, mset_s]) (by rw [hM4, mset_s]) (fun q hq hP9 => by
                          by_cases e9 : q = r
                          · rw [e9]; omega
                          · exact hm3 q (by omega) hP9) (hm4.elim Or.inl (fun ⟨q, q1, q2⟩ => Or.inr ⟨q, by omega, q2⟩)) (fun q hq hP9 => by
                          by_cases e9 : q = r
                          · rw [e9]; exact Nat.le_refl _
                          · have := hf3 q (by omega) hP9; omega) (Or.inr ⟨r, by omega, hPr, rfl⟩) (by omega) (by omega)
                    · skip
                      refine WP.iload dX8_audits_169 rfl ?_
                      refine WP.goto (tgt := 178) dX8_audits_171 (by decide) ?_
                      refine WP.putI dX8_audits_178 fl_X8_123 (rfl) (by decide) rfl ?_
                      obtain ⟨M3, hM3⟩ : ∃ z, z = (mset M2 167 9 ((tc sz ce set k P (tpo sz (ce r) set k) n : Nat) : Int)) := ⟨_, rfl⟩
                      refine WP.eqM hM3.symm ?_
                      have hO3 : ∀ a, a ≠ 167 → M3 a = M2 a := fun a ha => by rw [hM3]; exact mset_o a ha
                      refine WP.aload_n dX8_audits_181 rfl ?_
                      refine WP.iload dX8_audits_182 rfl ?_
                      refine WP.aload_n dX8_audits_184 rfl ?_
                      refine WP.getI (x := ((fe : Nat) : Int)) dX8_audits_185 fl_X8_126 (rfl) (by decide) (by rw [hM3, mset_n (Or.inr (by decide))]; exact hf2) ?_
                      refine WP.icmp_ge (tgt := 196) dX8_audits_188 (by decide) (by omega) (by omega) (fun h188 => ?_) (fun h188 => ?_)
                      · skip
                        refine WP.aload_n dX8_audits_196 rfl ?_
                        refine WP.getI (x := ((fe : Nat) : Int)) dX8_audits_197 fl_X8_126 (rfl) (by decide) (by rw [hM3, mset_n (Or.inr (by decide))]; exact hf2) ?_
                        refine WP.putI dX8_audits_200 fl_X8_126 (rfl) (by decide) rfl ?_
                        obtain ⟨M4, hM4⟩ : ∃ z, z = (mset M3 167 8 ((fe : Nat) : Int)) := ⟨_, rfl⟩
                        refine WP.eqM hM4.symm ?_
                        have hO4 : ∀ a, a ≠ 167 → M4 a = M3 a := fun a ha => by rw [hM4]; exact mset_o a ha
                        refine WP.iinc (lt := [vR 167, vI ((set : Nat) : Int), vI ((sp : Nat) : Int), vI (((cn (fst1 sz ce set k P) r : Nat) : Int) + (0 : Int)), vI (((r : Nat) : Int) + 1), vI ((tc sz ce set k P (tpo sz (ce r) set k) n : Nat) : Int), vI (bi (∀ p, p < q → p < r → P p → tpo sz (ce p) set k ≠ tpo sz (ce r) set k)), vI ((q : Nat) : Int), vU]) dX8_audits_203 rfl (by decide) rfl ?_
                        refine WP.goto (tgt := 16) dX8_audits_206 (by decide) ?_
                        refine WP.fgt (lt := [vR 167, vI ((set : Nat) : Int), vI ((sp : Nat) : Int), vI ((cn (fst1 sz ce set k P) (r + 1) : Nat) : Int), vI (((r + 1) : Nat) : Int), vU, vU, vU, vU]) ⟨Or.inr rfl, Or.inr rfl, Or.inr rfl, Or.inr (congrArg vI (by rw [q149]; omega)), Or.inr (congrArg vI (by omega)), Or.inl rfl, Or.inl rfl, Or.inl rfl, Or.inl rfl, trivial⟩ ?_
                        exact ih16 (r + 1) (tc sz ce set k P (tpo sz (ce r) set k) n) (fe) (M4) (by omega) (fun a ha => by rw [hO4 a ha, hO3 a ha]; exact hF2 a ha) (fun j i1 i2 => by rw [hM4, mset_n (Or.inr i1), hM3, mset_n (Or.inr i2)]; exact hG2 j i1 i2) (by rw [hM4, mset_n (Or.inr (by decide)), hM3, mset_s]) (by rw [hM4, mset_s]) (fun q hq hP9 => by
                          by_cases e9 : q = r
                          · rw [e9]; exact Nat.le_refl _
                          · have := hm3 q (by omega) hP9; omega) (Or.inr ⟨r, by omega, hPr, rfl⟩) (fun q hq hP9 => by
                          by_cases e9 : q = r
                          · rw [e9]; omega
                          · exact hf3 q (by omega) hP9) (hf4.elim Or.inl (fun ⟨q, q1, q2⟩ => Or.inr ⟨q, by omega, q2⟩)) (by omega) (by omega)
                      · skip
                        refine WP.iload dX8_audits_191 rfl ?_
                        refine WP.goto (tgt := 200) dX8_audits_193 (by decide) ?_
                        refine WP.putI dX8_audits_200 fl_X8_126 (rfl) (by decide) rfl ?_
                        obtain ⟨M4, hM4⟩ : ∃ z, z = (mset M3 167 8 ((tc sz ce set k P (tpo sz (ce r) set k) n : Nat) : Int)) := ⟨_, rfl⟩
                        refine WP.eqM hM4.symm ?_
                        have hO4 : ∀ a, a ≠ 167 → M4 a = M3 a := fun a ha => by rw [hM4]; exact mset_o a ha
                        refine WP.iinc (lt := [vR 167, vI ((set : Nat) : Int), vI ((sp : Nat) : Int), vI (((cn (fst1 sz ce set k P) r : Nat) : Int) + (0 : Int)), vI (((r : Nat) : Int) + 1), vI ((tc sz ce set k P (tpo sz (ce r) set k) n : Nat) : Int), vI (bi (∀ p, p < q → p < r → P p → tpo sz (ce p) set k ≠ tpo sz (ce r) set k)), vI ((q : Nat) : Int), vU]) dX8_audits_203 rfl (by decide) rfl ?_
                        refine WP.goto (tgt := 16) dX8_audits_206 (by decide) ?_
                        refine WP.fgt (lt := [vR 167, vI ((set : Nat) : Int), vI ((sp : Nat) : Int), vI ((cn (fst1 sz ce set k P) (r + 1) : Nat) : Int), vI (((r + 1) : Nat) : Int), vU, vU, vU, vU]) ⟨Or.inr rfl, Or.inr rfl, Or.inr rfl, Or.inr (congrArg vI (by rw [q149]; omega)), Or.inr (congrArg vI (by omega)), Or.inl rfl, Or.inl rfl, Or.inl rfl, Or.inl rfl, trivial⟩ ?_
                        exact ih16 (r + 1) (tc sz ce set k P (tpo sz (ce r) set k) n) (tc sz ce set k P (tpo sz (ce r) set k) n) (M4) (by omega) (fun a ha => by rw [hO4 a ha, hO3 a ha]; exact hF2 a ha) (fun j i1 i2 => by rw [hM4, mset_n (Or.inr i1), hM3, mset_n (Or.inr i2)]; exact hG2 j i1 i2) (by rw [hM4, mset_n (Or.inr (by decide)), hM3, mset_s]) (by rw [hM4, mset_s]) (fun q hq hP9 => by
                          by_cases e9 : q = r
                          · rw [e9]; exact Nat.le_refl _
                          · have := hm3 q (by omega) hP9; omega) (Or.inr ⟨r, by omega, hPr, rfl⟩) (fun q hq hP9 => by
                          by_cases e9 : q = r
                          · rw [e9]; exact Nat.le_refl _
                          · have := hf3 q (by omega) hP9; omega) (Or.inr ⟨r, by omega, hPr, rfl⟩) (by omega) (by omega)
                  · skip
                    have q149 : cn (fst1 sz ce set k P) (r + 1) = cn (fst1 sz ce set k P) r + 1 := cn_t (p := fst1 sz ce set k P) ⟨hPr, fun p hp => bi_1 h149 p (by omega) hp⟩
                    refine WP.iconst dX8_audits_152 ?_
                    refine WP.goto (tgt := 157) dX8_audits_153 (by decide) ?_
                    refine WP.iadd dX8_audits_157 ?_
                    refine WP.istore_n (lt := [vR 167, vI ((set : Nat) : Int), vI ((sp : Nat) : Int), vI (((cn (fst1 sz ce set k P) r : Nat) : Int) + (1 : Int)), vI ((r : Nat) : Int), vI ((tc sz ce set k P (tpo sz (ce r) set k) n : Nat) : Int), vI (bi (∀ p, p < q → p < r → P p → tpo sz (ce p) set k ≠ tpo sz (ce r) set k)), vI ((q : Nat) : Int), vU]) dX8_audits_158 (by decide) rfl ?_
                    refine WP.aload_n dX8_audits_159 rfl ?_
                    refine WP.iload dX8_audits_160 rfl ?_
                    refine WP.aload_n dX8_audits_162 rfl ?_
                    refine WP.getI (x := ((mo : Nat) : Int)) dX8_audits_163 fl_X8_123 (rfl) (by decide) (hm2) ?_
                    refine WP.icmp_le (tgt := 174) dX8_audits_166 (by decide) (by omega) (by omega) (fun h166 => ?_) (fun h166 => ?_)
                    · skip
                      refine WP.aload_n dX8_audits_174 rfl ?_
                      refine WP.getI (x := ((mo : Nat) : Int)) dX8_audits_175 fl_X8_123 (rfl) (by decide) (hm2) ?_
                      refine WP.putI dX8_audits_178 fl_X8_123 (rfl) (by decide) rfl ?_
                      obtain ⟨M3, hM3⟩ : ∃ z, z = (mset M2 167 9 ((mo : Nat) : Int)) := ⟨_, rfl⟩
                      refine WP.eqM hM3.symm ?_
                      have hO3 : ∀ a, a ≠ 167 → M3 a = M2 a := fun a ha => by rw [hM3]; exact mset_o a ha
                      refine WP.aload_n dX8_audits_181 rfl ?_
                      refine WP.iload dX8_audits_182 rfl ?_
                      refine WP.aload_n dX8_audits_184 rfl ?_
                      refine WP.getI (x := ((fe : Nat) : Int)) dX8_audits_185 fl_X8_126 (rfl) (by decide) (by rw [hM3, mset_n (Or.inr (by decide))]; exact hf2) ?_
                      refine WP.icmp_ge (tgt := 196) dX8_audits_188 (by decide) (by omega) (by omega) (fun h188 => ?_) (fun h188 => ?_)
                      · skip
                        refine WP.aload_n dX8_audits_196 rfl ?_
                        refine WP.getI (x := ((fe : Nat) : Int)) dX8_audits_197 fl_X8_126 (rfl) (by decide) (by rw [hM3, mset_n (Or.inr (by decide))]; exact hf2) ?_
                        refine WP.putI dX8_audits_200 fl_X8_126 (rfl) (by decide) rfl ?_
                        obtain ⟨M4, hM4⟩ : ∃ z, z = (mset M3 167 8 ((fe : Nat) : Int)) := ⟨_, rfl⟩
                        refine WP.eqM hM4.symm ?_
                        have hO4 : ∀ a, a ≠ 167 → M4 a = M3 a := fun a ha => by rw [hM4]; exact mset_o a ha
                        refine WP.iinc (lt := [vR 167, vI ((set : Nat) : Int), vI ((sp : Nat) : Int), vI (((cn (fst1 sz ce set k P) r : Nat) : Int) + (1 : Int)), vI (((r : Nat) : Int) + 1), vI ((tc sz ce set k P (tpo sz (ce r) set k) n : Nat) : Int), vI (bi (∀ p, p < q → p < r → P p → tpo sz (ce p) set k ≠ tpo sz (ce r) set k)), vI ((q : Nat) : Int), vU]) dX8_audits_203 rfl (by decide) rfl ?_
                        refine WP.goto (tgt := 16) dX8_audits_206 (by decide) ?_
                        refine WP.fgt (lt := [vR 167, vI ((set : Nat) : Int), vI ((sp : Nat) : Int), vI ((cn (fst1 sz ce set k P) (r + 1) : Nat) : Int), vI (((r + 1) : Nat) : Int), vU, vU, vU, vU]) ⟨Or.inr rfl, Or.inr rfl, Or.inr rfl, Or.inr (congrArg vI (by rw [q149]; omega)), Or.inr (congrArg vI (by omega)), Or.inl rfl, Or.inl rfl, Or.inl rfl, Or.inl rfl, trivial⟩ ?_
                        exact ih16 (r + 1) (mo) (fe) (M4) (by omega) (fun a ha => by rw [hO4 a ha, hO3 a ha]; exact hF2 a ha) (fun j i1 i2 => by rw [hM4, mset_n (Or.inr i1), hM3, mset_n (Or.inr i2)]; exact hG2 j i1 i2) (by rw [hM4, mset_n (Or.inr (by decide)), hM3, mset_s]) (by rw [hM4, mset_s]) (fun q hq hP9 => by
                          by_cases e9 : q = r
                          · rw [e9]; omega
                          · exact hm3 q (by omega) hP9) (hm4.elim Or.inl (fun ⟨q, q1, q2⟩ => Or.inr ⟨q, by omega, q2⟩)) (fun q hq hP9 => by
                          by_cases e9 : q = r
                          · rw [e9]; omega
                          · exact hf3 q (by omega) hP9) (hf4.elim Or.inl (fun ⟨q, q1, q2⟩ => Or.inr ⟨q, by omega, q2⟩)) (by omega) (by omega)
                      · skip
                        refine WP.iload dX8_audits_191 rfl ?_
                        refine WP.goto (tgt := 200) dX8_audits_193 (by decide) ?_
                        refine WP.putI dX8_audits_200 fl_X8_126 (rfl) (by decide) rfl ?_
                        obtain ⟨M4, hM4⟩ : ∃ z, z = (mset M3 167 8 ((tc sz ce set k P (tpo sz (ce r) set k) n : Nat) : Int)) := ⟨_, rfl⟩
                        refine WP.eqM hM4.symm ?_
                        have hO4 : ∀ a, a ≠ 167 → M4 a = M3 a := fun a ha => by rw [hM4]; exact mset_o a ha
                        refine WP.iinc (lt := [vR 167, vI ((set : Nat) : Int), vI ((sp : Nat) : Int), vI (((cn (fst1 sz ce set k P) r : Nat) : Int) + (1 : Int)), vI (((r : Nat) : Int) + 1), vI ((tc sz ce set k P (tpo sz (ce r) set k) n : Nat) : Int), vI (bi (∀ p, p < q → p < r → P p → tpo sz (ce p) set k ≠ tpo sz (ce r) set k)), vI ((q : Nat) : Int), vU]) dX8_audits_203 rfl (by decide) rfl ?_
                        refine WP.goto (tgt := 16) dX8_audits_206 (by decide) ?_
                        refine WP.fgt (lt := [vR 167, vI ((set : Nat) : Int), vI ((sp : Nat) : Int), vI ((cn (fst1 sz ce set k P) (r + 1) : Nat) : Int), vI (((r + 1) : Nat) : Int), vU, vU, vU, vU]) ⟨Or.inr rfl, Or.inr rfl, Or.inr rfl, Or.inr (congrArg vI (by rw [q149]; omega)), Or.inr (congrArg vI (by omega)), Or.inl rfl, Or.inl rfl, Or.inl rfl, Or.inl rfl, trivial⟩ ?_
                        exact ih16 (r + 1) (mo) (tc sz ce set k P (tpo sz (ce r) set k) n) (M4) (by omega) (fun a ha => by rw [hO4 a ha, hO3 a ha]; exact hF2 a ha) (fun j i1 i2 => by rw [hM4, mset_n (Or.inr i1), hM3, mset_n (Or.inr i2)]; exact hG2 j i1 i2) (by rw [hM4, mset_n (Or.inr (by decide)), hM3, mset_s]) (by rw [hM4, mset_s]) (fun q hq hP9 => by
                          by_cases e9 : q = r
                          · rw [e9]; omega
                          · exact hm3 q (by omega) hP9) (hm4.elim Or.inl (fun ⟨q, q1, q2⟩ => Or.inr ⟨q, by omega, q2⟩)) (fun q hq hP9 => by
                          by_cases e9 : q = r
                          · rw [e9]; exact Nat.le_refl _
                          · have := hf3 q (by omega) hP9; omega) (Or.inr ⟨r, by omega, hPr, rfl⟩) (by omega) (by omega)
                    · skip
                      refine WP.iload dX8_audits_169 rfl ?_
                      refine WP.goto (tgt := 178) dX8_audits_171 (by decide) ?_
                      refine WP.putI dX8_audits_178 fl_X8_123 (rfl) (by decide) rfl ?_
                      obtain ⟨M3, hM3⟩ : ∃ z, z = (mset M2 167 9 ((tc sz ce set k P (tpo sz (ce r) set k) n : Nat) : Int)) := ⟨_, rfl⟩
                      refine WP.eqM hM3.symm ?_
                      have hO3 : ∀ a, a ≠ 167 → M3 a = M2 a := fun a ha => by rw [hM3]; exact mset_o a ha
                      refine WP.aload_n dX8_audits_181 rfl ?_
                      refine WP.iload dX8_audits_182 rfl ?_
                      refine WP.aload_n dX8_audits_184 rfl ?_
                      refine WP.getI (x := ((fe : Nat) : Int)) dX8_audits_185 fl_X8_126 (rfl) (by decide) (by rw [hM3, mset_n (Or.inr (by decide))]; exact hf2) ?_
                      refine WP.icmp_ge (tgt := 196) dX8_audits_188 (by decide) (by omega) (by omega) (fun h188 => ?_) (fun h188 => ?_)
                      · skip
                        refine WP.aload_n dX8_audits_196 rfl ?_
                        refine WP.getI (x := ((fe : Nat) : Int)) dX8_audits_197 fl_X8_126 (rfl) (by decide) (by rw [hM3, mset_n (Or.inr (by decide))]; exact hf2) ?_
                        refine WP.putI dX8_audits_200 fl_X8_126 (rfl) (by decide) rfl ?_
                        obtain ⟨M4, hM4⟩ : ∃ z, z = (mset M3 167 8 ((fe : Nat) : Int)) := ⟨_, rfl⟩
                        refine WP.eqM hM4.symm ?_
                        have hO4 : ∀ a, a ≠ 167 → M4 a = M3 a := fun a ha => by rw [hM4]; exact mset_o a ha
                        refine WP.iinc (lt := [vR 167, vI ((set : Nat) : Int), vI ((sp : Nat) : Int), vI (((cn (fst1 sz ce set k P) r : Nat) : Int) + (1 : Int)), vI (((r : Nat) : Int) + 1), vI ((tc sz ce set k P (tpo sz (ce r) set k) n : Nat) : Int), vI (bi (∀ p, p < q → p < r → P p → tpo sz (ce p) set k ≠ tpo sz (ce r) set k)), vI ((q : Nat) : Int), vU]) dX8_audits_203 rfl (by decide) rfl ?_
                        refine WP.goto (tgt := 16) dX8_audits_206 (by decide) ?_
                        refine WP.fgt (lt := [vR 167, vI ((set : Nat) : Int), vI ((sp : Nat) : Int), vI ((cn (fst1 sz ce set k P) (r + 1) : Nat) : Int), vI (((r + 1) : Nat) : Int), vU, vU, vU, vU]) ⟨Or.inr rfl, Or.inr rfl, Or.inr rfl, Or.inr (congrArg vI (by rw [q149]; omega)), Or.inr (congrArg vI (by omega)), Or.inl rfl, Or.inl rfl, Or.inl rfl, Or.inl rfl, trivial⟩ ?_
                        exact ih16 (r + 1) (tc sz ce set k P (tpo sz (ce r) set k) n) (fe) (M4) (by omega) (fun a ha => by rw [hO4 a ha, hO3 a ha]; exact hF2 a ha) (fun j i1 i2 => by rw [hM4, mset_n (Or.inr i1), hM3, mset_n (Or.inr i2)]; exact hG2 j i1 i2) (by rw [hM4, mset_n (Or.inr (by decide)), hM3, mset_s]) (by rw [hM4, mset_s]) (fun q hq hP9 => by
                          by_cases e9 : q = r
                          · rw [e9]; exact Nat.le_refl _
                          · have := hm3 q (by omega) hP9; omega) (Or.inr ⟨r, by omega, hPr, rfl⟩) (fun q hq hP9 => by
                          by_cases e9 : q = r
                          · rw [e9]; omega
                          · exact hf3 q (by omega) hP9) (hf4.elim Or.inl (fun ⟨q, q1, q2⟩ => Or.inr ⟨q, by omega, q2⟩)) (by omega) (by omega)
                      · skip
                        refine WP.iload dX8_audits_191 rfl ?_
                        refine WP.goto (tgt := 200) dX8_audits_193 (by decide) ?_
                        refine WP.putI dX8_audits_200 fl_X8_126 (rfl) (by decide) rfl ?_
                        obtain ⟨M4, hM4⟩ : ∃ z, z = (mset M3 167 8 ((tc sz ce set k P (tpo sz (ce r) set k) n : Nat) : Int)) := ⟨_, rfl⟩
                        refine WP.eqM hM4.symm ?_
                        have hO4 : ∀ a, a ≠ 167 → M4 a = M3 a := fun a ha => by rw [hM4]; exact mset_o a ha
                        refine WP.iinc (lt := [vR 167, vI ((set : Nat) : Int), vI ((sp : Nat) : Int), vI (((cn (fst1 sz ce set k P) r : Nat) : Int) + (1 : Int)), vI (((r : Nat) : Int) + 1), vI ((tc sz ce set k P (tpo sz (ce r) set k) n : Nat) : Int), vI (bi (∀ p, p < q → p < r → P p → tpo sz (ce p) set k ≠ tpo sz (ce r) set k)), vI ((q : Nat) : Int), vU]) dX8_audits_203 rfl (by decide) rfl ?_
                        refine WP.goto (tgt := 16) dX8_audits_206 (by decide) ?_
                        refine WP.fgt (lt := [vR 167, vI ((set : Nat) : Int), vI ((sp : Nat) : Int), vI ((cn (fst1 sz ce set k P) (r + 1) : Nat) : Int), vI (((r + 1) : Nat) : Int), vU, vU, vU, vU]) ⟨Or.inr rfl, Or.inr rfl, Or.inr rfl, Or.inr (congrArg vI (by rw [q149]; omega)), Or.inr (congrArg vI (by omega)), Or.inl rfl, Or.inl rfl, Or.inl rfl, Or.inl rfl, trivial⟩ ?_
                        exact ih16 (r + 1) (tc sz ce set k P (tpo sz (ce r) set k) n) (tc sz ce set k P (tpo sz (ce r) set k) n) (M4) (by omega) (fun a ha => by rw [hO4 a ha, hO3 a ha]; exact hF2 a ha) (fun j i1 i2 => by rw [hM4, mset_n (Or.inr i1), hM3, mset_n (Or.inr i2)]; exact hG2 j i1 i2) (by rw [hM4, mset_n (Or.inr (by decide)), hM3, mset_s]) (by rw [hM4, mset_s]) (fun q hq hP9 => by
                          by_cases e9 : q = r
                          · rw [e9]; exact Nat.le_refl _
                          · have := hm3 q (by omega) hP9; omega) (Or.inr ⟨r, by omega, hPr, rfl⟩) (fun q hq hP9 => by
                          by_cases e9 : q = r
                          · rw [e9]; exact Nat.le_refl _
                          · have := hf3 q (by omega) hP9; omega) (Or.inr ⟨r, by omega, hPr, rfl⟩) (by omega) (by omega)
                · skip
                  refine WP.iload_n dX8_audits_63 rfl ?_
                  refine WP.iload dX8_audits_64 rfl ?_
                  refine WP.ishr (z := ((sp / 2 ^ (q % 32) : Nat) : Int)) dX8_audits_66 (oi_shr36 (by omega) (by omega)) ?_
                  refine WP.iconst dX8_audits_67 ?_
                  refine WP.iand (z := ((sp / 2 ^ (q % 32) % 2 : Nat) : Int)) dX8_audits_68 (oi_and1 (bit_lt (by omega))) ?_
                  have hsbq := sp_bit (r := q) hsp (by omega)
                  have hsmq : sp / 2 ^ (q % 32) % 2 < 2 := Nat.mod_lt _ (by decide)
                  refine WP.if_eq (tgt := 79) dX8_audits_69 (by decide) (by omega) (fun h69 => ?_) (fun h69 => ?_)
                  · skip
                    have hPq : P q := (hPd q (by omega)).mpr (hsbq.1 (by omega))
                    refine WP.aload_n dX8_audits_79 rfl ?_
                    refine WP.iload dX8_audits_80 rfl ?_
                    refine WP.iload_n dX8_audits_82 rfl ?_
                    refine WP.callVp (as := [vI ((q : Nat) : Int), vI ((set : Nat) : Int)]) dX8_audits_83 mv_X8_129 rfl (rfl) (by decide) rfl rfl (w_tupleOf (r := q) (set := set) hA2 hW (by omega) (by omega)) rfl (Nat.le_of_ble_eq_true rfl) (by omega) ?_
                    have wtq := tpo_lt (sz := sz) (row := ce q) (set := set) (k := k) (fun b hb => hW.2.2.2 q (by omega) b hb)
                    refine WP.aload_n dX8_audits_86 rfl ?_
                    refine WP.iload dX8_audits_87 rfl ?_
                    refine WP.iload_n dX8_audits_89 rfl ?_
                    refine WP.callVp (as := [vI ((r : Nat) : Int), vI ((set : Nat) : Int)]) dX8_audits_90 mv_X8_129 rfl (rfl) (by decide) rfl rfl (w_tupleOf (r := r) (set := set) hA2 hW (by omega) (by omega)) rfl (Nat.le_of_ble_eq_true rfl) (by omega) ?_
                    have wtr := tpo_lt (sz := sz) (row := ce r) (set := set) (k := k) (fun b hb => hW.2.2.2 r (by omega) b hb)
                    refine WP.icmp_ne (tgt := 100) dX8_audits_93 (by decide) (by omega) (by omega) (fun h93 => ?_) (fun h93 => ?_)
                    · skip
                      have hIS : ¬ (P q ∧ tpo sz (ce q) set k = tpo sz (ce r) set k) := fun z => by have := z.2; omega
                      have q101 : cn (fun y9 => P y9 ∧ tpo sz (ce y9) set k = tpo sz (ce r) set k) (q + 1) = cn (fun y9 => P y9 ∧ tpo sz (ce y9) set k = tpo sz (ce r) set k) q := cn_f (p := (fun y9 => P y9 ∧ tpo sz (ce y9) set k = tpo sz (ce r) set k)) hIS
                      refine WP.iconst dX8_audits_100 ?_
                      refine WP.istore (lt := [vR 167, vI ((set : Nat) : Int), vI ((sp : Nat) : Int), vI ((cn (fst1 sz ce set k P) r : Nat) : Int), vI ((r : Nat) : Int), vI ((cn (fun y9 => P y9 ∧ tpo sz (ce y9) set k = tpo sz (ce r) set k) q : Nat) : Int), vI (bi (∀ p, p < q → p < r → P p → tpo sz (ce p) set k ≠ tpo sz (ce r) set k)), vI ((q : Nat) : Int), vI (0 : Int)]) dX8_audits_101 (by decide) rfl ?_
                      refine WP.iload dX8_audits_103 rfl ?_
                      refine WP.iload dX8_audits_105 rfl ?_
                      refine WP.if_eq (tgt := 114) dX8_audits_107 (by decide) (by omega) (fun h107 => ?_) (fun h107 => ?_)
                      · skip
                        refine WP.iconst dX8_audits_114 ?_
                        refine WP.iadd dX8_audits_115 ?_
                        refine WP.istore (lt := [vR 167, vI ((set : Nat) : Int), vI ((sp : Nat) : Int), vI ((cn (fst1 sz ce set k P) r : Nat) : Int), vI ((r : Nat) : Int), vI (((cn (fun y9 => P y9 ∧ tpo sz (ce y9) set k = tpo sz (ce r) set k) q : Nat) : Int) + (0 : Int)), vI (bi (∀ p, p < q → p < r → P p → tpo sz (ce p) set k ≠ tpo sz (ce r) set k)), vI ((q : Nat) : Int), vI (0 : Int)]) dX8_audits_116 (by decide) rfl ?_
                        refine WP.iload dX8_audits_118 rfl ?_
                        refine WP.iload dX8_audits_120 rfl ?_
                        refine WP.if_eq (tgt := 132) dX8_audits_122 (by decide) (by omega) (fun h122 => ?_) (fun h122 => ?_)
                        · skip
                          refine WP.iconst dX8_audits_132 ?_
                          refine WP.goto (tgt := 137) dX8_audits_133 (by decide) ?_
                          refine WP.iand (z := bi (∀ p, p < q → p < r → P p → tpo sz (ce p) set k ≠ tpo sz (ce r) set k)) dX8_audits_137 (by rcases @bi_01 (∀ p, p < q → p < r → P p → tpo sz (ce p) set k ≠ tpo sz (ce r) set k) with z9 | z9 <;> rw [z9] <;> decide) ?_
                          refine WP.istore (lt := [vR 167, vI ((set : Nat) : Int), vI ((sp : Nat) : Int), vI ((cn (fst1 sz ce set k P) r : Nat) : Int), vI ((r : Nat) : Int), vI (((cn (fun y9 => P y9 ∧ tpo sz (ce y9) set k = tpo sz (ce r) set k) q : Nat) : Int) + (0 : Int)), vI (bi (∀ p, p < q → p < r → P p → tpo sz (ce p) set k ≠ tpo sz (ce r) set k)), vI ((q : Nat) : Int), vI (0 : Int)]) dX8_audits_138 (by decide) rfl ?_
                          refine WP.iinc (lt := [vR 167, vI ((set : Nat) : Int), vI ((sp : Nat) : Int), vI ((cn (fst1 sz ce set k P) r : Nat) : Int), vI ((r : Nat) : Int), vI (((cn (fun y9 => P y9 ∧ tpo sz (ce y9) set k = tpo sz (ce r) set k) q : Nat) : Int) + (0 : Int)), vI (bi (∀ p, p < q → p < r → P p → tpo sz (ce p) set k ≠ tpo sz (ce r) set k)), vI (((q : Nat) : Int) + 1), vI (0 : Int)]) dX8_audits_140 rfl (by decide) rfl ?_
                          refine WP.goto (tgt := 52) dX8_audits_143 (by decide) ?_
                          refine WP.fgt (lt := [vR 167, vI ((set : Nat) : Int), vI ((sp : Nat) : Int), vI ((cn (fst1 sz ce set k P) r : Nat) : Int), vI ((r : Nat) : Int), vI ((cn (fun y9 => P y9 ∧ tpo sz (ce y9) set k = tpo sz (ce r) set k) (q + 1) : Nat) : Int), vI (bi (∀ p, p < (q + 1) → p < r → P p → tpo sz (ce p) set k ≠ tpo sz (ce r) set k)), vI (((q + 1) : Nat) : Int), vU]) ⟨Or.inr rfl, Or.inr rfl, Or.inr rfl, Or.inr rfl, Or.inr rfl, Or.inr (congrArg vI (by rw [q101]; omega)), Or.inr (congrArg vI (bi_cg ⟨fun z p hp => z p (by omega), fun z p hp hpr hP9 => by
                            by_cases e9 : p = q
                            · rw [e9] at hP9 ⊢; exact fun y => hIS ⟨hP9, y⟩
                            · exact z p (by omega) hpr hP9⟩)), Or.inr (congrArg vI (by omega)), Or.inl rfl, trivial⟩ ?_
                          exact ih52 (q + 1) (by omega) (by omega)
                        · skip
                          exact absurd rfl h122
                      · skip
                        exact absurd rfl h107
                    · skip
                      have hIS : P q ∧ tpo sz (ce q) set k = tpo sz (ce r) set k := ⟨hPq, by omega⟩
                      have q101 : cn (fun y9 => P y9 ∧ tpo sz (ce y9) set k = tpo sz (ce r) set k) (q + 1) = cn (fun y9 => P y9 ∧ tpo sz (ce y9) set k = tpo sz (ce r) set k) q + 1 := cn_t (p := (fun y9 => P y9 ∧ tpo sz (ce y9) set k = tpo sz (ce r) set k)) hIS
                      refine WP.iconst dX8_audits_96 ?_
                      refine WP.goto (tgt := 101) dX8_audits_97 (by decide) ?_
                      refine WP.istore (lt := [vR 167, vI ((set : Nat) : Int), vI ((sp : Nat) : Int), vI ((cn (fst1 sz ce set k P) r : Nat) : Int), vI ((r : Nat) : Int), vI ((cn (fun y9 => P y9 ∧ tpo sz (ce y9) set k = tpo sz (ce r) set k) q : Nat) : Int), vI (bi (∀ p, p < q → p < r → P p → tpo sz (ce p) set k ≠ tpo sz (ce r) set k)), vI ((q : Nat) : Int), vI (1 : Int)]) dX8_audits_101 (by decide) rfl ?_
                      refine WP.iload dX8_audits_103 rfl ?_
                      refine WP.iload dX8_audits_105 rfl ?_
                      refine WP.if_eq (tgt := 114) dX8_audits_107 (by decide) (by omega) (fun h107 => ?_) (fun h107 => ?_)
                      · skip
                        exact absurd h107 (by decide)
                      · skip
                        refine WP.iconst dX8_audits_110 ?_
                        refine WP.goto (tgt := 115) dX8_audits_111 (by decide) ?_
                        refine WP.iadd dX8_audits_115 ?_
                        refine WP.istore (lt := [vR 167, vI ((set : Nat) : Int), vI ((sp : Nat) : Int), vI ((cn (fst1 sz ce set k P) r : Nat) : Int), vI ((r : Nat) : Int), vI (((cn (fun y9 => P y9 ∧ tpo sz (ce y9) set k = tpo sz (ce r) set k) q : Nat) : Int) + (1 : Int)), vI (bi (∀ p, p < q → p < r → P p → tpo sz (ce p) set k ≠ tpo sz (ce r) set k)), vI ((q : Nat) : Int), vI (1 : Int)]) dX8_audits_116 (by decide) rfl ?_
                        refine WP.iload dX8_audits_118 rfl ?_
                        refine WP.iload dX8_audits_120 rfl ?_
                        refine WP.if_eq (tgt := 132) dX8_audits_122 (by decide) (by omega) (fun h122 => ?_) (fun h122 => ?_)
                        · skip
                          exact absurd h122 (by decide)
                        · skip
                          refine WP.iload dX8_audits_125 rfl ?_
                          refine WP.iload dX8_audits_127 rfl ?_
                          refine WP.icmp_lt (tgt := 136) dX8_audits_129 (by decide) (by omega) (by omega) (fun h129 => ?_) (fun h129 => ?_)
                          · skip
                            refine WP.iconst dX8_audits_136 ?_
                            refine WP.iand (z := (0 : Int)) dX8_audits_137 (by rcases @bi_01 (∀ p, p < q → p < r → P p → tpo sz (ce p) set k ≠ tpo sz (ce r) set k) with z9 | z9 <;> rw [z9] <;> decide) ?_
                            refine WP.istore (lt := [vR 167, vI ((set : Nat) : Int), vI ((sp : Nat) : Int), vI ((cn (fst1 sz ce set k P) r : Nat) : Int), vI ((r : Nat) : Int), vI (((cn (fun y9 => P y9 ∧ tpo sz (ce y9) set k = tpo sz (ce r) set k) q : Nat) : Int) + (1 : Int)), vI (0 : Int), vI ((q : Nat) : Int), vI (1 : Int)]) dX8_audits_138 (by decide) rfl ?_
                            refine WP.iinc (lt := [vR 167, vI ((set : Nat) : Int), vI ((sp : Nat) : Int), vI ((cn (fst1 sz ce set k P) r : Nat) : Int), vI ((r : Nat) : Int), vI (((cn (fun y9 => P y9 ∧ tpo sz (ce y9) set k = tpo sz (ce r) set k) q : Nat) : Int) + (1 : Int)), vI (0 : Int), vI (((q : Nat) : Int) + 1), vI (1 : Int)]) dX8_audits_140 rfl (by decide) rfl ?_
                            refine WP.goto (tgt := 52) dX8_audits_143 (by decide) ?_
                            refine WP.fgt (lt := [vR 167, vI ((set : Nat) : Int), vI ((sp : Nat) : Int), vI ((cn (fst1 sz ce set k P) r : Nat) : Int), vI ((r : Nat) : Int), vI ((cn (fun y9 => P y9 ∧ tpo sz (ce y9) set k = tpo sz (ce r) set k) (q + 1) : Nat) : Int), vI (bi (∀ p, p < (q + 1) → p < r → P p → tpo sz (ce p) set k ≠ tpo sz (ce r) set k)), vI (((q + 1) : Nat) : Int), vU]) ⟨Or.inr rfl, Or.inr rfl, Or.inr rfl, Or.inr rfl, Or.inr rfl, Or.inr (congrArg vI (by rw [q101]; omega)), Or.inr (congrArg vI (bi_f (fun z => z q (by omega) (by omega) hIS.1 hIS.2))), Or.inr (congrArg vI (by omega)), Or.inl rfl, trivial⟩ ?_
                            exact ih52 (q + 1) (by omega) (by omega)
                          · skip
                            refine WP.iconst dX8_audits_132 ?_
                            refine WP.goto (tgt := 137) dX8_audits_133 (by decide) ?_
                            refine WP.iand (z := bi (∀ p, p < q → p < r → P p → tpo sz (ce p) set k ≠ tpo sz (ce r) set k)) dX8_audits_137 (by rcases @bi_01 (∀ p, p < q → p < r → P p → tpo sz (ce p) set k ≠ tpo sz (ce r) set k) with z9 | z9 <;> rw [z9] <;> decide) ?_
                            refine WP.istore (lt := [vR 167, vI ((set : Nat) : Int), vI ((sp : Nat) : Int), vI ((cn (fst1 sz ce set k P) r : Nat) : Int), vI ((r : Nat) : Int), vI (((cn (fun y9 => P y9 ∧ tpo sz (ce y9) set k = tpo sz (ce r) set k) q : Nat) : Int) + (1 : Int)), vI (bi (∀ p, p < q → p < r → P p → tpo sz (ce p) set k ≠ tpo sz (ce r) set k)), vI ((q : Nat) : Int), vI (1 : Int)]) dX8_audits_138 (by decide) rfl ?_
                            refine WP.iinc (lt := [vR 167, vI ((set : Nat) : Int), vI ((sp : Nat) : Int), vI ((cn (fst1 sz ce set k P) r : Nat) : Int), vI ((r : Nat) : Int), vI (((cn (fun y9 => P y9 ∧ tpo sz (ce y9) set k = tpo sz (ce r) set k) q : Nat) : Int) + (1 : Int)), vI (bi (∀ p, p < q → p < r → P p → tpo sz (ce p) set k ≠ tpo sz (ce r) set k)), vI (((q : Nat) : Int) + 1), vI (1 : Int)]) dX8_audits_140 rfl (by decide) rfl ?_
                            refine WP.goto (tgt := 52) dX8_audits_143 (by decide) ?_
                            refine WP.fgt (lt := [vR 167, vI ((set : Nat) : Int), vI ((sp : Nat) : Int), vI ((cn (fst1 sz ce set k P) r : Nat) : Int), vI ((r : Nat) : Int), vI ((cn (fun y9 => P y9 ∧ tpo sz (ce y9) set k = tpo sz (ce r) set k) (q + 1) : Nat) : Int), vI (bi (∀ p, p < (q + 1) → p < r → P p → tpo sz (ce p) set k ≠ tpo sz (ce r) set k)), vI (((q + 1) : Nat) : Int), vU]) ⟨Or.inr rfl, Or.inr rfl, Or.inr rfl, Or.inr rfl, Or.inr rfl, Or.inr (congrArg vI (by rw [q101]; omega)), Or.inr (congrArg vI (bi_cg ⟨fun z p hp => z p (by omega), fun z p hp hpr hP9 => z p (by omega) hpr hP9⟩)), Or.inr (congrArg vI (by omega)), Or.inl rfl, trivial⟩ ?_
                            exact ih52 (q + 1) (by omega) (by omega)
                  · skip
                    refine WP.iload dX8_audits_72 rfl ?_
                    refine WP.bipush dX8_audits_74 (by decide) ?_
                    refine WP.icmp_le (tgt := 100) dX8_audits_76 (by decide) (by omega) (by omega) (fun h76 => ?_) (fun h76 => ?_)
                    · skip
                      have hIS : ¬ (P q ∧ tpo sz (ce q) set k = tpo sz (ce r) set k) := fun z => hsbq.2.2 (by omega) (by omega) ((hPd q (by omega)).mp z.1)
                      have q101 : cn (fun y9 => P y9 ∧ tpo sz (ce y9) set k = tpo sz (ce r) set k) (q + 1) = cn (fun y9 => P y9 ∧ tpo sz (ce y9) set k = tpo sz (ce r) set k) q := cn_f (p := (fun y9 => P y9 ∧ tpo sz (ce y9) set k = tpo sz (ce r) set k)) hIS
                      refine WP.iconst dX8_audits_100 ?_
                      refine WP.istore (lt := [vR 167, vI ((set : Nat) : Int), vI ((sp : Nat) : Int), vI ((cn (fst1 sz ce set k P) r : Nat) : Int), vI ((r : Nat) : Int), vI ((cn (fun y9 => P y9 ∧ tpo sz (ce y9) set k = tpo sz (ce r) set k) q : Nat) : Int), vI (bi (∀ p, p < q → p < r → P p → tpo sz (ce p) set k ≠ tpo sz (ce r) set k)), vI ((q : Nat) : Int), vI (0 : Int)]) dX8_audits_101 (by decide) rfl ?_
                      refine WP.iload dX8_audits_103 rfl ?_
                      refine WP.iload dX8_audits_105 rfl ?_
                      refine WP.if_eq (tgt := 114) dX8_audits_107 (by decide) (by omega) (fun h107 => ?_) (fun h107 => ?_)
                      · skip
                        refine WP.iconst dX8_audits_114 ?_
                        refine WP.iadd dX8_audits_115 ?_
                        refine WP.istore (lt := [vR 167, vI ((set : Nat) : Int), vI ((sp : Nat) : Int), vI ((cn (fst1 sz ce set k P) r : Nat) : Int), vI ((r : Nat) : Int), vI (((cn (fun y9 => P y9 ∧ tpo sz (ce y9) set k = tpo sz (ce r) set k) q : Nat) : Int) + (0 : Int)), vI (bi (∀ p, p < q → p < r → P p → tpo sz (ce p) set k ≠ tpo sz (ce r) set k)), vI ((q : Nat) : Int), vI (0 : Int)]) dX8_audits_116 (by decide) rfl ?_
                        refine WP.iload dX8_audits_118 rfl ?_
                        refine WP.iload dX8_audits_120 rfl ?_
                        refine WP.if_eq (tgt := 132) dX8_audits_122 (by decide) (by omega) (fun h122 => ?_) (fun h122 => ?_)
                        · skip
                          refine WP.iconst dX8_audits_132 ?_
                          refine WP.goto (tgt := 137) dX8_audits_133 (by decide) ?_
                          refine WP.iand (z := bi (∀ p, p < q → p < r → P p → tpo sz (ce p) set k ≠ tpo sz (ce r) set k)) dX8_audits_137 (by rcases @bi_01 (∀ p, p < q → p < r → P p → tpo sz (ce p) set k ≠ tpo sz (ce r) set k) with z9 | z9 <;> rw [z9] <;> decide) ?_
                          refine WP.istore (lt := [vR 167, vI ((set : Nat) : Int), vI ((sp : Nat) : Int), vI ((cn (fst1 sz ce set k P) r : Nat) : Int), vI ((r : Nat) : Int), vI (((cn (fun y9 => P y9 ∧ tpo sz (ce y9) set k = tpo sz (ce r) set k) q : Nat) : Int) + (0 : Int)), vI (bi (∀ p, p < q → p < r → P p → tpo sz (ce p) set k ≠ tpo sz (ce r) set k)), vI ((q : Nat) : Int), vI (0 : Int)]) dX8_audits_138 (by decide) rfl ?_
                          refine WP.iinc (lt := [vR 167, vI ((set : Nat) : Int), vI ((sp : Nat) : Int), vI ((cn (fst1 sz ce set k P) r : Nat) : Int), vI ((r : Nat) : Int), vI (((cn (fun y9 => P y9 ∧ tpo sz (ce y9) set k = tpo sz (ce r) set k) q : Nat) : Int) + (0 : Int)), vI (bi (∀ p, p < q → p < r → P p → tpo sz (ce p) set k ≠ tpo sz (ce r) set k)), vI (((q : Nat) : Int) + 1), vI (0 : Int)]) dX8_audits_140 rfl (by decide) rfl ?_
                          refine WP.goto (tgt := 52) dX8_audits_143 (by decide) ?_
                          refine WP.fgt (lt := [vR 167, vI ((set : Nat) : Int), vI ((sp : Nat) : Int), vI ((cn (fst1 sz ce set k P) r : Nat) : Int), vI ((r : Nat) : Int), vI ((cn (fun y9 => P y9 ∧ tpo sz (ce y9) set k = tpo sz (ce r) set k) (q + 1) : Nat) : Int), vI (bi (∀ p, p < (q + 1) → p < r → P p → tpo sz (ce p) set k ≠ tpo sz (ce r) set k)), vI (((q + 1) : Nat) : Int), vU]) ⟨Or.inr rfl, Or.inr rfl, Or.inr rfl, Or.inr rfl, Or.inr rfl, Or.inr (congrArg vI (by rw [q101]; omega)), Or.inr (congrArg vI (bi_cg ⟨fun z p hp => z p (by omega), fun z p hp hpr hP9 => by
                            by_cases e9 : p = q
                            · rw [e9] at hP9 ⊢; exact fun y => hIS ⟨hP9, y⟩
                            · exact z p (by omega) hpr hP9⟩)), Or.inr (congrArg vI (by omega)), Or.inl rfl, trivial⟩ ?_
                          exact ih52 (q + 1) (by omega) (by omega)
                        · skip
                          exact absurd rfl h122
                      · skip
                        exact absurd rfl h107
                    · skip
                      have hPq : P q := (hPd q (by omega)).mpr (hsbq.2.1 (by omega))
                      refine WP.aload_n dX8_audits_79 rfl ?_
                      refine WP.iload dX8_audits_80 rfl ?_
                      refine WP.iload_n dX8_audits_82 rfl ?_
                      refine WP.callVp (as := [vI ((q : Nat) : Int), vI ((set : Nat) : Int)]) dX8_audits_83 mv_X8_129 rfl (rfl) (by decide) rfl rfl (w_tupleOf (r := q) (set := set) hA2 hW (by omega) (by omega)) rfl (Nat.le_of_ble_eq_true rfl) (by omega) ?_
                      have wtq := tpo_lt (sz := sz) (row := ce q) (set := set) (k := k) (fun b hb => hW.2.2.2 q (by omega) b hb)
                      refine WP.aload_n dX8_audits_86 rfl ?_
                      refine WP.iload dX8_audits_87 rfl ?_
                      refine WP.iload_n dX8_audits_89 rfl ?_
                      refine WP.callVp (as := [vI ((r : Nat) : Int), vI ((set : Nat) : Int)]) dX8_audits_90 mv_X8_129 rfl (rfl) (by decide) rfl rfl (w_tupleOf (r := r) (set := set) hA2 hW (by omega) (by omega)) rfl (Nat.le_of_ble_eq_true rfl) (by omega) ?_
                      have wtr := tpo_lt (sz := sz) (row := ce r) (set := set) (k := k) (fun b hb => hW.2.2.2 r (by omega) b hb)
                      refine WP.icmp_ne (tgt := 100) dX8_audits_93 (by decide) (by omega) (by omega) (fun h93 => ?_) (fun h93 => ?_)
                      · skip
                        have hIS : ¬ (P q ∧ tpo sz (ce q) set k = tpo sz (ce r) set k) := fun z => by have := z.2; omega
                        have q101 : cn (fun y9 => P y9 ∧ tpo sz (ce y9) set k = tpo sz (ce r) set k) (q + 1) = cn (fun y9 => P y9 ∧ tpo sz (ce y9) set k = tpo sz (ce r) set k) q := cn_f (p := (fun y9 => P y9 ∧ tpo sz (ce y9) set k = tpo sz (ce r) set k)) hIS
                        refine WP.iconst dX8_audits_100 ?_
                        refine WP.istore (lt := [vR 167, vI ((set : Nat) : Int), vI ((sp : Nat) : Int), vI ((cn (fst1 sz ce set k P) r : Nat) : Int), vI ((r : Nat) : Int), vI ((cn (fun y9 => P y9 ∧ tpo sz (ce y9) set k = tpo sz (ce r) set k) q : Nat) : Int), vI (bi (∀ p, p < q → p < r → P p → tpo sz (ce p) set k ≠ tpo sz (ce r) set k)), vI ((q : Nat) : Int), vI (0 : Int)]) dX8_audits_101 (by decide) rfl ?_
                        refine WP.iload dX8_audits_103 rfl ?_
                        refine WP.iload dX8_audits_105 rfl ?_
                        refine WP.if_eq (tgt := 114) dX8_audits_107 (by decide) (by omega) (fun h107 => ?_) (fun h107 => ?_)
                        · skip
                          refine WP.iconst dX8_audits_114 ?_
                          refine WP.iadd dX8_audits_115 ?_
                          refine WP.istore (lt := [vR 167, vI ((set : Nat) : Int), vI ((sp : Nat) : Int), vI ((cn (fst1 sz ce set k P) r : Nat) : Int), vI ((r : Nat) : Int), vI (((cn (fun y9 => P y9 ∧ tpo sz (ce y9) set k = tpo sz (ce r) set k) q : Nat) : Int) + (0 : Int)), vI (bi (∀ p, p < q → p < r → P p → tpo sz (ce p) set k ≠ tpo sz (ce r) set k)), vI ((q : Nat) : Int), vI (0 : Int)]) dX8_audits_116 (by decide) rfl ?_
                          refine WP.iload dX8_audits_118 rfl ?_
                          refine WP.iload dX8_audits_120 rfl ?_
                          refine WP.if_eq (tgt := 132) dX8_audits_122 (by decide) (by omega) (fun h122 => ?_) (fun h122 => ?_)
                          · skip
                            refine WP.iconst dX8_audits_132 ?_
                            refine WP.goto (tgt := 137) dX8_audits_133 (by decide) ?_
                            refine WP.iand (z := bi (∀ p, p < q → p < r → P p → tpo sz (ce p) set k ≠ tpo sz (ce r) set k)) dX8_audits_137 (by rcases @bi_01 (∀ p, p < q → p < r → P p → tpo sz (ce p) set k ≠ tpo sz (ce r) set k) with z9 | z9 <;> rw [z9] <;> decide) ?_
                            refine WP.istore (lt := [vR 167, vI ((set : Nat) : Int), vI ((sp : Nat) : Int), vI ((cn (fst1 sz ce set k P) r : Nat) : Int), vI ((r : Nat) : Int), vI (((cn (fun y9 => P y9 ∧ tpo sz (ce y9) set k = tpo sz (ce r) set k) q : Nat) : Int) + (0 : Int)), vI (bi (∀ p, p < q → p < r → P p → tpo sz (ce p) set k ≠ tpo sz (ce r) set k)), vI ((q : Nat) : Int), vI (0 : Int)]) dX8_audits_138 (by decide) rfl ?_
                            refine WP.iinc (lt := [vR 167, vI ((set : Nat) : Int), vI ((sp : Nat) : Int), vI ((cn (fst1 sz ce set k P) r : Nat) : Int), vI ((r : Nat) : Int), vI (((cn (fun y9 => P y9 ∧ tpo sz (ce y9) set k = tpo sz (ce r) set k) q : Nat) : Int) + (0 : Int)), vI (bi (∀ p, p < q → p < r → P p → tpo sz (ce p) set k ≠ tpo sz (ce r) set k)), vI (((q : Nat) : Int) + 1), vI (0 : Int)]) dX8_audits_140 rfl (by decide) rfl ?_
                            refine WP.goto (tgt := 52) dX8_audits_143 (by decide) ?_
                            refine WP.fgt (lt := [vR 167, vI ((set : Nat) : Int), vI ((sp : Nat) : Int), vI ((cn (fst1 sz ce set k P) r : Nat) : Int), vI ((r : Nat) : Int), vI ((cn (fun y9 => P y9 ∧ tpo sz (ce y9) set k = tpo sz (ce r) set k) (q + 1) : Nat) : Int), vI (bi (∀ p, p < (q + 1) → p < r → P p → tpo sz (ce p) set k ≠ tpo sz (ce r) set k)), vI (((q + 1) : Nat) : Int), vU]) ⟨Or.inr rfl, Or.inr rfl, Or.inr rfl, Or.inr rfl, Or.inr rfl, Or.inr (congrArg vI (by rw [q101]; omega)), Or.inr (congrArg vI (bi_cg ⟨fun z p hp => z p (by omega), fun z p hp hpr hP9 => by
                              by_cases e9 : p = q
                              · rw [e9] at hP9 ⊢; exact fun y => hIS ⟨hP9, y⟩
                              · exact z p (by omega) hpr hP9⟩)), Or.inr (congrArg vI (by omega)), Or.inl rfl, trivial⟩ ?_
                            exact ih52 (q + 1) (by omega) (by omega)
                          · skip
                            exact absurd rfl h122
                        · skip
                          exact absurd rfl h107
                      · skip
                        have hIS : P q ∧ tpo sz (ce q) set k = tpo sz (ce r) set k := ⟨hPq, by omega⟩
                        have q101 : cn (fun y9 => P y9 ∧ tpo sz (ce y9) set k = tpo sz (ce r) set k) (q + 1) = cn (fun y9 => P y9 ∧ tpo sz (ce y9) set k = tpo sz (ce r) set k) q + 1 := cn_t (p := (fun y9 => P y9 ∧ tpo sz (ce y9) set k = tpo sz (ce r) set k)) hIS
                        refine WP.iconst dX8_audits_96 ?_
                        refine WP.goto (tgt := 101) dX8_audits_97 (by decide) ?_
                        refine WP.istore (lt := [vR 167, vI ((set : Nat) : Int), vI ((sp : Nat) : Int), vI ((cn (fst1 sz ce set k P) r : Nat) : Int), vI ((r : Nat) : Int), vI ((cn (fun y9 => P y9 ∧ tpo sz (ce y9) set k = tpo sz (ce r) set k) q : Nat) : Int), vI (bi (∀ p, p < q → p < r → P p → tpo sz (ce p) set k ≠ tpo sz (ce r) set k)), vI ((q : Nat) : Int), vI (1 : Int)]) dX8_audits_101 (by decide) rfl ?_
                        refine WP.iload dX8_audits_103 rfl ?_
                        refine WP.iload dX8_audits_105 rfl ?_
                        refine WP.if_eq (tgt := 114) dX8_audits_107 (by decide) (by omega) (fun h107 => ?_) (fun h107 => ?_)
                        · skip
                          exact absurd h107 (by decide)
                        · skip
                          refine WP.iconst dX8_audits_110 ?_
                          refine WP.goto (tgt := 115) dX8_audits_111 (by decide) ?_
                          refine WP.iadd dX8_audits_115 ?_
                          refine WP.istore (lt := [vR 167, vI ((set : Nat) : Int), vI ((sp : Nat) : Int), vI ((cn (fst1 sz ce set k P) r : Nat) : Int), vI ((r : Nat) : Int), vI (((cn (fun y9 => P y9 ∧ tpo sz (ce y9) set k = tpo sz (ce r) set k) q : Nat) : Int) + (1 : Int)), vI (bi (∀ p, p < q → p < r → P p → tpo sz (ce p) set k ≠ tpo sz (ce r) set k)), vI ((q : Nat) : Int), vI (1 : Int)]) dX8_audits_116 (by decide) rfl ?_
                          refine WP.iload dX8_audits_118 rfl ?_
                          refine WP.iload dX8_audits_120 rfl ?_
                          refine WP.if_eq (tgt := 132) dX8_audits_122 (by decide) (by omega) (fun h122 => ?_) (fun h122 => ?_)
                          · skip
                            exact absurd h122 (by decide)
                          · skip
                            refine WP.iload dX8_audits_125 rfl ?_
                            refine WP.iload dX8_audits_127 rfl ?_
                            refine WP.icmp_lt (tgt := 136) dX8_audits_129 (by decide) (by omega) (by omega) (fun h129 => ?_) (fun h129 => ?_)
                            · skip
                              refine WP.iconst dX8_audits_136 ?_
                              refine WP.iand (z := (0 : Int)) dX8_audits_137 (by rcases @bi_01 (∀ p, p < q → p < r → P p → tpo sz (ce p) set k ≠ tpo sz (ce r) set k) with z9 | z9 <;> rw [z9] <;> decide) ?_
                              refine WP.istore (lt := [vR 167, vI ((set : Nat) : Int), vI ((sp : Nat) : Int), vI ((cn (fst1 sz ce set k P) r : Nat) : Int), vI ((r : Nat) : Int), vI (((cn (fun y9 => P y9 ∧ tpo sz (ce y9) set k = tpo sz (ce r) set k) q : Nat) : Int) + (1 : Int)), vI (0 : Int), vI ((q : Nat) : Int), vI (1 : Int)]) dX8_audits_138 (by decide) rfl ?_
                              refine WP.iinc (lt := [vR 167, vI ((set : Nat) : Int), vI ((sp : Nat) : Int), vI ((cn (fst1 sz ce set k P) r : Nat) : Int), vI ((r : Nat) : Int), vI (((cn (fun y9 => P y9 ∧ tpo sz (ce y9) set k = tpo sz (ce r) set k) q : Nat) : Int) + (1 : Int)), vI (0 : Int), vI (((q : Nat) : Int) + 1), vI (1 : Int)]) dX8_audits_140 rfl (by decide) rfl ?_
                              refine WP.goto (tgt := 52) dX8_audits_143 (by decide) ?_
                              refine WP.fgt (lt := [vR 167, vI ((set : Nat) : Int), vI ((sp : Nat) : Int), vI ((cn (fst1 sz ce set k P) r : Nat) : Int), vI ((r : Nat) : Int), vI ((cn (fun y9 => P y9 ∧ tpo sz (ce y9) set k = tpo sz (ce r) set k) (q + 1) : Nat) : Int), vI (bi (∀ p, p < (q + 1) → p < r → P p → tpo sz (ce p) set k ≠ tpo sz (ce r) set k)), vI (((q + 1) : Nat) : Int), vU]) ⟨Or.inr rfl, Or.inr rfl, Or.inr rfl, Or.inr rfl, Or.inr rfl, Or.inr (congrArg vI (by rw [q101]; omega)), Or.inr (congrArg vI (bi_f (fun z => z q (by omega) (by omega) hIS.1 hIS.2))), Or.inr (congrArg vI (by omega)), Or.inl rfl, trivial⟩ ?_
                              exact ih52 (q + 1) (by omega) (by omega)
                            · skip
                              refine WP.iconst dX8_audits_132 ?_
                              refine WP.goto (tgt := 137) dX8_audits_133 (by decide) ?_
                              refine WP.iand (z := bi (∀ p, p < q → p < r → P p → tpo sz (ce p) set k ≠ tpo sz (ce r) set k)) dX8_audits_137 (by rcases @bi_01 (∀ p, p < q → p < r → P p → tpo sz (ce p) set k ≠ tpo sz (ce r) set k) with z9 | z9 <;> rw [z9] <;> decide) ?_
                              refine WP.istore (lt := [vR 167, vI ((set : Nat) : Int), vI ((sp : Nat) : Int), vI ((cn (fst1 sz ce set k P) r : Nat) : Int), vI ((r : Nat) : Int), vI (((cn (fun y9 => P y9 ∧ tpo sz (ce y9) set k = tpo sz (ce r) set k) q : Nat) : Int) + (1 : Int)), vI (bi (∀ p, p < q → p < r → P p → tpo sz (ce p) set k ≠ tpo sz (ce r) set k)), vI ((q : Nat) : Int), vI (1 : Int)]) dX8_audits_138 (by decide) rfl ?_
                              refine WP.iinc (lt := [vR 167, vI ((set : Nat) : Int), vI ((sp : Nat) : Int), vI ((cn (fst1 sz ce set k P) r : Nat) : Int), vI ((r : Nat) : Int), vI (((cn (fun y9 => P y9 ∧ tpo sz (ce y9) set k = tpo sz (ce r) set k) q : Nat) : Int) + (1 : Int)), vI (bi (∀ p, p < q → p < r → P p → tpo sz (ce p) set k ≠ tpo sz (ce r) set k)), vI (((q : Nat) : Int) + 1), vI (1 : Int)]) dX8_audits_140 rfl (by decide) rfl ?_
                              refine WP.goto (tgt := 52) dX8_audits_143 (by decide) ?_
                              refine WP.fgt (lt := [vR 167, vI ((set : Nat) : Int), vI ((sp : Nat) : Int), vI ((cn (fst1 sz ce set k P) r : Nat) : Int), vI ((r : Nat) : Int), vI ((cn (fun y9 => P y9 ∧ tpo sz (ce y9) set k = tpo sz (ce r) set k) (q + 1) : Nat) : Int), vI (bi (∀ p, p < (q + 1) → p < r → P p → tpo sz (ce p) set k ≠ tpo sz (ce r) set k)), vI (((q + 1) : Nat) : Int), vU]) ⟨Or.inr rfl, Or.inr rfl, Or.inr rfl, Or.inr rfl, Or.inr rfl, Or.inr (congrArg vI (by rw [q101]; omega)), Or.inr (congrArg vI (bi_cg ⟨fun z p hp => z p (by omega), fun z p hp hpr hP9 => z p (by omega) hpr hP9⟩)), Or.inr (congrArg vI (by omega)), Or.inl rfl, trivial⟩ ?_
                              exact ih52 (q + 1) (by omega) (by omega)
            refine WP.fgt (lt := [vR 167, vI ((set : Nat) : Int), vI ((sp : Nat) : Int), vI ((cn (fst1 sz ce set k P) r : Nat) : Int), vI ((r : Nat) : Int), vI ((cn (fun y9 => P y9 ∧ tpo sz (ce y9) set k = tpo sz (ce r) set k) 0 : Nat) : Int), vI (bi (∀ p, p < 0 → p < r → P p → tpo sz (ce p) set k ≠ tpo sz (ce r) set k)), vI ((0 : Nat) : Int), vU]) ⟨Or.inr rfl, Or.inr rfl, Or.inr rfl, Or.inr rfl, Or.inr rfl, Or.inr (congrArg vI (rfl)), Or.inr (congrArg vI ((bi_t (fun p hp => absurd hp (Nat.not_lt_zero p))))), Or.inr (congrArg vI (by omega)), Or.inl rfl, trivial⟩ ?_
            exact L52 _ (0) (Nat.zero_le _) (Nat.lt_succ_self _)
  refine WP.fgt (lt := [vR 167, vI ((set : Nat) : Int), vI ((sp : Nat) : Int), vI ((cn (fst1 sz ce set k P) 0 : Nat) : Int), vI ((0 : Nat) : Int), vU, vU, vU, vU]) ⟨Or.inr rfl, Or.inr rfl, Or.inr rfl, Or.inr (congrArg vI (rfl)), Or.inr (congrArg vI (by omega)), Or.inl rfl, Or.inl rfl, Or.inl rfl, Or.inl rfl, trivial⟩ ?_
  exact L16 _ (0) (0) (36) (M1) (Nat.zero_le _) (hF1) (hG1) (hm1) (hf1) (fun q hq => absurd hq (Nat.not_lt_zero q)) (Or.inl rfl) (fun q hq => absurd hq (Nat.not_lt_zero q)) (Or.inl rfl) (by decide) (Nat.lt_succ_self _)
set_option maxHeartbeats 4000000 in
set_option maxRecDepth 20000 in
theorem w_isBalanced {M : Mem} {n k : Nat} {sz : Nat → Nat} {ce : Nat → Nat → Nat} {set sp : Nat} {P : Nat → Prop} (hA : BX (M 168) n k sz ce) (hW : Wf n k sz ce) (hset : set < 2147483648) (hsp : sp < 2 ^ 12) (hPd : ∀ q, q < n → (P q ↔ ¬ mk sp q)) : CT 4 m_X8_isBalanced [vR 167, vI ((set : Nat) : Int), vI ((sp : Nat) : Int)] M (fun z M' => z = some (vI (bi (bal n k sz ce set P))) ∧ (∀ a, a ≠ 167 → M' a = M a) ∧ (∀ j, j ≠ 8 → j ≠ 9 → M' 167 j = M 167 j) ∧ M' 167 8 = ((mnv (fun v => tc sz ce set k P v n) 36 (tps sz set k) : Nat) : Int) ∧ M' 167 9 = ((mxv (fun v => tc sz ce set k P v n) (tps sz set k) : Nat) : Int)) := by
  have b1 := hW.1
  have b2 := hW.2.1
  refine CT.ofWP (by decide +kernel) (Nat.le_of_ble_eq_true rfl) ?_
  show WP sc0 4 m_X8_isBalanced 0 [vR 167, vI ((set : Nat) : Int), vI ((sp : Nat) : Int)] [] M (fun z M' => z = some (vI (bi (bal n k sz ce set P))) ∧ (∀ a, a ≠ 167 → M' a = M a) ∧ (∀ j, j ≠ 8 → j ≠ 9 → M' 167 j = M 167 j) ∧ M' 167 8 = ((mnv (fun v => tc sz ce set k P v n) 36 (tps sz set k) : Nat) : Int) ∧ M' 167 9 = ((mxv (fun v => tc sz ce set k P v n) (tps sz set k) : Nat) : Int))
  refine WP.aload_n dX8_isBalanced_0 rfl ?_
  refine WP.iload_n dX8_isBalanced_1 rfl ?_
  refine WP.iload_n dX8_isBalanced_2 rfl ?_
  refine WP.callV (as := [vI ((set : Nat) : Int), vI ((sp : Nat) : Int)]) dX8_isBalanced_3 mv_X8_135 rfl (rfl) (by decide) rfl rfl (w_audits (set := set) (sp := sp) (P := P) hA hW hset hsp hPd) rfl (Nat.le_of_ble_eq_true rfl) (by omega) (fun r9 M1 h9 => ?_)
  obtain ⟨rfl, f1, g1, e1, e2⟩ := h9
  have v1 : mnv (fun v => tc sz ce set k P v n) 36 (tps sz set k) ≤ 36 := mnv_lea
  have v2 : mxv (fun v => tc sz ce set k P v n) (tps sz set k) ≤ n := mxv_le (fun v _ => cn_le _ n)
  show WP sc0 4 m_X8_isBalanced 6 [vR 167, vI ((set : Nat) : Int), vI ((sp : Nat) : Int)] [] M1 (fun z M' => z = some (vI (bi (bal n k sz ce set P))) ∧ (∀ a, a ≠ 167 → M' a = M a) ∧ (∀ j, j ≠ 8 → j ≠ 9 → M' 167 j = M 167 j) ∧ M' 167 8 = ((mnv (fun v => tc sz ce set k P v n) 36 (tps sz set k) : Nat) : Int) ∧ M' 167 9 = ((mxv (fun v => tc sz ce set k P v n) (tps sz set k) : Nat) : Int))
  refine WP.aload_n dX8_isBalanced_6 rfl ?_
  refine WP.getI (x := ((mnv (fun v => tc sz ce set k P v n) 36 (tps sz set k) : Nat) : Int)) dX8_isBalanced_7 fl_X8_126 (rfl) (by decide) (e1) ?_
  refine WP.aload_n dX8_isBalanced_10 rfl ?_
  refine WP.getI (x := ((mxv (fun v => tc sz ce set k P v n) (tps sz set k) : Nat) : Int)) dX8_isBalanced_11 fl_X8_123 (rfl) (by decide) (e2) ?_
  refine WP.icmp_ne (tgt := 21) dX8_isBalanced_14 (by decide) (by omega) (by omega) (fun h14 => ?_) (fun h14 => ?_)
  · skip
    have hb : ¬ bal n k sz ce set P := fun z => by have := (aud_bal hW).mpr z; omega
    refine WP.iconst dX8_isBalanced_21 ?_
    refine WP.zret dX8_isBalanced_22 rfl (by decide) ?_
    exact ⟨congrArg some (congrArg vI (bi_f hb).symm), f1, g1, e1, e2⟩
  · skip
    have hb : bal n k sz ce set P := (aud_bal hW).mp (by omega)
    refine WP.iconst dX8_isBalanced_17 ?_
    refine WP.goto (tgt := 22) dX8_isBalanced_18 (by decide) ?_
    refine WP.zret dX8_isBalanced_22 rfl (by decide) ?_
    exact ⟨congrArg some (congrArg vI (bi_t hb).symm), f1, g1, e1, e2⟩
