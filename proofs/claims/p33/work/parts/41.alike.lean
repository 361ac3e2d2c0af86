theorem InvX.fr {M M' : Mem} {S : ST} (hI : InvX M S) (h : ∀ a, a < 167 → M' a = M a) : InvX M' S := by
  obtain ⟨a1, a2, a3, a4, a5, a6⟩ := hI
  refine ⟨a1.fr (h _ (by decide)) (h _ (by decide)) (h _ (by decide)), a2.fr (h _ (by decide)) (fun a i1 i2 => h a (by omega)), a3.fr (h _ (by decide)) (fun a i1 i2 => h a (by omega)), a4.fr (h _ (by decide)) (h _ (by decide)), ?_, ?_⟩
  · unfold CEx
    rw [h 42 (by decide), h 53 (by decide)]
    exact a5
  · unfold CIx
    rw [h 42 (by decide), h 100 (by decide), h 101 (by decide)]
    exact a6
/-- both benches hold their states -/
def B2 (M : Mem) (S T : ST) : Prop := InvX M S ∧ InvX (msw M) T
theorem msw_at {M : Mem} {a : Nat} (h : a < 167) : msw M a = M (a + 167) := by
  show M (sw a) = _
  rw [sw_lo h]
theorem vI_sw {z : Option V} {x : Int} (h : z.map swV = some (vI x)) : z = some (vI x) := by
  cases z with
  | none => cases h
  | some v =>
    have h2 : swV v = vI x := Option.some.inj h
    rw [← swV_swV v, h2]
    rfl
/-- a call of the one, and of the other -/
theorem B2.o {d : Nat} {mt : Mth} {as : List V} {M : Mem} {S T : ST} {q : Int × ST} (hB : B2 M S T) (h : CT d mt as M (PX M q)) : CT d mt as M (fun z M2 => z = some (vI q.1) ∧ B2 M2 q.2 T) :=
  CT.mono (fun z M2 ⟨h1, h2, h3⟩ => ⟨h1, h2, hB.2.fr (fun a ha => by rw [msw_at ha, msw_at ha, h3 _ (by omega)])⟩) h
theorem B2.q {d : Nat} {mt : Mth} {as : List V} {M : Mem} {S T : ST} {q : Int × ST} (hB : B2 M S T) (h : CT d mt as (msw M) (PX (msw M) q)) : CT d mt (as.map swV) M (fun z M2 => z = some (vI q.1) ∧ B2 M2 S q.2) :=
  CT.mono (fun z M2 ⟨h1, h2, h3⟩ => ⟨vI_sw h1, hB.1.fr (fun a ha => by
    have := h3 (a + 167) (by omega)
    have e : ∀ N : Mem, msw N (a + 167) = N a := fun N => by
      show N (sw (a + 167)) = N a
      rw [sw_hi (by omega) (by omega), Nat.add_sub_cancel]
    rwa [e, e] at this), h2⟩) (CT.twin h)
section SAME
variable {sc : Nat × (Nat → Int)} {d : Nat} {mt : Mth} {pc : Nat} {ls st : List V} {M : Mem} {Q : Option V → Mem → Prop}
theorem WP.icmp_same {x off : Int} {tgt : Nat} (hd : decode mt.2.1 pc = .ok (.if_icmp .eq off, 3)) (ht : (pc : Int) + off = (tgt : Int)) (k : WP sc d mt tgt ls st M Q) : WP sc d mt pc ls (vI x :: vI x :: st) M Q := by
  intro p l e R s m args below meth c E A H locs cells slots Z lsR F hP hS hl hr
  exact lv_icmp_eq F.1 F.2.1 hd ht (fun _ => k p l e R s m args below meth c E A H locs cells slots Z lsR F hP hS hl hr) (fun h => absurd rfl h)
theorem WP.icne_same {x off : Int} {tgt : Nat} (hd : decode mt.2.1 pc = .ok (.if_icmp .ne off, 3)) (ht : (pc : Int) + off = (tgt : Int)) (k : WP sc d mt (pc + 3) ls st M Q) : WP sc d mt pc ls (vI x :: vI x :: st) M Q := by
  intro p l e R s m args below meth c E A H locs cells slots Z lsR F hP hS hl hr
  exact lv_icmp_ne F.1 F.2.1 hd ht (fun h => absurd rfl h) (fun _ => k p l e R s m args below meth c E A H locs cells slots Z lsR F hP hS hl hr)
end SAME
theorem WP.callTp {sc : Nat × (Nat → Int)} {d : Nat} {mt : Mth} {pc : Nat} {ls st : List V} {M : Mem} {Q : Option V → Mem → Prop} {d' index n : Nat} {mt' : Mth} {as st0 : List V} {v : V} (hsc : sc.1 ≠ 0) (hd : decode mt.2.1 pc = .ok (.invokestatic index, 3)) (hm : MS mt.1.cls index mt' n) (hn : as.length = n) (hc1 : CTs sc d' mt' as M (Rt (some v) M)) (hst : st0 = as.reverse ++ st) (hcat : (st.map cat).sum ≤ 8) (hdd : d' + 1 ≤ d)
    (k : WP sc d mt (pc + 3) ls (v :: st) M Q) : WP sc d mt pc ls st0 M Q :=
  WP.callT hsc hd hm hn hc1 hst hcat hdd (fun r M' h => by obtain ⟨rfl, rfl⟩ := h; exact k)
theorem t_o {M : Mem} {S T : ST} {x : Int} (hB : B2 M S T) (hx : -2147483648 ≤ x ∧ x < 2147483648) : CT 40 m_X7_told [vR 42, vI x] M (fun z M2 => z = some (vI (o_told S x).1) ∧ B2 M2 S T) := hB.o (x_told hB.1 hx)
theorem t_q {M : Mem} {S T : ST} {x : Int} (hB : B2 M S T) (hx : -2147483648 ≤ x ∧ x < 2147483648) : CT 40 m_X7_told [vR 209, vI x] M (fun z M2 => z = some (vI (o_told T x).1) ∧ B2 M2 S T) := hB.q (as := [vR 42, vI x]) (x_told hB.2 hx)
theorem l_o {M : Mem} {S T : ST} {x : Int} (hB : B2 M S T) (hx : -2147483648 ≤ x ∧ x < 2147483648) : CT 40 m_X7_levels [vR 42, vI x] M (fun z M2 => z = some (vI (o_levels S x).1) ∧ B2 M2 S T) := hB.o (x_levels hB.1 hx)
theorem l_q {M : Mem} {S T : ST} {x : Int} (hB : B2 M S T) (hx : -2147483648 ≤ x ∧ x < 2147483648) : CT 40 m_X7_levels [vR 209, vI x] M (fun z M2 => z = some (vI (o_levels T x).1) ∧ B2 M2 S T) := hB.q (as := [vR 42, vI x]) (x_levels hB.2 hx)
theorem e_o {M : Mem} {S T : ST} {x y : Int} (hB : B2 M S T) (hx : -2147483648 ≤ x ∧ x < 2147483648) (hy : -2147483648 ≤ y ∧ y < 2147483648) : CT 40 m_X7_cell [vR 42, vI x, vI y] M (fun z M2 => z = some (vI (o_cell S x y).1) ∧ B2 M2 S T) := hB.o (x_cell hB.1 hx hy)
theorem e_q {M : Mem} {S T : ST} {x y : Int} (hB : B2 M S T) (hx : -2147483648 ≤ x ∧ x < 2147483648) (hy : -2147483648 ≤ y ∧ y < 2147483648) : CT 40 m_X7_cell [vR 209, vI x, vI y] M (fun z M2 => z = some (vI (o_cell T x y).1) ∧ B2 M2 S T) := hB.q (as := [vR 42, vI x, vI y]) (x_cell hB.2 hx hy)
theorem t_o0 {M : Mem} {S T : ST} (hB : B2 M S T) : CT 40 m_X7_told [vR 42, vI 0] M (fun z M2 => z = some (vI ((S.1.1 : Nat) : Int)) ∧ B2 M2 S T) := t_o hB ⟨by decide, by decide⟩
theorem t_o1 {M : Mem} {S T : ST} (hB : B2 M S T) : CT 40 m_X7_told [vR 42, vI 1] M (fun z M2 => z = some (vI ((S.1.2.1 : Nat) : Int)) ∧ B2 M2 S T) := t_o hB ⟨by decide, by decide⟩
theorem t_o2 {M : Mem} {S T : ST} (hB : B2 M S T) : CT 40 m_X7_told [vR 42, vI 2] M (fun z M2 => z = some (vI ((stF (fun b => okT S.1.1 S.1.2.1 S.1.2.2.1 S.1.2.2.2 b aT) S.1.2.1 : Nat) : Int)) ∧ B2 M2 S T) := t_o hB ⟨by decide, by decide⟩
theorem t_o4 {M : Mem} {S T : ST} (hB : B2 M S T) : CT 40 m_X7_told [vR 42, vI 4] M (fun z M2 => z = some (vI (bi (sch S.1.1 S.1.2.1 S.1.2.2.1 S.1.2.2.2))) ∧ B2 M2 S T) := t_o hB ⟨by decide, by decide⟩
set_option maxHeartbeats 4000000 in
set_option maxRecDepth 20000 in
theorem c_L_areAlike {M : Mem} {S : ST} (hB : B2 M S S) : CT 41 m_L_areAlike [vR 42, vR 209] M (fun z M' => z = some (vI 1) ∧ B2 M' S S) := by
  have b1 := hB.1.1.2.1
  have b2 := hB.1.1.2.2.1
  refine CT.ofWP (by decide +kernel) (Nat.le_of_ble_eq_true rfl) ?_
  show WP sc0 41 m_L_areAlike 0 [vR 42, vR 209, vU, vU, vU] [] M (fun z M' => z = some (vI 1) ∧ B2 M' S S)
  refine WP.iconst dL_areAlike_0 ?_
  refine WP.istore_n (lt := [vR 42, vR 209, vI (1 : Int), vU, vU]) dL_areAlike_1 (by decide) rfl ?_
  refine WP.iconst dL_areAlike_2 ?_
  refine WP.istore_n (lt := [vR 42, vR 209, vI (1 : Int), vI (0 : Int), vU]) dL_areAlike_3 (by decide) rfl ?_
  have L4 : ∀ (n9 : Nat) (j : Nat) (M1 : Mem) (hj : j ≤ 9) (hB1 : B2 M1 S S), 9 - j < n9 → WP sc0 41 m_L_areAlike 4 [vR 42, vR 209, vI (1 : Int), vI ((j : Nat) : Int), vU] [] M1 (fun z M' => z = some (vI 1) ∧ B2 M' S S) := by
    intro n9
    induction n9 with
    | zero =>
      intro j M1 hj hB1 hm9
      exact absurd hm9 (Nat.not_lt_zero _)
    | succ n9 ih4 =>
      intro j M1 hj hB1 hm9
      refine WP.iload_n dL_areAlike_4 rfl ?_
      refine WP.bipush dL_areAlike_5 (by decide) ?_
      refine WP.icmp_ge (tgt := 39) dL_areAlike_7 (by decide) (by omega) (by omega) (fun h7 => ?_) (fun h7 => ?_)
      · skip
        refine WP.iconst dL_areAlike_39 ?_
        refine WP.istore_n (lt := [vR 42, vR 209, vI (1 : Int), vI (0 : Int), vU]) dL_areAlike_40 (by decide) rfl ?_
        have L41 : ∀ (n9 : Nat) (c : Nat) (Ma : Mem) (hc : c ≤ S.1.2.1) (hBa : B2 Ma S S), S.1.2.1 - c < n9 → WP sc0 41 m_L_areAlike 41 [vR 42, vR 209, vI (1 : Int), vI ((c : Nat) : Int), vU] [] Ma (fun z M' => z = some (vI 1) ∧ B2 M' S S) := by
          intro n9
          induction n9 with
          | zero =>
            intro c Ma hc hBa hm9
            exact absurd hm9 (Nat.not_lt_zero _)
          | succ n9 ih41 =>
            intro c Ma hc hBa hm9
            refine WP.iload_n dL_areAlike_41 rfl ?_
            refine WP.aload_n dL_areAlike_42 rfl ?_
            refine WP.iconst dL_areAlike_43 ?_
            refine WP.callV (as := [vI (1 : Int)]) dL_areAlike_44 mv_L_9 rfl (rfl) (by decide) rfl rfl (t_o1 hBa) rfl (Nat.le_of_ble_eq_true rfl) (by omega) (fun r9 Mb h9 => ?_)
            obtain ⟨rfl, hBb⟩ := h9
            show WP sc0 41 m_L_areAlike 47 [vR 42, vR 209, vI (1 : Int), vI ((c : Nat) : Int), vU] [vI ((S.1.2.1 : Nat) : Int), vI ((c : Nat) : Int)] Mb (fun z M' => z = some (vI 1) ∧ B2 M' S S)
            refine WP.icmp_ge (tgt := 125) dL_areAlike_47 (by decide) (by omega) (by omega) (fun h47 => ?_) (fun h47 => ?_)
            · skip
              refine WP.iload_n dL_areAlike_125 rfl ?_
              refine WP.zret dL_areAlike_126 rfl (by decide) ?_
              exact ⟨rfl, hBb⟩
            · skip
              refine WP.iload_n dL_areAlike_50 rfl ?_
              refine WP.if_eq (tgt := 71) dL_areAlike_51 (by decide) (by omega) (fun h51 => ?_) (fun h51 => ?_)
              · skip
                exfalso
                omega
              · skip
                refine WP.aload_n dL_areAlike_54 rfl ?_
                refine WP.iload_n dL_areAlike_55 rfl ?_
                refine WP.callV (as := [vI ((c : Nat) : Int)]) dL_areAlike_56 mv_L_90 rfl (rfl) (by decide) rfl rfl (l_o hBb (by omega)) rfl (Nat.le_of_ble_eq_true rfl) (by omega) (fun r9 Mc h9 => ?_)
                obtain ⟨rfl, hBc⟩ := h9
                show WP sc0 41 m_L_areAlike 59 [vR 42, vR 209, vI (1 : Int), vI ((c : Nat) : Int), vU] [vI ((o_levels S ((c : Nat) : Int)).1)] Mc (fun z M' => z = some (vI 1) ∧ B2 M' S S)
                refine WP.aload_n dL_areAlike_59 rfl ?_
                refine WP.iload_n dL_areAlike_60 rfl ?_
                refine WP.callV (as := [vI ((c : Nat) : Int)]) dL_areAlike_61 mv_L_90 rfl (rfl) (by decide) rfl rfl (l_q hBc (by omega)) rfl (Nat.le_of_ble_eq_true rfl) (by omega) (fun r9 Md h9 => ?_)
                obtain ⟨rfl, hBd⟩ := h9
                show WP sc0 41 m_L_areAlike 64 [vR 42, vR 209, vI (1 : Int), vI ((c : Nat) : Int), vU] [vI ((o_levels S ((c : Nat) : Int)).1), vI ((o_levels S ((c : Nat) : Int)).1)] Md (fun z M' => z = some (vI 1) ∧ B2 M' S S)
                refine WP.icne_same (tgt := 71) dL_areAlike_64 (by decide) ?_
                refine WP.iconst dL_areAlike_67 ?_
                refine WP.goto (tgt := 72) dL_areAlike_68 (by decide) ?_
                refine WP.istore_n (lt := [vR 42, vR 209, vI (1 : Int), vI ((c : Nat) : Int), vU]) dL_areAlike_72 (by decide) rfl ?_
                refine WP.iconst dL_areAlike_73 ?_
                refine WP.istore (lt := [vR 42, vR 209, vI (1 : Int), vI ((c : Nat) : Int), vI (0 : Int)]) dL_areAlike_74 (by decide) rfl ?_
                have L76 : ∀ (n9 : Nat) (r : Nat) (Mx : Mem) (hr : r ≤ S.1.1) (hBx : B2 Mx S S), S.1.1 - r < n9 → WP sc0 41 m_L_areAlike 76 [vR 42, vR 209, vI (1 : Int), vI ((c : Nat) : Int), vI ((r : Nat) : Int)] [] Mx (fun z M' => z = some (vI 1) ∧ B2 M' S S) := by
                  intro n9
                  induction n9 with
                  | zero =>
                    intro r Mx hr hBx hm9
                    exact absurd hm9 (Nat.not_lt_zero _)
                  | succ n9 ih76 =>
                    intro r Mx hr hBx hm9
                    refine WP.iload dL_areAlike_76 rfl ?_
                    refine WP.aload_n dL_areAlike_78 rfl ?_
                    refine WP.iconst dL_areAlike_79 ?_
                    refine WP.callV (as := [vI (0 : Int)]) dL_areAlike_80 mv_L_9 rfl (rfl) (by decide) rfl rfl (t_o0 hBx) rfl (Nat.le_of_ble_eq_true rfl) (by omega) (fun r9 My h9 => ?_)
                    obtain ⟨rfl, hBy⟩ := h9
                    show WP sc0 41 m_L_areAlike 83 [vR 42, vR 209, vI (1 : Int), vI ((c : Nat) : Int), vI ((r : Nat) : Int)] [vI ((S.1.1 : Nat) : Int), vI ((r : Nat) : Int)] My (fun z M' => z = some (vI 1) ∧ B2 M' S S)
                    refine WP.icmp_ge (tgt := 119) dL_areAlike_83 (by decide) (by omega) (by omega) (fun h83 => ?_) (fun h83 => ?_)
                    · skip
                      refine WP.iinc (lt := [vR 42, vR 209, vI (1 : Int), vI (((c : Nat) : Int) + 1), vI ((r : Nat) : Int)]) dL_areAlike_119 rfl (by decide) rfl ?_
                      refine WP.goto (tgt := 41) dL_areAlike_122 (by decide) ?_
                      refine WP.fgt (lt := [vR 42, vR 209, vI (1 : Int), vI (((c + 1) : Nat) : Int), vU]) ⟨Or.inr rfl, Or.inr rfl, Or.inr rfl, Or.inr (congrArg vI (by omega)), Or.inl rfl, trivial⟩ ?_
                      exact ih41 (c + 1) (My) (by omega) (hBy) (by omega)
                    · skip
                      refine WP.iload_n dL_areAlike_86 rfl ?_
                      refine WP.if_eq (tgt := 111) dL_areAlike_87 (by decide) (by omega) (fun h87 => ?_) (fun h87 => ?_)
                      · skip
                        exfalso
                        omega
                      · skip
                        refine WP.aload_n dL_areAlike_90 rfl ?_
                        refine WP.iload dL_areAlike_91 rfl ?_
                        refine WP.iload_n dL_areAlike_93 rfl ?_
                        refine WP.callV (as := [vI ((r : Nat) : Int), vI ((c : Nat) : Int)]) dL_areAlike_94 mv_L_84 rfl (rfl) (by decide) rfl rfl (e_o hBy (by omega) (by omega)) rfl (Nat.le_of_ble_eq_true rfl) (by omega) (fun r9 Mz h9 => ?_)
                        obtain ⟨rfl, hBz⟩ := h9
                        show WP sc0 41 m_L_areAlike 97 [vR 42, vR 209, vI (1 : Int), vI ((c : Nat) : Int), vI ((r : Nat) : Int)] [vI ((o_cell S ((r : Nat) : Int) ((c : Nat) : Int)).1)] Mz (fun z M' => z = some (vI 1) ∧ B2 M' S S)
                        refine WP.aload_n dL_areAlike_97 rfl ?_
                        refine WP.iload dL_areAlike_98 rfl ?_
                        refine WP.iload_n dL_areAlike_100 rfl ?_
                        refine WP.callV (as := [vI ((r : Nat) : Int), vI ((c : Nat) : Int)]) dL_areAlike_101 mv_L_84 rfl (rfl) (by decide) rfl rfl (e_q hBz (by omega) (by omega)) rfl (Nat.le_of_ble_eq_true rfl) (by omega) (fun r9 Mw h9 => ?_)
                        obtain ⟨rfl, hBw⟩ := h9
                        show WP sc0 41 m_L_areAlike 104 [vR 42, vR 209, vI (1 : Int), vI ((c : Nat) : Int), vI ((r : Nat) : Int)] [vI ((o_cell S ((r : Nat) : Int) ((c : Nat) : Int)).1), vI ((o_cell S ((r : Nat) : Int) ((c : Nat) : Int)).1)] Mw (fun z M' => z = some (vI 1) ∧ B2 M' S S)
                        refine WP.icne_same (tgt := 111) dL_areAlike_104 (by decide) ?_
                        refine WP.iconst dL_areAlike_107 ?_
                        refine WP.goto (tgt := 112) dL_areAlike_108 (by decide) ?_
                        refine WP.istore_n (lt := [vR 42, vR 209, vI (1 : Int), vI ((c : Nat) : Int), vI ((r : Nat) : Int)]) dL_areAlike_112 (by decide) rfl ?_
                        refine WP.iinc (lt := [vR 42, vR 209, vI (1 : Int), vI ((c : Nat) : Int), vI (((r : Nat) : Int) + 1)]) dL_areAlike_113 rfl (by decide) rfl ?_
                        refine WP.goto (tgt := 76) dL_areAlike_116 (by decide) ?_
                        refine WP.fgt (lt := [vR 42, vR 209, vI (1 : Int), vI ((c : Nat) : Int), vI (((r + 1) : Nat) : Int)]) ⟨Or.inr rfl, Or.inr rfl, Or.inr rfl, Or.inr rfl, Or.inr (congrArg vI (by omega)), trivial⟩ ?_
                        exact ih76 (r + 1) (Mw) (by omega) (hBw) (by omega)
                refine WP.fgt (lt := [vR 42, vR 209, vI (1 : Int), vI ((c : Nat) : Int), vI ((0 : Nat) : Int)]) ⟨Or.inr rfl, Or.inr rfl, Or.inr rfl, Or.inr rfl, Or.inr (congrArg vI (by omega)), trivial⟩ ?_
                exact L76 _ (0) (Md) (Nat.zero_le _) (hBd) (Nat.lt_succ_self _)
        refine WP.fgt (lt := [vR 42, vR 209, vI (1 : Int), vI ((0 : Nat) : Int), vU]) ⟨Or.inr rfl, Or.inr rfl, Or.inr rfl, Or.inr (congrArg vI (by omega)), Or.inl rfl, trivial⟩ ?_
        exact L41 _ (0) (M1) (Nat.zero_le _) (hB1) (Nat.lt_succ_self _)
      · skip
        refine WP.iload_n dL_areAlike_10 rfl ?_
        refine WP.if_eq (tgt := 31) dL_areAlike_11 (by decide) (by omega) (fun h11 => ?_) (fun h11 => ?_)
        · skip
          exfalso
          omega
        · skip
          refine WP.aload_n dL_areAlike_14 rfl ?_
          refine WP.iload_n dL_areAlike_15 rfl ?_
          refine WP.callV (as := [vI ((j : Nat) : Int)]) dL_areAlike_16 mv_L_9 rfl (rfl) (by decide) rfl rfl (t_o hB1 (by omega)) rfl (Nat.le_of_ble_eq_true rfl) (by omega) (fun r9 M2 h9 => ?_)
          obtain ⟨rfl, hB2⟩ := h9
          show WP sc0 41 m_L_areAlike 19 [vR 42, vR 209, vI (1 : Int), vI ((j : Nat) : Int), vU] [vI ((o_told S ((j : Nat) : Int)).1)] M2 (fun z M' => z = some (vI 1) ∧ B2 M' S S)
          refine WP.aload_n dL_areAlike_19 rfl ?_
          refine WP.iload_n dL_areAlike_20 rfl ?_
          refine WP.callV (as := [vI ((j : Nat) : Int)]) dL_areAlike_21 mv_L_9 rfl (rfl) (by decide) rfl rfl (t_q hB2 (by omega)) rfl (Nat.le_of_ble_eq_true rfl) (by omega) (fun r9 M3 h9 => ?_)
          obtain ⟨rfl, hB3⟩ := h9
          show WP sc0 41 m_L_areAlike 24 [vR 42, vR 209, vI (1 : Int), vI ((j : Nat) : Int), vU] [vI ((o_told S ((j : Nat) : Int)).1), vI ((o_told S ((j : Nat) : Int)).1)] M3 (fun z M' => z = some (vI 1) ∧ B2 M' S S)
          refine WP.icne_same (tgt := 31) dL_areAlike_24 (by decide) ?_
          refine WP.iconst dL_areAlike_27 ?_
          refine WP.goto (tgt := 32) dL_areAlike_28 (by decide) ?_
          refine WP.istore_n (lt := [vR 42, vR 209, vI (1 : Int), vI ((j : Nat) : Int), vU]) dL_areAlike_32 (by decide) rfl ?_
          refine WP.iinc (lt := [vR 42, vR 209, vI (1 : Int), vI (((j : Nat) : Int) + 1), vU]) dL_areAlike_33 rfl (by decide) rfl ?_
          refine WP.goto (tgt := 4) dL_areAlike_36 (by decide) ?_
          refine WP.fgt (lt := [vR 42, vR 209, vI (1 : Int), vI (((j + 1) : Nat) : Int), vU]) ⟨Or.inr rfl, Or.inr rfl, Or.inr rfl, Or.inr (congrArg vI (by omega)), Or.inl rfl, trivial⟩ ?_
          exact ih4 (j + 1) (M3) (by omega) (hB3) (by omega)
  refine WP.fgt (lt := [vR 42, vR 209, vI (1 : Int), vI ((0 : Nat) : Int), vU]) ⟨Or.inr rfl, Or.inr rfl, Or.inr rfl, Or.inr (congrArg vI (by omega)), Or.inl rfl, trivial⟩ ?_
  exact L4 _ (0) (M) (by omega) (hB) (Nat.lt_succ_self _)
