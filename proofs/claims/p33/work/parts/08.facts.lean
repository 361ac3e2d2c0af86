section COPY
variable {sc : Nat × (Nat → Int)} {d : Nat} {mt : Mth} {pc : Nat} {ls st : List V} {M : Mem} {Q : Option V → Mem → Prop}
theorem nfw : nativeFrameWords "java/lang/System" "arraycopy" 5 + 11 + 8 ≤ 64 := by decide +kernel
theorem WP.copyI {index a0 a1 n0 n1 sp dp n : Nat} {M' : Mem} {x y z : Int} (hd : decode mt.2.1 pc = .ok (.invokestatic index, 3)) (hw : Cond.methodLink mt.1.cls index arraycopyName ∈ tbG) (h0 : shp a0 = (10, n0)) (h1 : shp a1 = (10, n1)) (hx : x = (sp : Int)) (hy : y = (dp : Int)) (hz : z = (n : Int)) (g1 : sp + n ≤ n0) (g2 : dp + n ≤ n1) (hcat : (st.map cat).sum ≤ 8) (hd1 : 1 ≤ d) (hM : mcpy M a0 sp a1 dp n = M') (k : WP sc d mt (pc + 3) ls st M' Q) : WP sc d mt pc ls (vI z :: vI y :: vR a1 :: vI x :: vR a0 :: st) M Q := by
  intro p l e R s m args below meth c E A H locs cells slots Z lsR F hP hS hl hr
  subst hx; subst hy; subst hz; subst hM
  have b0 := shp_len h0 (by omega)
  have b1 := shp_len h1 (by omega)
  obtain ⟨hx, hb, hml, hown, hts, hK, hE, hA, ⟨hR1, hR2, hR3, hR4, hNW⟩, hsc⟩ := id F
  have hD := wld_D F.2.2.2.2.2.2.1 F.2.2.2.2.2.2.2.1 M
  have hpos : ∀ w : Nat, w ≤ 2088 → ¬ Int32.ofInt (w : Int) < 0 := fun w hw => by rw [oi_n]; exact nI_pos (by omega)
  have hcl : ∀ w : Nat, w ≤ 2088 → (Int32.ofInt (w : Int)).toNatClampNeg = w := fun w hw => oi_cl (by omega)
  have hnf := nfw
  refine va_copyi F.1 F.2.1 (hml.trans hl.1.symm) hown (hts _ hw) (hts _ w_na_arraycopy) (hts _ w_st_arraycopy) (hts _ w_ini_J10) hK hP hD hS a0 a1 0 0 ((wld_get E M (shp_lt h0 (by omega))).trans (by rw [cel_10 h0])) ((wld_get E M (shp_lt h1 (by omega))).trans (by rw [cel_10 h1])) rfl rfl rfl (hpos _ (by omega)) (hpos _ (by omega)) (hpos _ (by omega)) (by rw [hcl _ (by omega), hcl _ (by omega)]; exact g1) (by rw [hcl _ (by omega), hcl _ (by omega)]; exact g2) (fun _ _ => rfl) (by omega) (by rw [sum_cat]; omega) hd (fun H1 locs1 hP1 hD1 hS1 => ?_)
  rw [hcl _ (by omega), hcl _ (by omega), hcl _ (by omega), wld_ups (M' := mcpy M a0 sp a1 dp n) (shp_lt h1 (by omega)) (fun a ha => mcpy_o a ha) (by
    rw [cel_10 h1]
    congr 3
    congr 1
    funext j
    by_cases hj : dp ≤ j ∧ j < dp + n <;> simp [va_cpy, mcpy, hj])] at hP1
  exact k p l e R s m args below meth c E A H1 locs1 cells slots Z lsR F hP1 hS1 hl hr
theorem WP.copyL {index a0 a1 n0 n1 sp dp n : Nat} {M' : Mem} {x y z : Int} (hd : decode mt.2.1 pc = .ok (.invokestatic index, 3)) (hw : Cond.methodLink mt.1.cls index arraycopyName ∈ tbG) (h0 : shp a0 = (11, n0)) (h1 : shp a1 = (11, n1)) (hx : x = (sp : Int)) (hy : y = (dp : Int)) (hz : z = (n : Int)) (g1 : sp + n ≤ n0) (g2 : dp + n ≤ n1) (hcat : (st.map cat).sum ≤ 8) (hd1 : 1 ≤ d) (hM : mcpy M a0 sp a1 dp n = M') (k : WP sc d mt (pc + 3) ls st M' Q) : WP sc d mt pc ls (vI z :: vI y :: vR a1 :: vI x :: vR a0 :: st) M Q := by
  intro p l e R s m args below meth c E A H locs cells slots Z lsR F hP hS hl hr
  subst hx; subst hy; subst hz; subst hM
  have b0 := shp_len h0 (by omega)
  have b1 := shp_len h1 (by omega)
  obtain ⟨hx, hb, hml, hown, hts, hK, hE, hA, ⟨hR1, hR2, hR3, hR4, hNW⟩, hsc⟩ := id F
  have hD := wld_D F.2.2.2.2.2.2.1 F.2.2.2.2.2.2.2.1 M
  have hpos : ∀ w : Nat, w ≤ 2088 → ¬ Int32.ofInt (w : Int) < 0 := fun w hw => by rw [oi_n]; exact nI_pos (by omega)
  have hcl : ∀ w : Nat, w ≤ 2088 → (Int32.ofInt (w : Int)).toNatClampNeg = w := fun w hw => oi_cl (by omega)
  have hnf := nfw
  refine va_copyl F.1 F.2.1 (hml.trans hl.1.symm) hown (hts _ hw) (hts _ w_na_arraycopy) (hts _ w_st_arraycopy) (hts _ w_ini_J10) hK hP hD hS a0 a1 1 1 ((wld_get E M (shp_lt h0 (by omega))).trans (by rw [cel_11 h0])) ((wld_get E M (shp_lt h1 (by omega))).trans (by rw [cel_11 h1])) rfl rfl rfl (hpos _ (by omega)) (hpos _ (by omega)) (hpos _ (by omega)) (by rw [hcl _ (by omega), hcl _ (by omega)]; exact g1) (by rw [hcl _ (by omega), hcl _ (by omega)]; exact g2) (fun _ _ => rfl) (by omega) (by rw [sum_cat]; omega) hd (fun H1 locs1 hP1 hD1 hS1 => ?_)
  rw [hcl _ (by omega), hcl _ (by omega), hcl _ (by omega), wld_ups (M' := mcpy M a0 sp a1 dp n) (shp_lt h1 (by omega)) (fun a ha => mcpy_o a ha) (by
    rw [cel_11 h1]
    congr 5
    skip
    funext j
    by_cases hj : dp ≤ j ∧ j < dp + n <;> simp [va_cpy, mcpy, hj])] at hP1
  exact k p l e R s m args below meth c E A H1 locs1 cells slots Z lsR F hP1 hS1 hl hr
end COPY
theorem fl_X6_9 : FL RX6 9 6 0 := ⟨RX6, TX6, 4, rfl, by decide, rfl, by decide, w_ly_X6, w_fl_X6_9, rfl, tyX6, tyX6_ok, nmX6, ⟨fun _ => ⟨rfl, rfl⟩, fun h => absurd h (by decide), fun h => absurd h (by decide)⟩⟩
theorem fl_X7_73 : FL RX7 73 6 0 := ⟨RX6, TX6, 4, rfl, by decide, rfl, by decide, w_ly_X6, w_fl_X7_73, rfl, tyX6, tyX6_ok, nmX6, ⟨fun _ => ⟨rfl, rfl⟩, fun h => absurd h (by decide), fun h => absurd h (by decide)⟩⟩
theorem fl_X1_41 : FL RX1 41 6 0 := ⟨RX6, TX6, 4, rfl, by decide, rfl, by decide, w_ly_X6, w_fl_X1_41, rfl, tyX6, tyX6_ok, nmX6, ⟨fun _ => ⟨rfl, rfl⟩, fun h => absurd h (by decide), fun h => absurd h (by decide)⟩⟩
theorem fl_X0_34 : FL RX0 34 6 0 := ⟨RX6, TX6, 4, rfl, by decide, rfl, by decide, w_ly_X6, w_fl_X0_34, rfl, tyX6, tyX6_ok, nmX6, ⟨fun _ => ⟨rfl, rfl⟩, fun h => absurd h (by decide), fun h => absurd h (by decide)⟩⟩
theorem fl_X6_15 : FL RX6 15 6 1 := ⟨RX6, TX6, 4, rfl, by decide, rfl, by decide, w_ly_X6, w_fl_X6_15, rfl, tyX6, tyX6_ok, nmX6, ⟨fun _ => ⟨rfl, rfl⟩, fun h => absurd h (by decide), fun h => absurd h (by decide)⟩⟩
theorem fl_X7_88 : FL RX7 88 6 1 := ⟨RX6, TX6, 4, rfl, by decide, rfl, by decide, w_ly_X6, w_fl_X7_88, rfl, tyX6, tyX6_ok, nmX6, ⟨fun _ => ⟨rfl, rfl⟩, fun h => absurd h (by decide), fun h => absurd h (by decide)⟩⟩
theorem fl_X1_52 : FL RX1 52 6 1 := ⟨RX6, TX6, 4, rfl, by decide, rfl, by decide, w_ly_X6, w_fl_X1_52, rfl, tyX6, tyX6_ok, nmX6, ⟨fun _ => ⟨rfl, rfl⟩, fun h => absurd h (by decide), fun h => absurd h (by decide)⟩⟩
theorem fl_X0_42 : FL RX0 42 6 1 := ⟨RX6, TX6, 4, rfl, by decide, rfl, by decide, w_ly_X6, w_fl_X0_42, rfl, tyX6, tyX6_ok, nmX6, ⟨fun _ => ⟨rfl, rfl⟩, fun h => absurd h (by decide), fun h => absurd h (by decide)⟩⟩
theorem fl_X6_18 : FL RX6 18 6 2 := ⟨RX6, TX6, 4, rfl, by decide, rfl, by decide, w_ly_X6, w_fl_X6_18, rfl, tyX6, tyX6_ok, nmX6, ⟨fun h => absurd h (by decide), fun h => absurd h (by decide), fun h => absurd h (by decide)⟩⟩
theorem fl_X1_55 : FL RX1 55 6 2 := ⟨RX6, TX6, 4, rfl, by decide, rfl, by decide, w_ly_X6, w_fl_X1_55, rfl, tyX6, tyX6_ok, nmX6, ⟨fun h => absurd h (by decide), fun h => absurd h (by decide), fun h => absurd h (by decide)⟩⟩
theorem fl_X7_104 : FL RX7 104 6 2 := ⟨RX6, TX6, 4, rfl, by decide, rfl, by decide, w_ly_X6, w_fl_X7_104, rfl, tyX6, tyX6_ok, nmX6, ⟨fun h => absurd h (by decide), fun h => absurd h (by decide), fun h => absurd h (by decide)⟩⟩
theorem fl_X6_22 : FL RX6 22 6 3 := ⟨RX6, TX6, 4, rfl, by decide, rfl, by decide, w_ly_X6, w_fl_X6_22, rfl, tyX6, tyX6_ok, nmX6, ⟨fun h => absurd h (by decide), fun h => absurd h (by decide), fun h => absurd h (by decide)⟩⟩
theorem fl_X2_9 : FL RX2 9 2 0 := ⟨RX2, TX2, 3, rfl, by decide, rfl, by decide, w_ly_X2, w_fl_X2_9, rfl, tyX2, tyX2_ok, nmX2, ⟨fun _ => ⟨rfl, rfl⟩, fun h => absurd h (by decide), fun h => absurd h (by decide)⟩⟩
theorem fl_X7_149 : FL RX7 149 2 0 := ⟨RX2, TX2, 3, rfl, by decide, rfl, by decide, w_ly_X2, w_fl_X7_149, rfl, tyX2, tyX2_ok, nmX2, ⟨fun _ => ⟨rfl, rfl⟩, fun h => absurd h (by decide), fun h => absurd h (by decide)⟩⟩
theorem fl_X2_15 : FL RX2 15 2 1 := ⟨RX2, TX2, 3, rfl, by decide, rfl, by decide, w_ly_X2, w_fl_X2_15, rfl, tyX2, tyX2_ok, nmX2, ⟨fun _ => ⟨rfl, rfl⟩, fun h => absurd h (by decide), fun h => absurd h (by decide)⟩⟩
theorem fl_X2_20 : FL RX2 20 2 2 := ⟨RX2, TX2, 3, rfl, by decide, rfl, by decide, w_ly_X2, w_fl_X2_20, rfl, tyX2, tyX2_ok, nmX2, ⟨fun h => absurd h (by decide), fun h => absurd h (by decide), fun h => absurd h (by decide)⟩⟩
theorem fl_X4_9 : FL RX4 9 4 0 := ⟨RX4, TX4, 2, rfl, by decide, rfl, by decide, w_ly_X4, w_fl_X4_9, rfl, tyX4, tyX4_ok, nmX4, ⟨fun _ => ⟨rfl, rfl⟩, fun h => absurd h (by decide), fun h => absurd h (by decide)⟩⟩
theorem fl_X7_159 : FL RX7 159 4 0 := ⟨RX4, TX4, 2, rfl, by decide, rfl, by decide, w_ly_X4, w_fl_X7_159, rfl, tyX4, tyX4_ok, nmX4, ⟨fun _ => ⟨rfl, rfl⟩, fun h => absurd h (by decide), fun h => absurd h (by decide)⟩⟩
theorem fl_X4_15 : FL RX4 15 4 1 := ⟨RX4, TX4, 2, rfl, by decide, rfl, by decide, w_ly_X4, w_fl_X4_15, rfl, tyX4, tyX4_ok, nmX4, ⟨fun h => absurd h (by decide), fun h => absurd h (by decide), fun h => absurd h (by decide)⟩⟩
theorem fl_X0_9 : FL RX0 9 0 0 := ⟨RX0, TX0, 2, rfl, by decide, rfl, by decide, w_ly_X0, w_fl_X0_9, rfl, tyX0, tyX0_ok, nmX0, ⟨fun h => absurd h (by decide), fun h => absurd h (by decide), fun h => absurd h (by decide)⟩⟩
theorem fl_X0_15 : FL RX0 15 0 1 := ⟨RX0, TX0, 2, rfl, by decide, rfl, by decide, w_ly_X0, w_fl_X0_15, rfl, tyX0, tyX0_ok, nmX0, ⟨fun h => absurd h (by decide), fun h => absurd h (by decide), fun h => absurd h (by decide)⟩⟩
theorem fl_X1_9 : FL RX1 9 1 0 := ⟨RX1, TX1, 6, rfl, by decide, rfl, by decide, w_ly_X1, w_fl_X1_9, rfl, tyX1, tyX1_ok, nmX1, ⟨fun h => absurd h (by decide), fun h => absurd h (by decide), fun h => absurd h (by decide)⟩⟩
theorem fl_X7_212 : FL RX7 212 1 0 := ⟨RX1, TX1, 6, rfl, by decide, rfl, by decide, w_ly_X1, w_fl_X7_212, rfl, tyX1, tyX1_ok, nmX1, ⟨fun h => absurd h (by decide), fun h => absurd h (by decide), fun h => absurd h (by decide)⟩⟩
theorem fl_X1_18 : FL RX1 18 1 1 := ⟨RX1, TX1, 6, rfl, by decide, rfl, by decide, w_ly_X1, w_fl_X1_18, rfl, tyX1, tyX1_ok, nmX1, ⟨fun h => absurd h (by decide), fun h => absurd h (by decide), fun _ => ⟨⟨_, rfl⟩, rfl⟩⟩⟩
theorem fl_X1_22 : FL RX1 22 1 2 := ⟨RX1, TX1, 6, rfl, by decide, rfl, by decide, w_ly_X1, w_fl_X1_22, rfl, tyX1, tyX1_ok, nmX1, ⟨fun _ => ⟨rfl, rfl⟩, fun h => absurd h (by decide), fun h => absurd h (by decide)⟩⟩
theorem fl_X1_26 : FL RX1 26 1 3 := ⟨RX1, TX1, 6, rfl, by decide, rfl, by decide, w_ly_X1, w_fl_X1_26, rfl, tyX1, tyX1_ok, nmX1, ⟨fun h => absurd h (by decide), fun h => absurd h (by decide), fun h => absurd h (by decide)⟩⟩
theorem fl_X1_31 : FL RX1 31 1 4 := ⟨RX1, TX1, 6, rfl, by decide, rfl, by decide, w_ly_X1, w_fl_X1_31, rfl, tyX1, tyX1_ok, nmX1, ⟨fun h => absurd h (by decide), fun h => absurd h (by decide), fun h => absurd h (by decide)⟩⟩
theorem fl_X1_34 : FL RX1 34 1 5 := ⟨RX1, TX1, 6, rfl, by decide, rfl, by decide, w_ly_X1, w_fl_X1_34, rfl, tyX1, tyX1_ok, nmX1, ⟨fun h => absurd h (by decide), fun h => absurd h (by decide), fun h => absurd h (by decide)⟩⟩
theorem fl_X5_12 : FL RX5 12 5 0 := ⟨RX5, TX5, 8, rfl, by decide, rfl, by decide, w_ly_X5, w_fl_X5_12, rfl, tyX5, tyX5_ok, nmX5, ⟨fun h => absurd h (by decide), fun h => absurd h (by decide), fun _ => ⟨⟨_, rfl⟩, rfl⟩⟩⟩
theorem fl_X5_18 : FL RX5 18 5 1 := ⟨RX5, TX5, 8, rfl, by decide, rfl, by decide, w_ly_X5, w_fl_X5_18, rfl, tyX5, tyX5_ok, nmX5, ⟨fun h => absurd h (by decide), fun h => absurd h (by decide), fun h => absurd h (by decide)⟩⟩
theorem fl_X5_22 : FL RX5 22 5 2 := ⟨RX5, TX5, 8, rfl, by decide, rfl, by decide, w_ly_X5, w_fl_X5_22, rfl, tyX5, tyX5_ok, nmX5, ⟨fun h => absurd h (by decide), fun h => absurd h (by decide), fun h => absurd h (by decide)⟩⟩
theorem fl_X5_25 : FL RX5 25 5 3 := ⟨RX5, TX5, 8, rfl, by decide, rfl, by decide, w_ly_X5, w_fl_X5_25, rfl, tyX5, tyX5_ok, nmX5, ⟨fun h => absurd h (by decide), fun h => absurd h (by decide), fun h => absurd h (by decide)⟩⟩
theorem fl_X5_30 : FL RX5 30 5 4 := ⟨RX5, TX5, 8, rfl, by decide, rfl, by decide, w_ly_X5, w_fl_X5_30, rfl, tyX5, tyX5_ok, nmX5, ⟨fun h => absurd h (by decide), fun h => absurd h (by decide), fun h => absurd h (by decide)⟩⟩
theorem fl_X5_33 : FL RX5 33 5 5 := ⟨RX5, TX5, 8, rfl, by decide, rfl, by decide, w_ly_X5, w_fl_X5_33, rfl, tyX5, tyX5_ok, nmX5, ⟨fun h => absurd h (by decide), fun h => absurd h (by decide), fun h => absurd h (by decide)⟩⟩
theorem fl_X5_36 : FL RX5 36 5 6 := ⟨RX5, TX5, 8, rfl, by decide, rfl, by decide, w_ly_X5, w_fl_X5_36, rfl, tyX5, tyX5_ok, nmX5, ⟨fun h => absurd h (by decide), fun h => absurd h (by decide), fun h => absurd h (by decide)⟩⟩
theorem fl_X5_39 : FL RX5 39 5 7 := ⟨RX5, TX5, 8, rfl, by decide, rfl, by decide, w_ly_X5, w_fl_X5_39, rfl, tyX5, tyX5_ok, nmX5, ⟨fun h => absurd h (by decide), fun h => absurd h (by decide), fun h => absurd h (by decide)⟩⟩
theorem fl_X3_9 : FL RX3 9 3 0 := ⟨RX3, TX3, 5, rfl, by decide, rfl, by decide, w_ly_X3, w_fl_X3_9, rfl, tyX3, tyX3_ok, nmX3, ⟨fun h => absurd h (by decide), fun h => absurd h (by decide), fun h => absurd h (by decide)⟩⟩
theorem fl_X3_15 : FL RX3 15 3 1 := ⟨RX3, TX3, 5, rfl, by decide, rfl, by decide, w_ly_X3, w_fl_X3_15, rfl, tyX3, tyX3_ok, nmX3, ⟨fun h => absurd h (by decide), fun h => absurd h (by decide), fun h => absurd h (by decide)⟩⟩
theorem fl_X3_21 : FL RX3 21 3 2 := ⟨RX3, TX3, 5, rfl, by decide, rfl, by decide, w_ly_X3, w_fl_X3_21, rfl, tyX3, tyX3_ok, nmX3, ⟨fun h => absurd h (by decide), fun h => absurd h (by decide), fun h => absurd h (by decide)⟩⟩
theorem fl_X3_25 : FL RX3 25 3 3 := ⟨RX3, TX3, 5, rfl, by decide, rfl, by decide, w_ly_X3, w_fl_X3_25, rfl, tyX3, tyX3_ok, nmX3, ⟨fun h => absurd h (by decide), fun h => absurd h (by decide), fun h => absurd h (by decide)⟩⟩
theorem fl_X3_28 : FL RX3 28 3 4 := ⟨RX3, TX3, 5, rfl, by decide, rfl, by decide, w_ly_X3, w_fl_X3_28, rfl, tyX3, tyX3_ok, nmX3, ⟨fun h => absurd h (by decide), fun h => absurd h (by decide), fun h => absurd h (by decide)⟩⟩
theorem fl_X7_10 : FL RX7 10 7 0 := ⟨RX7, TX7, 12, rfl, by decide, rfl, by decide, w_ly_X7, w_fl_X7_10, rfl, tyX7, tyX7_ok, nmX7, ⟨fun h => absurd h (by decide), fun h => absurd h (by decide), fun h => absurd h (by decide)⟩⟩
theorem fl_X7_19 : FL RX7 19 7 1 := ⟨RX7, TX7, 12, rfl, by decide, rfl, by decide, w_ly_X7, w_fl_X7_19, rfl, tyX7, tyX7_ok, nmX7, ⟨fun h => absurd h (by decide), fun h => absurd h (by decide), fun h => absurd h (by decide)⟩⟩
theorem fl_X7_23 : FL RX7 23 7 2 := ⟨RX7, TX7, 12, rfl, by decide, rfl, by decide, w_ly_X7, w_fl_X7_23, rfl, tyX7, tyX7_ok, nmX7, ⟨fun h => absurd h (by decide), fun h => absurd h (by decide), fun h => absurd h (by decide)⟩⟩
theorem fl_X7_27 : FL RX7 27 7 3 := ⟨RX7, TX7, 12, rfl, by decide, rfl, by decide, w_ly_X7, w_fl_X7_27, rfl, tyX7, tyX7_ok, nmX7, ⟨fun h => absurd h (by decide), fun h => absurd h (by decide), fun h => absurd h (by decide)⟩⟩
theorem fl_X7_34 : FL RX7 34 7 4 := ⟨RX7, TX7, 12, rfl, by decide, rfl, by decide, w_ly_X7, w_fl_X7_34, rfl, tyX7, tyX7_ok, nmX7, ⟨fun h => absurd h (by decide), fun h => absurd h (by decide), fun h => absurd h (by decide)⟩⟩
theorem fl_X7_41 : FL RX7 41 7 5 := ⟨RX7, TX7, 12, rfl, by decide, rfl, by decide, w_ly_X7, w_fl_X7_41, rfl, tyX7, tyX7_ok, nmX7, ⟨fun h => absurd h (by decide), fun h => absurd h (by decide), fun h => absurd h (by decide)⟩⟩
theorem fl_X7_48 : FL RX7 48 7 6 := ⟨RX7, TX7, 12, rfl, by decide, rfl, by decide, w_ly_X7, w_fl_X7_48, rfl, tyX7, tyX7_ok, nmX7, ⟨fun h => absurd h (by decide), fun h => absurd h (by decide), fun h => absurd h (by decide)⟩⟩
theorem fl_X7_55 : FL RX7 55 7 7 := ⟨RX7, TX7, 12, rfl, by decide, rfl, by decide, w_ly_X7, w_fl_X7_55, rfl, tyX7, tyX7_ok, nmX7, ⟨fun h => absurd h (by decide), fun h => absurd h (by decide), fun h => absurd h (by decide)⟩⟩
theorem fl_X7_59 : FL RX7 59 7 8 := ⟨RX7, TX7, 12, rfl, by decide, rfl, by decide, w_ly_X7, w_fl_X7_59, rfl, tyX7, tyX7_ok, nmX7, ⟨fun _ => ⟨rfl, rfl⟩, fun h => absurd h (by decide), fun h => absurd h (by decide)⟩⟩
theorem fl_X7_63 : FL RX7 63 7 9 := ⟨RX7, TX7, 12, rfl, by decide, rfl, by decide, w_ly_X7, w_fl_X7_63, rfl, tyX7, tyX7_ok, nmX7, ⟨fun h => absurd h (by decide), fun _ => ⟨rfl, rfl⟩, fun h => absurd h (by decide)⟩⟩
theorem fl_X7_67 : FL RX7 67 7 10 := ⟨RX7, TX7, 12, rfl, by decide, rfl, by decide, w_ly_X7, w_fl_X7_67, rfl, tyX7, tyX7_ok, nmX7, ⟨fun _ => ⟨rfl, rfl⟩, fun h => absurd h (by decide), fun h => absurd h (by decide)⟩⟩
theorem fl_X7_70 : FL RX7 70 7 11 := ⟨RX7, TX7, 12, rfl, by decide, rfl, by decide, w_ly_X7, w_fl_X7_70, rfl, tyX7, tyX7_ok, nmX7, ⟨fun h => absurd h (by decide), fun _ => ⟨rfl, rfl⟩, fun h => absurd h (by decide)⟩⟩
theorem mv_L_9 : MV RL 9 m_X7_told 1 := ⟨⟨w_ml_L_9, w_ini_X7, w_cd_X7_told, ⟨by decide +kernel, by decide +kernel, by decide +kernel⟩, by decide⟩, w_im_X7_told, w_se_X7_told⟩
theorem mv_X7_169 : MV RX7 169 m_X0_strengthOf 1 := ⟨⟨w_ml_X7_169, w_ini_X0, w_cd_X0_strengthOf, ⟨by decide +kernel, by decide +kernel, by decide +kernel⟩, by decide⟩, w_im_X0_strengthOf, w_se_X0_strengthOf⟩
theorem mv_X0_53 : MV RX0 53 m_X6_allRows 0 := ⟨⟨w_ml_X0_53, w_ini_X6, w_cd_X6_allRows, ⟨by decide +kernel, by decide +kernel, by decide +kernel⟩, by decide⟩, w_im_X6_allRows, w_se_X6_allRows⟩
theorem mv_X0_57 : MV RX0 57 m_X0_firstUnbalanced 3 := ⟨⟨w_ml_X0_57, w_ini_X0, w_cd_X0_firstUnbalanced, ⟨by decide +kernel, by decide +kernel, by decide +kernel⟩, by decide⟩, w_im_X0_firstUnbalanced, w_se_X0_firstUnbalanced⟩
theorem ms_X0_45 : MS RX0 45 m_J6_bitCount_0f7a4 1 := ⟨⟨w_ml_X0_45, w_ini_J6, w_cd_J6_bitCount_0f7a4, ⟨by decide +kernel, by decide +kernel, by decide +kernel⟩, by decide⟩, w_st_J6_bitCount_0f7a4⟩
theorem mv_X0_49 : MV RX0 49 m_X0_isBalanced 3 := ⟨⟨w_ml_X0_49, w_ini_X0, w_cd_X0_isBalanced, ⟨by decide +kernel, by decide +kernel, by decide +kernel⟩, by decide⟩, w_im_X0_isBalanced, w_se_X0_isBalanced⟩
theorem ms_X0_18 : MS RX0 18 m_J13_bitCount_95d88 1 := ⟨⟨w_ml_X0_18, w_ini_J13, w_cd_J13_bitCount_95d88, ⟨by decide +kernel, by decide +kernel, by decide +kernel⟩, by decide⟩, w_st_J13_bitCount_95d88⟩
theorem mv_X0_24 : MV RX0 24 m_X6_tuples 1 := ⟨⟨w_ml_X0_24, w_ini_X6, w_cd_X6_tuples, ⟨by decide +kernel, by decide +kernel, by decide +kernel⟩, by decide⟩, w_im_X6_tuples, w_se_X6_tuples⟩
theorem mv_X0_30 : MV RX0 30 m_X0_clearTallies 1 := ⟨⟨w_ml_X0_30, w_ini_X0, w_cd_X0_clearTallies, ⟨by decide +kernel, by decide +kernel, by decide +kernel⟩, by decide⟩, w_im_X0_clearTallies, w_se_X0_clearTallies⟩
theorem mv_X0_38 : MV RX0 38 m_X6_tupleOf 2 := ⟨⟨w_ml_X0_38, w_ini_X6, w_cd_X6_tupleOf, ⟨by decide +kernel, by decide +kernel, by decide +kernel⟩, by decide⟩, w_im_X6_tupleOf, w_se_X6_tupleOf⟩
theorem mv_X6_35 : MV RX6 35 m_X6_at 2 := ⟨⟨w_ml_X6_35, w_ini_X6, w_cd_X6_at, ⟨by decide +kernel, by decide +kernel, by decide +kernel⟩, by decide⟩, w_im_X6_at, w_se_X6_at⟩
theorem mv_X7_173 : MV RX7 173 m_X6_copies 0 := ⟨⟨w_ml_X7_173, w_ini_X6, w_cd_X6_copies, ⟨by decide +kernel, by decide +kernel, by decide +kernel⟩, by decide⟩, w_im_X6_copies, w_se_X6_copies⟩
theorem mv_X6_43 : MV RX6 43 m_X6_occursBefore 2 := ⟨⟨w_ml_X6_43, w_ini_X6, w_cd_X6_occursBefore, ⟨by decide +kernel, by decide +kernel, by decide +kernel⟩, by decide⟩, w_im_X6_occursBefore, w_se_X6_occursBefore⟩
theorem mv_X6_47 : MV RX6 47 m_X6_order 2 := ⟨⟨w_ml_X6_47, w_ini_X6, w_cd_X6_order, ⟨by decide +kernel, by decide +kernel, by decide +kernel⟩, by decide⟩, w_im_X6_order, w_se_X6_order⟩
theorem mv_X7_141 : MV RX7 141 m_X6_isScheme 0 := ⟨⟨w_ml_X7_141, w_ini_X6, w_cd_X6_isScheme, ⟨by decide +kernel, by decide +kernel, by decide +kernel⟩, by decide⟩, w_im_X6_isScheme, w_se_X6_isScheme⟩
theorem mv_X6_56 : MV RX6 56 m_X6_hasEvenDifferences 2 := ⟨⟨w_ml_X6_56, w_ini_X6, w_cd_X6_hasEvenDifferences, ⟨by decide +kernel, by decide +kernel, by decide +kernel⟩, by decide⟩, w_im_X6_hasEvenDifferences, w_se_X6_hasEvenDifferences⟩
theorem mv_X7_176 : MV RX7 176 m_X6_leastRows 0 := ⟨⟨w_ml_X7_176, w_ini_X6, w_cd_X6_leastRows, ⟨by decide +kernel, by decide +kernel, by decide +kernel⟩, by decide⟩, w_im_X6_leastRows, w_se_X6_leastRows⟩
theorem mv_X7_179 : MV RX7 179 m_X6_rowsDivisor 0 := ⟨⟨w_ml_X7_179, w_ini_X6, w_cd_X6_rowsDivisor, ⟨by decide +kernel, by decide +kernel, by decide +kernel⟩, by decide⟩, w_im_X6_rowsDivisor, w_se_X6_rowsDivisor⟩
theorem ms_X6_53 : MS RX6 53 m_X6_leastCommonMultiple 2 := ⟨⟨w_ml_X6_53, w_ini_X6, w_cd_X6_leastCommonMultiple, ⟨by decide +kernel, by decide +kernel, by decide +kernel⟩, by decide⟩, w_st_X6_leastCommonMultiple⟩
theorem ms_L_94 : MS RL 94 m_L_cell 2 := ⟨⟨w_ml_L_94, w_ini_L, w_cd_L_cell, ⟨by decide +kernel, by decide +kernel, by decide +kernel⟩, by decide⟩, w_st_L_cell⟩
theorem ms_L_15 : MS RL 15 m_L_low 2 := ⟨⟨w_ml_L_15, w_ini_L, w_cd_L_low, ⟨by decide +kernel, by decide +kernel, by decide +kernel⟩, by decide⟩, w_st_L_low⟩
theorem ms_L_97 : MS RL 97 m_L_change 3 := ⟨⟨w_ml_L_97, w_ini_L, w_cd_L_change, ⟨by decide +kernel, by decide +kernel, by decide +kernel⟩, by decide⟩, w_st_L_change⟩
theorem mv_L_21 : MV RL 21 m_X7_begin 1 := ⟨⟨w_ml_L_21, w_ini_X7, w_cd_X7_begin, ⟨by decide +kernel, by decide +kernel, by decide +kernel⟩, by decide⟩, w_im_X7_begin, w_se_X7_begin⟩
theorem mv_X7_76 : MV RX7 76 m_X7_record 0 := ⟨⟨w_ml_X7_76, w_ini_X7, w_cd_X7_record, ⟨by decide +kernel, by decide +kernel, by decide +kernel⟩, by decide⟩, w_im_X7_record, w_se_X7_record⟩
theorem mv_X7_156 : MV RX7 156 m_X7_forgetResults 0 := ⟨⟨w_ml_X7_156, w_ini_X7, w_cd_X7_forgetResults, ⟨by decide +kernel, by decide +kernel, by decide +kernel⟩, by decide⟩, w_im_X7_forgetResults, w_se_X7_forgetResults⟩
theorem mv_X7_233 : MV RX7 233 m_X2_push 1 := ⟨⟨w_ml_X7_233, w_ini_X2, w_cd_X2_push, ⟨by decide +kernel, by decide +kernel, by decide +kernel⟩, by decide⟩, w_im_X2_push, w_se_X2_push⟩
theorem mv_X2_25 : MV RX2 25 m_X6_copyFrom 1 := ⟨⟨w_ml_X2_25, w_ini_X6, w_cd_X6_copyFrom, ⟨by decide +kernel, by decide +kernel, by decide +kernel⟩, by decide⟩, w_im_X6_copyFrom, w_se_X6_copyFrom⟩
theorem mv_X7_80 : MV RX7 80 m_X6_reset 1 := ⟨⟨w_ml_X7_80, w_ini_X6, w_cd_X6_reset, ⟨by decide +kernel, by decide +kernel, by decide +kernel⟩, by decide⟩, w_im_X6_reset, w_se_X6_reset⟩
theorem mv_L_24 : MV RL 24 m_X7_undo 0 := ⟨⟨w_ml_L_24, w_ini_X7, w_cd_X7_undo, ⟨by decide +kernel, by decide +kernel, by decide +kernel⟩, by decide⟩, w_im_X7_undo, w_se_X7_undo⟩
theorem mv_X7_152 : MV RX7 152 m_X2_pop 1 := ⟨⟨w_ml_X7_152, w_ini_X2, w_cd_X2_pop, ⟨by decide +kernel, by decide +kernel, by decide +kernel⟩, by decide⟩, w_im_X2_pop, w_se_X2_pop⟩
theorem mv_L_28 : MV RL 28 m_X7_addColumn 1 := ⟨⟨w_ml_L_28, w_ini_X7, w_cd_X7_addColumn, ⟨by decide +kernel, by decide +kernel, by decide +kernel⟩, by decide⟩, w_im_X7_addColumn, w_se_X7_addColumn⟩
theorem ms_X7_84 : MS RX7 84 m_X7_isLevelCount 1 := ⟨⟨w_ml_X7_84, w_ini_X7, w_cd_X7_isLevelCount, ⟨by decide +kernel, by decide +kernel, by decide +kernel⟩, by decide⟩, w_st_X7_isLevelCount⟩
theorem mv_X7_91 : MV RX7 91 m_X6_append 1 := ⟨⟨w_ml_X7_91, w_ini_X6, w_cd_X6_append, ⟨by decide +kernel, by decide +kernel, by decide +kernel⟩, by decide⟩, w_im_X6_append, w_se_X6_append⟩
theorem mv_X6_31 : MV RX6 31 m_X6_set 3 := ⟨⟨w_ml_X6_31, w_ini_X6, w_cd_X6_set, ⟨by decide +kernel, by decide +kernel, by decide +kernel⟩, by decide⟩, w_im_X6_set, w_se_X6_set⟩
theorem mv_L_31 : MV RL 31 m_X7_dropColumn 1 := ⟨⟨w_ml_L_31, w_ini_X7, w_cd_X7_dropColumn, ⟨by decide +kernel, by decide +kernel, by decide +kernel⟩, by decide⟩, w_im_X7_dropColumn, w_se_X7_dropColumn⟩
theorem mv_X7_95 : MV RX7 95 m_X6_hasColumn 1 := ⟨⟨w_ml_X7_95, w_ini_X6, w_cd_X6_hasColumn, ⟨by decide +kernel, by decide +kernel, by decide +kernel⟩, by decide⟩, w_im_X6_hasColumn, w_se_X6_hasColumn⟩
theorem mv_X7_98 : MV RX7 98 m_X6_removeColumn 1 := ⟨⟨w_ml_X7_98, w_ini_X6, w_cd_X6_removeColumn, ⟨by decide +kernel, by decide +kernel, by decide +kernel⟩, by decide⟩, w_im_X6_removeColumn, w_se_X6_removeColumn⟩
theorem mv_L_34 : MV RL 34 m_X7_put 3 := ⟨⟨w_ml_L_34, w_ini_X7, w_cd_X7_put, ⟨by decide +kernel, by decide +kernel, by decide +kernel⟩, by decide⟩, w_im_X7_put, w_se_X7_put⟩
theorem mv_X7_101 : MV RX7 101 m_X6_hasRow 1 := ⟨⟨w_ml_X7_101, w_ini_X6, w_cd_X6_hasRow, ⟨by decide +kernel, by decide +kernel, by decide +kernel⟩, by decide⟩, w_im_X6_hasRow, w_se_X6_hasRow⟩
theorem mv_X7_108 : MV RX7 108 m_X6_at 2 := ⟨⟨w_ml_X7_108, w_ini_X6, w_cd_X6_at, ⟨by decide +kernel, by decide +kernel, by decide +kernel⟩, by decide⟩, w_im_X6_at, w_se_X6_at⟩
theorem mv_X7_112 : MV RX7 112 m_X6_set 3 := ⟨⟨w_ml_X7_112, w_ini_X6, w_cd_X6_set, ⟨by decide +kernel, by decide +kernel, by decide +kernel⟩, by decide⟩, w_im_X6_set, w_se_X6_set⟩
theorem mv_L_38 : MV RL 38 m_X7_dropRow 1 := ⟨⟨w_ml_L_38, w_ini_X7, w_cd_X7_dropRow, ⟨by decide +kernel, by decide +kernel, by decide +kernel⟩, by decide⟩, w_im_X7_dropRow, w_se_X7_dropRow⟩
theorem mv_X7_116 : MV RX7 116 m_X6_removeRow 1 := ⟨⟨w_ml_X7_116, w_ini_X6, w_cd_X6_removeRow, ⟨by decide +kernel, by decide +kernel, by decide +kernel⟩, by decide⟩, w_im_X6_removeRow, w_se_X6_removeRow⟩
theorem mv_X6_39 : MV RX6 39 m_X6_copyRow 2 := ⟨⟨w_ml_X6_39, w_ini_X6, w_cd_X6_copyRow, ⟨by decide +kernel, by decide +kernel, by decide +kernel⟩, by decide⟩, w_im_X6_copyRow, w_se_X6_copyRow⟩
theorem mv_L_41 : MV RL 41 m_X7_dropCopies 0 := ⟨⟨w_ml_L_41, w_ini_X7, w_cd_X7_dropCopies, ⟨by decide +kernel, by decide +kernel, by decide +kernel⟩, by decide⟩, w_im_X7_dropCopies, w_se_X7_dropCopies⟩
theorem mv_X7_119 : MV RX7 119 m_X6_removeCopies 0 := ⟨⟨w_ml_X7_119, w_ini_X6, w_cd_X6_removeCopies, ⟨by decide +kernel, by decide +kernel, by decide +kernel⟩, by decide⟩, w_im_X6_removeCopies, w_se_X6_removeCopies⟩
theorem mv_L_44 : MV RL 44 m_X7_sort 0 := ⟨⟨w_ml_L_44, w_ini_X7, w_cd_X7_sort, ⟨by decide +kernel, by decide +kernel, by decide +kernel⟩, by decide⟩, w_im_X7_sort, w_se_X7_sort⟩
theorem mv_X7_122 : MV RX7 122 m_X6_sortRows 0 := ⟨⟨w_ml_X7_122, w_ini_X6, w_cd_X6_sortRows, ⟨by decide +kernel, by decide +kernel, by decide +kernel⟩, by decide⟩, w_im_X6_sortRows, w_se_X6_sortRows⟩
theorem mv_X6_50 : MV RX6 50 m_X6_swapRows 2 := ⟨⟨w_ml_X6_50, w_ini_X6, w_cd_X6_swapRows, ⟨by decide +kernel, by decide +kernel, by decide +kernel⟩, by decide⟩, w_im_X6_swapRows, w_se_X6_swapRows⟩
theorem mv_L_47 : MV RL 47 m_X7_factorial 1 := ⟨⟨w_ml_L_47, w_ini_X7, w_cd_X7_factorial, ⟨by decide +kernel, by decide +kernel, by decide +kernel⟩, by decide⟩, w_im_X7_factorial, w_se_X7_factorial⟩
theorem ms_X7_127 : MS RX7 127 m_X7_areLevelCounts 1 := ⟨⟨w_ml_X7_127, w_ini_X7, w_cd_X7_areLevelCounts, ⟨by decide +kernel, by decide +kernel, by decide +kernel⟩, by decide⟩, w_st_X7_areLevelCounts⟩
theorem mv_X7_130 : MV RX7 130 m_X6_becomeFactorial 2 := ⟨⟨w_ml_X7_130, w_ini_X6, w_cd_X6_becomeFactorial, ⟨by decide +kernel, by decide +kernel, by decide +kernel⟩, by decide⟩, w_im_X6_becomeFactorial, w_se_X6_becomeFactorial⟩
theorem mv_X6_59 : MV RX6 59 m_X6_reset 1 := ⟨⟨w_ml_X6_59, w_ini_X6, w_cd_X6_reset, ⟨by decide +kernel, by decide +kernel, by decide +kernel⟩, by decide⟩, w_im_X6_reset, w_se_X6_reset⟩
theorem mv_X6_64 : MV RX6 64 m_X6_append 1 := ⟨⟨w_ml_X6_64, w_ini_X6, w_cd_X6_append, ⟨by decide +kernel, by decide +kernel, by decide +kernel⟩, by decide⟩, w_im_X6_append, w_se_X6_append⟩
theorem mv_L_50 : MV RL 50 m_X7_addSum 4 := ⟨⟨w_ml_L_50, w_ini_X7, w_cd_X7_addSum, ⟨by decide +kernel, by decide +kernel, by decide +kernel⟩, by decide⟩, w_im_X7_addSum, w_se_X7_addSum⟩
theorem mv_L_54 : MV RL 54 m_X7_develop 0 := ⟨⟨w_ml_L_54, w_ini_X7, w_cd_X7_develop, ⟨by decide +kernel, by decide +kernel, by decide +kernel⟩, by decide⟩, w_im_X7_develop, w_se_X7_develop⟩
theorem mv_X7_145 : MV RX7 145 m_X6_becomeDeveloped 2 := ⟨⟨w_ml_X7_145, w_ini_X6, w_cd_X6_becomeDeveloped, ⟨by decide +kernel, by decide +kernel, by decide +kernel⟩, by decide⟩, w_im_X6_becomeDeveloped, w_se_X6_becomeDeveloped⟩
theorem mv_L_57 : MV RL 57 m_X7_keep 1 := ⟨⟨w_ml_L_57, w_ini_X7, w_cd_X7_keep, ⟨by decide +kernel, by decide +kernel, by decide +kernel⟩, by decide⟩, w_im_X7_keep, w_se_X7_keep⟩
theorem ms_X7_134 : MS RX7 134 m_X7_isImage 1 := ⟨⟨w_ml_X7_134, w_ini_X7, w_cd_X7_isImage, ⟨by decide +kernel, by decide +kernel, by decide +kernel⟩, by decide⟩, w_st_X7_isImage⟩
theorem mv_X7_218 : MV RX7 218 m_X6_copyFrom 1 := ⟨⟨w_ml_X7_218, w_ini_X6, w_cd_X6_copyFrom, ⟨by decide +kernel, by decide +kernel, by decide +kernel⟩, by decide⟩, w_im_X6_copyFrom, w_se_X6_copyFrom⟩
theorem mv_L_60 : MV RL 60 m_X7_back 1 := ⟨⟨w_ml_L_60, w_ini_X7, w_cd_X7_back, ⟨by decide +kernel, by decide +kernel, by decide +kernel⟩, by decide⟩, w_im_X7_back, w_se_X7_back⟩
theorem mv_L_63 : MV RL 63 m_X7_replace 2 := ⟨⟨w_ml_L_63, w_ini_X7, w_cd_X7_replace, ⟨by decide +kernel, by decide +kernel, by decide +kernel⟩, by decide⟩, w_im_X7_replace, w_se_X7_replace⟩
theorem mv_X7_137 : MV RX7 137 m_X6_becomeReplaced 3 := ⟨⟨w_ml_X7_137, w_ini_X6, w_cd_X6_becomeReplaced, ⟨by decide +kernel, by decide +kernel, by decide +kernel⟩, by decide⟩, w_im_X6_becomeReplaced, w_se_X6_becomeReplaced⟩
theorem mv_X6_68 : MV RX6 68 m_X6_appendCopy 2 := ⟨⟨w_ml_X6_68, w_ini_X6, w_cd_X6_appendCopy, ⟨by decide +kernel, by decide +kernel, by decide +kernel⟩, by decide⟩, w_im_X6_appendCopy, w_se_X6_appendCopy⟩
theorem mv_L_66 : MV RL 66 m_X7_extend 1 := ⟨⟨w_ml_L_66, w_ini_X7, w_cd_X7_extend, ⟨by decide +kernel, by decide +kernel, by decide +kernel⟩, by decide⟩, w_im_X7_extend, w_se_X7_extend⟩
theorem mv_X7_209 : MV RX7 209 m_X7_hasExtension 1 := ⟨⟨w_ml_X7_209, w_ini_X7, w_cd_X7_hasExtension, ⟨by decide +kernel, by decide +kernel, by decide +kernel⟩, by decide⟩, w_im_X7_hasExtension, w_se_X7_hasExtension⟩
theorem mv_X7_237 : MV RX7 237 m_X1_find 2 := ⟨⟨w_ml_X7_237, w_ini_X1, w_cd_X1_find, ⟨by decide +kernel, by decide +kernel, by decide +kernel⟩, by decide⟩, w_im_X1_find, w_se_X1_find⟩
theorem mv_X1_37 : MV RX1 37 m_X1_canBalance 0 := ⟨⟨w_ml_X1_37, w_ini_X1, w_cd_X1_canBalance, ⟨by decide +kernel, by decide +kernel, by decide +kernel⟩, by decide⟩, w_im_X1_canBalance, w_se_X1_canBalance⟩
theorem mv_X1_58 : MV RX1 58 m_X1_isEven 1 := ⟨⟨w_ml_X1_58, w_ini_X1, w_cd_X1_isEven, ⟨by decide +kernel, by decide +kernel, by decide +kernel⟩, by decide⟩, w_im_X1_isEven, w_se_X1_isEven⟩
theorem mv_X1_62 : MV RX1 62 m_X6_at 2 := ⟨⟨w_ml_X1_62, w_ini_X6, w_cd_X6_at, ⟨by decide +kernel, by decide +kernel, by decide +kernel⟩, by decide⟩, w_im_X6_at, w_se_X6_at⟩
theorem mv_X1_44 : MV RX1 44 m_X1_lastEqualBefore 1 := ⟨⟨w_ml_X1_44, w_ini_X1, w_cd_X1_lastEqualBefore, ⟨by decide +kernel, by decide +kernel, by decide +kernel⟩, by decide⟩, w_im_X1_lastEqualBefore, w_se_X1_lastEqualBefore⟩
theorem mv_X1_66 : MV RX1 66 m_X6_order 2 := ⟨⟨w_ml_X1_66, w_ini_X6, w_cd_X6_order, ⟨by decide +kernel, by decide +kernel, by decide +kernel⟩, by decide⟩, w_im_X6_order, w_se_X6_order⟩
theorem mv_X1_48 : MV RX1 48 m_X1_place 2 := ⟨⟨w_ml_X1_48, w_ini_X1, w_cd_X1_place, ⟨by decide +kernel, by decide +kernel, by decide +kernel⟩, by decide⟩, w_im_X1_place, w_se_X1_place⟩
theorem ms_X1_69 : MS RX1 69 m_J9_min_7cf53 2 := ⟨⟨w_ml_X1_69, w_ini_J9, w_cd_J9_min_7cf53, ⟨by decide +kernel, by decide +kernel, by decide +kernel⟩, by decide⟩, w_st_J9_min_7cf53⟩
theorem mv_X1_74 : MV RX1 74 m_X1_fits 2 := ⟨⟨w_ml_X1_74, w_ini_X1, w_cd_X1_fits, ⟨by decide +kernel, by decide +kernel, by decide +kernel⟩, by decide⟩, w_im_X1_fits, w_se_X1_fits⟩
theorem mv_X1_77 : MV RX1 77 m_X1_use 3 := ⟨⟨w_ml_X1_77, w_ini_X1, w_cd_X1_use, ⟨by decide +kernel, by decide +kernel, by decide +kernel⟩, by decide⟩, w_im_X1_use, w_se_X1_use⟩
theorem ms_X1_81 : MS RX1 81 m_J9_max_7cf53 2 := ⟨⟨w_ml_X1_81, w_ini_J9, w_cd_J9_max_7cf53, ⟨by decide +kernel, by decide +kernel, by decide +kernel⟩, by decide⟩, w_st_J9_max_7cf53⟩
theorem ms_L_101 : MS RL 101 m_L_isAudited 2 := ⟨⟨w_ml_L_101, w_ini_L, w_cd_L_isAudited, ⟨by decide +kernel, by decide +kernel, by decide +kernel⟩, by decide⟩, w_st_L_isAudited⟩
theorem ms_L_69 : MS RL 69 m_L_size 1 := ⟨⟨w_ml_L_69, w_ini_L, w_cd_L_size, ⟨by decide +kernel, by decide +kernel, by decide +kernel⟩, by decide⟩, w_st_L_size⟩
theorem mv_L_72 : MV RL 72 m_X7_count 2 := ⟨⟨w_ml_L_72, w_ini_X7, w_cd_X7_count, ⟨by decide +kernel, by decide +kernel, by decide +kernel⟩, by decide⟩, w_im_X7_count, w_se_X7_count⟩
theorem mv_X7_182 : MV RX7 182 m_X6_tuples 1 := ⟨⟨w_ml_X7_182, w_ini_X6, w_cd_X6_tuples, ⟨by decide +kernel, by decide +kernel, by decide +kernel⟩, by decide⟩, w_im_X6_tuples, w_se_X6_tuples⟩
theorem mv_X7_185 : MV RX7 185 m_X6_tupleOf 2 := ⟨⟨w_ml_X7_185, w_ini_X6, w_cd_X6_tupleOf, ⟨by decide +kernel, by decide +kernel, by decide +kernel⟩, by decide⟩, w_im_X6_tupleOf, w_se_X6_tupleOf⟩
theorem mv_L_75 : MV RL 75 m_X7_audit 2 := ⟨⟨w_ml_L_75, w_ini_X7, w_cd_X7_audit, ⟨by decide +kernel, by decide +kernel, by decide +kernel⟩, by decide⟩, w_im_X7_audit, w_se_X7_audit⟩
theorem mv_X7_188 : MV RX7 188 m_X0_unbalancedSets 2 := ⟨⟨w_ml_X7_188, w_ini_X0, w_cd_X0_unbalancedSets, ⟨by decide +kernel, by decide +kernel, by decide +kernel⟩, by decide⟩, w_im_X0_unbalancedSets, w_se_X0_unbalancedSets⟩
theorem mv_X7_192 : MV RX7 192 m_X6_allRows 0 := ⟨⟨w_ml_X7_192, w_ini_X6, w_cd_X6_allRows, ⟨by decide +kernel, by decide +kernel, by decide +kernel⟩, by decide⟩, w_im_X6_allRows, w_se_X6_allRows⟩
theorem mv_X7_196 : MV RX7 196 m_X0_firstUnbalanced 3 := ⟨⟨w_ml_X7_196, w_ini_X0, w_cd_X0_firstUnbalanced, ⟨by decide +kernel, by decide +kernel, by decide +kernel⟩, by decide⟩, w_im_X0_firstUnbalanced, w_se_X0_firstUnbalanced⟩
theorem mv_X7_200 : MV RX7 200 m_X0_greatestTally 2 := ⟨⟨w_ml_X7_200, w_ini_X0, w_cd_X0_greatestTally, ⟨by decide +kernel, by decide +kernel, by decide +kernel⟩, by decide⟩, w_im_X0_greatestTally, w_se_X0_greatestTally⟩
theorem mv_X0_61 : MV RX0 61 m_X0_tally 2 := ⟨⟨w_ml_X0_61, w_ini_X0, w_cd_X0_tally, ⟨by decide +kernel, by decide +kernel, by decide +kernel⟩, by decide⟩, w_im_X0_tally, w_se_X0_tally⟩
theorem mv_X0_73 : MV RX0 73 m_X0_tallyOccurring 2 := ⟨⟨w_ml_X0_73, w_ini_X0, w_cd_X0_tallyOccurring, ⟨by decide +kernel, by decide +kernel, by decide +kernel⟩, by decide⟩, w_im_X0_tallyOccurring, w_se_X0_tallyOccurring⟩
theorem ms_X0_65 : MS RX0 65 m_J9_max_7cf53 2 := ⟨⟨w_ml_X0_65, w_ini_J9, w_cd_J9_max_7cf53, ⟨by decide +kernel, by decide +kernel, by decide +kernel⟩, by decide⟩, w_st_J9_max_7cf53⟩
theorem mv_X7_203 : MV RX7 203 m_X0_leastTally 2 := ⟨⟨w_ml_X7_203, w_ini_X0, w_cd_X0_leastTally, ⟨by decide +kernel, by decide +kernel, by decide +kernel⟩, by decide⟩, w_im_X0_leastTally, w_se_X0_leastTally⟩
theorem ms_X0_70 : MS RX0 70 m_J9_min_7cf53 2 := ⟨⟨w_ml_X0_70, w_ini_J9, w_cd_J9_min_7cf53, ⟨by decide +kernel, by decide +kernel, by decide +kernel⟩, by decide⟩, w_st_J9_min_7cf53⟩
theorem ms_L_105 : MS RL 105 m_L_isStrong 1 := ⟨⟨w_ml_L_105, w_ini_L, w_cd_L_isStrong, ⟨by decide +kernel, by decide +kernel, by decide +kernel⟩, by decide⟩, w_st_L_isStrong⟩
theorem ms_L_109 : MS RL 109 m_L_arePairs 1 := ⟨⟨w_ml_L_109, w_ini_L, w_cd_L_arePairs, ⟨by decide +kernel, by decide +kernel, by decide +kernel⟩, by decide⟩, w_st_L_arePairs⟩
theorem mv_L_78 : MV RL 78 m_X7_pairs 1 := ⟨⟨w_ml_L_78, w_ini_X7, w_cd_X7_pairs, ⟨by decide +kernel, by decide +kernel, by decide +kernel⟩, by decide⟩, w_im_X7_pairs, w_se_X7_pairs⟩
theorem mv_X7_206 : MV RX7 206 m_X6_agreements 2 := ⟨⟨w_ml_X7_206, w_ini_X6, w_cd_X6_agreements, ⟨by decide +kernel, by decide +kernel, by decide +kernel⟩, by decide⟩, w_im_X6_agreements, w_se_X6_agreements⟩
theorem ms_L_116 : MS RL 116 m_L_isExtended 2 := ⟨⟨w_ml_L_116, w_ini_L, w_cd_L_isExtended, ⟨by decide +kernel, by decide +kernel, by decide +kernel⟩, by decide⟩, w_st_L_isExtended⟩
theorem mv_L_81 : MV RL 81 m_X7_extension 2 := ⟨⟨w_ml_L_81, w_ini_X7, w_cd_X7_extension, ⟨by decide +kernel, by decide +kernel, by decide +kernel⟩, by decide⟩, w_im_X7_extension, w_se_X7_extension⟩
theorem mv_L_84 : MV RL 84 m_X7_cell 2 := ⟨⟨w_ml_L_84, w_ini_X7, w_cd_X7_cell, ⟨by decide +kernel, by decide +kernel, by decide +kernel⟩, by decide⟩, w_im_X7_cell, w_se_X7_cell⟩
theorem ms_L_119 : MS RL 119 m_L_isSpared 2 := ⟨⟨w_ml_L_119, w_ini_L, w_cd_L_isSpared, ⟨by decide +kernel, by decide +kernel, by decide +kernel⟩, by decide⟩, w_st_L_isSpared⟩
theorem mv_L_87 : MV RL 87 m_X7_spare 1 := ⟨⟨w_ml_L_87, w_ini_X7, w_cd_X7_spare, ⟨by decide +kernel, by decide +kernel, by decide +kernel⟩, by decide⟩, w_im_X7_spare, w_se_X7_spare⟩
theorem mv_X7_215 : MV RX7 215 m_X0_sparedRows 2 := ⟨⟨w_ml_X7_215, w_ini_X0, w_cd_X0_sparedRows, ⟨by decide +kernel, by decide +kernel, by decide +kernel⟩, by decide⟩, w_im_X0_sparedRows, w_se_X0_sparedRows⟩
theorem ms_L_112 : MS RL 112 m_L_areAlike 2 := ⟨⟨w_ml_L_112, w_ini_L, w_cd_L_areAlike, ⟨by decide +kernel, by decide +kernel, by decide +kernel⟩, by decide⟩, w_st_L_areAlike⟩
theorem mv_L_90 : MV RL 90 m_X7_levels 1 := ⟨⟨w_ml_L_90, w_ini_X7, w_cd_X7_levels, ⟨by decide +kernel, by decide +kernel, by decide +kernel⟩, by decide⟩, w_im_X7_levels, w_se_X7_levels⟩
