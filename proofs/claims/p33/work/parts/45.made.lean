theorem cb_X0 : CB 0 RX0 TX0 2 tyX0 := ⟨rfl, w_ly_X0, tyX0_ok, nmX0, fun k hk => by
  match k, hk with
  | 0, _ => rfl
  | 1, _ => rfl
  | k + 2, h => exact absurd h (by omega), w_in_X0, w_ini_X0, fun k hk => by
  match k, hk with
  | 0, _ => rfl
  | 1, _ => rfl
  | k + 2, h => exact absurd h (by omega)⟩
theorem cb_X1 : CB 1 RX1 TX1 6 tyX1 := ⟨rfl, w_ly_X1, tyX1_ok, nmX1, fun k hk => by
  match k, hk with
  | 0, _ => rfl
  | 1, _ => rfl
  | 2, _ => rfl
  | 3, _ => rfl
  | 4, _ => rfl
  | 5, _ => rfl
  | k + 6, h => exact absurd h (by omega), w_in_X1, w_ini_X1, fun k hk => by
  match k, hk with
  | 0, _ => rfl
  | 1, _ => rfl
  | 2, _ => rfl
  | 3, _ => rfl
  | 4, _ => rfl
  | 5, _ => rfl
  | k + 6, h => exact absurd h (by omega)⟩
theorem cb_X2 : CB 2 RX2 TX2 3 tyX2 := ⟨rfl, w_ly_X2, tyX2_ok, nmX2, fun k hk => by
  match k, hk with
  | 0, _ => rfl
  | 1, _ => rfl
  | 2, _ => rfl
  | k + 3, h => exact absurd h (by omega), w_in_X2, w_ini_X2, fun k hk => by
  match k, hk with
  | 0, _ => rfl
  | 1, _ => rfl
  | 2, _ => rfl
  | k + 3, h => exact absurd h (by omega)⟩
theorem cb_X3 : CB 3 RX3 TX3 5 tyX3 := ⟨rfl, w_ly_X3, tyX3_ok, nmX3, fun k hk => by
  match k, hk with
  | 0, _ => rfl
  | 1, _ => rfl
  | 2, _ => rfl
  | 3, _ => rfl
  | 4, _ => rfl
  | k + 5, h => exact absurd h (by omega), w_in_X3, w_ini_X3, fun k hk => by
  match k, hk with
  | 0, _ => rfl
  | 1, _ => rfl
  | 2, _ => rfl
  | 3, _ => rfl
  | 4, _ => rfl
  | k + 5, h => exact absurd h (by omega)⟩
theorem cb_X4 : CB 4 RX4 TX4 2 tyX4 := ⟨rfl, w_ly_X4, tyX4_ok, nmX4, fun k hk => by
  match k, hk with
  | 0, _ => rfl
  | 1, _ => rfl
  | k + 2, h => exact absurd h (by omega), w_in_X4, w_ini_X4, fun k hk => by
  match k, hk with
  | 0, _ => rfl
  | 1, _ => rfl
  | k + 2, h => exact absurd h (by omega)⟩
theorem cb_X5 : CB 5 RX5 TX5 8 tyX5 := ⟨rfl, w_ly_X5, tyX5_ok, nmX5, fun k hk => by
  match k, hk with
  | 0, _ => rfl
  | 1, _ => rfl
  | 2, _ => rfl
  | 3, _ => rfl
  | 4, _ => rfl
  | 5, _ => rfl
  | 6, _ => rfl
  | 7, _ => rfl
  | k + 8, h => exact absurd h (by omega), w_in_X5, w_ini_X5, fun k hk => by
  match k, hk with
  | 0, _ => rfl
  | 1, _ => rfl
  | 2, _ => rfl
  | 3, _ => rfl
  | 4, _ => rfl
  | 5, _ => rfl
  | 6, _ => rfl
  | 7, _ => rfl
  | k + 8, h => exact absurd h (by omega)⟩
theorem cb_X6 : CB 6 RX6 TX6 4 tyX6 := ⟨rfl, w_ly_X6, tyX6_ok, nmX6, fun k hk => by
  match k, hk with
  | 0, _ => rfl
  | 1, _ => rfl
  | 2, _ => rfl
  | 3, _ => rfl
  | k + 4, h => exact absurd h (by omega), w_in_X6, w_ini_X6, fun k hk => by
  match k, hk with
  | 0, _ => rfl
  | 1, _ => rfl
  | 2, _ => rfl
  | 3, _ => rfl
  | k + 4, h => exact absurd h (by omega)⟩
theorem cb_X7 : CB 7 RX7 TX7 12 tyX7 := ⟨rfl, w_ly_X7, tyX7_ok, nmX7, fun k hk => by
  match k, hk with
  | 0, _ => rfl
  | 1, _ => rfl
  | 2, _ => rfl
  | 3, _ => rfl
  | 4, _ => rfl
  | 5, _ => rfl
  | 6, _ => rfl
  | 7, _ => rfl
  | 8, _ => rfl
  | 9, _ => rfl
  | 10, _ => rfl
  | 11, _ => rfl
  | k + 12, h => exact absurd h (by omega), w_in_X7, w_ini_X7, fun k hk => by
  match k, hk with
  | 0, _ => rfl
  | 1, _ => rfl
  | 2, _ => rfl
  | 3, _ => rfl
  | 4, _ => rfl
  | 5, _ => rfl
  | 6, _ => rfl
  | 7, _ => rfl
  | 8, _ => rfl
  | 9, _ => rfl
  | 10, _ => rfl
  | 11, _ => rfl
  | k + 12, h => exact absurd h (by omega)⟩
theorem mi_L_93 : MI RL 93 m_X7_init := ⟨Or.inl w_ml_L_93, w_ini_X7, w_cd_X7_init, w_im_X7_init, ⟨by decide +kernel, by decide +kernel, by decide +kernel⟩, by decide, rfl, rfl⟩
theorem mi_X7_9 : MI RX7 9 m_X6_init := ⟨Or.inr (by decide +kernel), w_ini_X6, w_cd_X6_init, w_im_X6_init, ⟨by decide +kernel, by decide +kernel, by decide +kernel⟩, by decide, rfl, rfl⟩
theorem mi_X7_18 : MI RX7 18 m_X2_init := ⟨Or.inl w_ml_X7_18, w_ini_X2, w_cd_X2_init, w_im_X2_init, ⟨by decide +kernel, by decide +kernel, by decide +kernel⟩, by decide, rfl, rfl⟩
theorem mi_X2_24 : MI RX2 24 m_X6_init := ⟨Or.inr (by decide +kernel), w_ini_X6, w_cd_X6_init, w_im_X6_init, ⟨by decide +kernel, by decide +kernel, by decide +kernel⟩, by decide, rfl, rfl⟩
theorem mi_X7_33 : MI RX7 33 m_X4_init := ⟨Or.inr (by decide +kernel), w_ini_X4, w_cd_X4_init, w_im_X4_init, ⟨by decide +kernel, by decide +kernel, by decide +kernel⟩, by decide, rfl, rfl⟩
theorem mi_X7_40 : MI RX7 40 m_X0_init := ⟨Or.inr (by decide +kernel), w_ini_X0, w_cd_X0_init, w_im_X0_init, ⟨by decide +kernel, by decide +kernel, by decide +kernel⟩, by decide, rfl, rfl⟩
theorem mi_X7_47 : MI RX7 47 m_X1_init := ⟨Or.inr (by decide +kernel), w_ini_X1, w_cd_X1_init, w_im_X1_init, ⟨by decide +kernel, by decide +kernel, by decide +kernel⟩, by decide, rfl, rfl⟩
theorem mi_X1_17 : MI RX1 17 m_X6_init := ⟨Or.inr (by decide +kernel), w_ini_X6, w_cd_X6_init, w_im_X6_init, ⟨by decide +kernel, by decide +kernel, by decide +kernel⟩, by decide, rfl, rfl⟩
theorem mi_X7_54 : MI RX7 54 m_X3_init := ⟨Or.inr (by decide +kernel), w_ini_X3, w_cd_X3_init, w_im_X3_init, ⟨by decide +kernel, by decide +kernel, by decide +kernel⟩, by decide, rfl, rfl⟩
theorem mi_X3_20 : MI RX3 20 m_X5_init := ⟨Or.inr (by decide +kernel), w_ini_X5, w_cd_X5_init, w_im_X5_init, ⟨by decide +kernel, by decide +kernel, by decide +kernel⟩, by decide, rfl, rfl⟩
theorem mi_X5_11 : MI RX5 11 m_X6_init := ⟨Or.inr (by decide +kernel), w_ini_X6, w_cd_X6_init, w_im_X6_init, ⟨by decide +kernel, by decide +kernel, by decide +kernel⟩, by decide, rfl, rfl⟩
theorem sub_hu {u : Nat → Nat} {L G : List Nat} {q : Nat} (hu : ∀ i id : Nat, L[i]? = some id → u id = q + i) (n : Nat) (hs : (L.drop n).take G.length = G) : ∀ i id : Nat, G[i]? = some id → u id = q + n + i := by
  intro i id h
  have hi : i < G.length := (List.getElem?_eq_some_iff.mp h).1
  rw [← hs, List.getElem?_take_of_lt hi, List.getElem?_drop] at h
  rw [hu (n + i) id h]
  omega
theorem C0_i {E : EN} {id N : Nat} (hs : shp id = (10, N)) (hm : ∀ j, M0 id j = 0) : C0 E id = .inl (E.2.2 0, N, .inl (fun _ => 0)) := by
  unfold C0
  rw [cel_10 hs]
  congr 3
  congr 1
  funext j
  rw [hm j]
  rfl
theorem C0_l {E : EN} {id N : Nat} (hs : shp id = (11, N)) (hm : ∀ j, M0 id j = 0) : C0 E id = .inl (E.2.2 1, N, .inr (.inl (fun _ => 0))) := by
  unfold C0
  rw [cel_11 hs]
  congr 5
  funext j
  rw [hm j]
  rfl
theorem C0_z {E : EN} {id N : Nat} (hs : shp id = (12, N)) (hm : ∀ j, M0 id j = 0) : C0 E id = .inl (E.2.2 2, N, .inl (fun _ => 0)) := by
  unfold C0
  rw [cel_12 hs]
  congr 3
  congr 1
  funext j
  rw [hm j]
  rfl
theorem WK.re {d : Nat} {mt : Mth} {E : EN} {q pc n n' mc mc' ms ms' : Nat} {ls ls' st : List V} {P : List (Nat × va_E)} {F : List Nat} {Q : Nat → List V → Nat → List (Nat × va_E) → List Nat → Prop} (h1 : ls = ls') (h2 : n = n') (h3 : mc = mc') (h4 : ms = ms') (kk : WK d mt E q pc ls' st n' P F mc' ms' Q) : WK d mt E q pc ls st n P F mc ms Q := by
  subst h1; subst h2; subst h3; subst h4; exact kk
abbrev va_E_o (ci : Nat) (fs : List Value) : va_E := .inr (ci, fs)
theorem tb_shp (k : Nat) (hk : k < 14) : shp (3 * k) = (6, 0) ∧ shp (3 * k + 1) = (10, 7) ∧ shp (3 * k + 2) = (10, 252) := by
  refine ⟨?_, ?_, ?_⟩
  · unfold shp; rw [if_pos (by omega), if_pos (by omega)]
  · unfold shp; rw [if_pos (by omega), if_neg (by omega), if_pos (by omega)]
  · unfold shp; rw [if_pos (by omega), if_neg (by omega), if_neg (by omega)]
theorem me_tab (E : EN) (k : Nat) (hk : k < 14) : C0 E (3 * k) = .inr (6, [.int (Int32.ofInt 0), .int (Int32.ofInt 0), .ref (E.2.1 (3 * k + 1)), .ref (E.2.1 (3 * k + 2))]) := by
  unfold C0
  rw [cel_obj (tb_shp k hk).1 (by decide)]
  have hz : ∀ j, M0 (3 * k) j = 0 := M0_z (by omega)
  have s2 : srf (3 * k) 2 = 3 * k + 1 := by unfold srf; rw [if_pos (by omega)]
  have s3 : srf (3 * k) 3 = 3 * k + 2 := by unfold srf; rw [if_pos (by omega)]
  have f0 : fval E 6 (3 * k) 0 (M0 (3 * k) 0) = .int (Int32.ofInt 0) := by rw [hz 0]; rfl
  have f1 : fval E 6 (3 * k) 1 (M0 (3 * k) 1) = .int (Int32.ofInt 0) := by rw [hz 1]; rfl
  have f2 : fval E 6 (3 * k) 2 (M0 (3 * k) 2) = .ref (E.2.1 (3 * k + 1)) := by unfold fval; rw [if_pos (show ftp 6 2 = 2 from rfl), s2]
  have f3 : fval E 6 (3 * k) 3 (M0 (3 * k) 3) = .ref (E.2.1 (3 * k + 2)) := by unfold fval; rw [if_pos (show ftp 6 3 = 2 from rfl), s3]
  show va_E_o 6 [fval E 6 (3 * k) 0 (M0 (3 * k) 0), fval E 6 (3 * k) 1 (M0 (3 * k) 1), fval E 6 (3 * k) 2 (M0 (3 * k) 2), fval E 6 (3 * k) 3 (M0 (3 * k) 3)] = _
  rw [f0, f1, f2, f3]
theorem k_X6 (k : Nat) (hk : k < 14) : CC 1 m_X6_init 6 [3 * k, 3 * k + 1, 3 * k + 2] 2 259 := by
  refine CC.ofWK (id0 := 3 * k) (by decide +kernel) (by show 1 ≤ 1; omega) rfl rfl (fun E q hu => ?_)
  have hC1 : C0 E (3 * k + 1) = .inl (E.2.2 0, 7, .inl (fun _ => 0)) := C0_i (tb_shp k hk).2.1 (M0_z (by omega))
  have hC2 : C0 E (3 * k + 2) = .inl (E.2.2 0, 252, .inl (fun _ => 0)) := C0_i (tb_shp k hk).2.2 (M0_z (by omega))
  refine WK.re (ls' := [vR (3 * k)]) (mc' := 1 + (1 + (0))) (ms' := 7 + (252 + (0))) rfl rfl (by decide +kernel) (by decide +kernel) ?_
  refine WK.aload_n dX6_init_0 rfl ?_
  refine WK.objInit dX6_init_1 w_ml_X6_3 (by decide) ?_
  refine WK.aload_n dX6_init_4 rfl ?_
  refine WK.iconst dX6_init_5 ?_
  refine WK.put (fs' := [.int (Int32.ofInt 0), .int 0, .null, .null]) cb_X6 dX6_init_6 rfl rfl (j := 0) (by decide) w_fl_X6_9 (by show 0 < 4; omega) rfl rfl rfl ?_
  refine WK.aload_n dX6_init_9 rfl ?_
  refine WK.iconst dX6_init_10 ?_
  refine WK.put (fs' := [.int (Int32.ofInt 0), .int (Int32.ofInt 0), .null, .null]) cb_X6 dX6_init_11 rfl rfl (j := 1) (by decide) w_fl_X6_15 (by show 1 < 4; omega) rfl rfl rfl ?_
  refine WK.aload_n dX6_init_14 rfl ?_
  refine WK.bipush dX6_init_15 (by decide) ?_
  refine WK.newI (id := 3 * k + 1) (N := 7) dX6_init_17 (by decide) (hu 1 _ rfl) hC1 ?_
  refine WK.put (fs' := [.int (Int32.ofInt 0), .int (Int32.ofInt 0), .ref (E.2.1 (3 * k + 1)), .null]) cb_X6 dX6_init_19 rfl rfl (j := 2) (by decide) w_fl_X6_18 (by show 2 < 4; omega) rfl rfl rfl ?_
  refine WK.aload_n dX6_init_22 rfl ?_
  refine WK.sipush dX6_init_23 (by decide) ?_
  refine WK.newI (id := 3 * k + 2) (N := 252) dX6_init_26 (by decide) (hu 2 _ rfl) hC2 ?_
  refine WK.put (fs' := [.int (Int32.ofInt 0), .int (Int32.ofInt 0), .ref (E.2.1 (3 * k + 1)), .ref (E.2.1 (3 * k + 2))]) cb_X6 dX6_init_28 rfl rfl (j := 3) (by decide) w_fl_X6_22 (by show 3 < 4; omega) rfl rfl rfl ?_
  refine WK.done ⟨dX6_init_31, rfl, fun id hid => ?_⟩
  simp only [List.mem_cons, List.not_mem_nil, or_false] at hid
  rcases hid with rfl | rfl | rfl
  · exact Or.inr ⟨_, List.mem_cons_self, fun H h => by rw [me_tab E k hk]; exact h⟩
  · exact Or.inl (by simp)
  · exact Or.inl (by simp)
theorem me_47 (E : EN) : C0 E 47 = .inr (4, [.int (Int32.ofInt 0), .ref (E.2.1 48)]) := rfl
theorem k_X4 : CC 1 m_X4_init 4 [47, 48] 1 300 := by
  refine CC.ofWK (id0 := 47) (by decide +kernel) (by show 1 ≤ 1; omega) rfl rfl (fun E q hu => ?_)
  refine WK.re (ls' := [vR 47]) (mc' := 1 + (0)) (ms' := 300 + (0)) rfl rfl (by decide +kernel) (by decide +kernel) ?_
  refine WK.aload_n dX4_init_0 rfl ?_
  refine WK.objInit dX4_init_1 w_ml_X4_3 (by decide) ?_
  refine WK.aload_n dX4_init_4 rfl ?_
  refine WK.iconst dX4_init_5 ?_
  refine WK.put (fs' := [.int (Int32.ofInt 0), .null]) cb_X4 dX4_init_6 rfl rfl (j := 0) (by decide) w_fl_X4_9 (by show 0 < 2; omega) rfl rfl rfl ?_
  refine WK.aload_n dX4_init_9 rfl ?_
  refine WK.sipush dX4_init_10 (by decide) ?_
  refine WK.newI (id := 48) (N := 300) dX4_init_13 (by decide) (hu 1 _ rfl) (C0_i rfl (fun _ => rfl)) ?_
  refine WK.put (fs' := [.int (Int32.ofInt 0), .ref (E.2.1 48)]) cb_X4 dX4_init_15 rfl rfl (j := 1) (by decide) w_fl_X4_15 (by show 1 < 2; omega) rfl rfl rfl ?_
  refine WK.done ⟨dX4_init_18, rfl, fun id hid => ?_⟩
  rcases (show id = 47 ∨ id ∈ ([48] : List Nat) from (by decide +kernel : ∀ id ∈ ([47, 48] : List Nat), id = 47 ∨ id ∈ ([48] : List Nat)) id hid) with rfl | h
  · exact Or.inr ⟨_, List.mem_cons_self, fun H h => by rw [me_47 E]; exact h⟩
  · exact Or.inl h
theorem me_49 (E : EN) : C0 E 49 = .inr (0, [.ref (E.2.1 50), .ref (E.2.1 51)]) := rfl
theorem k_X0 : CC 1 m_X0_init 0 [49, 50, 51] 2 72 := by
  refine CC.ofWK (id0 := 49) (by decide +kernel) (by show 1 ≤ 1; omega) rfl rfl (fun E q hu => ?_)
  refine WK.re (ls' := [vR 49]) (mc' := 1 + (1 + (0))) (ms' := 36 + (36 + (0))) rfl rfl (by decide +kernel) (by decide +kernel) ?_
  refine WK.aload_n dX0_init_0 rfl ?_
  refine WK.objInit dX0_init_1 w_ml_X0_3 (by decide) ?_
  refine WK.aload_n dX0_init_4 rfl ?_
  refine WK.bipush dX0_init_5 (by decide) ?_
  refine WK.newI (id := 50) (N := 36) dX0_init_7 (by decide) (hu 1 _ rfl) (C0_i rfl (fun _ => rfl)) ?_
  refine WK.put (fs' := [.ref (E.2.1 50), .null]) cb_X0 dX0_init_9 rfl rfl (j := 0) (by decide) w_fl_X0_9 (by show 0 < 2; omega) rfl rfl rfl ?_
  refine WK.aload_n dX0_init_12 rfl ?_
  refine WK.bipush dX0_init_13 (by decide) ?_
  refine WK.newI (id := 51) (N := 36) dX0_init_15 (by decide) (hu 2 _ rfl) (C0_i rfl (fun _ => rfl)) ?_
  refine WK.put (fs' := [.ref (E.2.1 50), .ref (E.2.1 51)]) cb_X0 dX0_init_17 rfl rfl (j := 1) (by decide) w_fl_X0_15 (by show 1 < 2; omega) rfl rfl rfl ?_
  refine WK.done ⟨dX0_init_20, rfl, fun id hid => ?_⟩
  rcases (show id = 49 ∨ id ∈ ([50, 51] : List Nat) from (by decide +kernel : ∀ id ∈ ([49, 50, 51] : List Nat), id = 49 ∨ id ∈ ([50, 51] : List Nat)) id hid) with rfl | h
  · exact Or.inr ⟨_, List.mem_cons_self, fun H h => by rw [me_49 E]; exact h⟩
  · exact Or.inl h
theorem me_43 (E : EN) : C0 E 43 = .inr (2, [.int (Int32.ofInt 0), .int (Int32.ofInt 0), .ref (E.2.1 44)]) := rfl
theorem k_X2 : CC 2 m_X2_init 2 [43, 44, 9, 10, 11, 12, 13, 14, 15, 16, 17, 18, 19, 20, 21, 22, 23, 24, 25, 26, 27, 28, 29, 30, 31, 32] 25 2112 := by
  refine CC.ofWK (id0 := 43) (by decide +kernel) (by show 1 ≤ 2; omega) rfl rfl (fun E q hu => ?_)
  refine WK.re (ls' := [vR 43, vU]) (mc' := 1 + (1 + 2 + (1 + 2 + (1 + 2 + (1 + 2 + (1 + 2 + (1 + 2 + (1 + 2 + (1 + 2 + (0)))))))))) (ms' := 8 + (4 + 259 + (4 + 259 + (4 + 259 + (4 + 259 + (4 + 259 + (4 + 259 + (4 + 259 + (4 + 259 + (0)))))))))) rfl rfl (by decide +kernel) (by decide +kernel) ?_
  refine WK.aload_n dX2_init_0 rfl ?_
  refine WK.objInit dX2_init_1 w_ml_X2_3 (by decide) ?_
  refine WK.aload_n dX2_init_4 rfl ?_
  refine WK.iconst dX2_init_5 ?_
  refine WK.put (fs' := [.int (Int32.ofInt 0), .int 0, .null]) cb_X2 dX2_init_6 rfl rfl (j := 0) (by decide) w_fl_X2_9 (by show 0 < 3; omega) rfl rfl rfl ?_
  refine WK.aload_n dX2_init_9 rfl ?_
  refine WK.iconst dX2_init_10 ?_
  refine WK.put (fs' := [.int (Int32.ofInt 0), .int (Int32.ofInt 0), .null]) cb_X2 dX2_init_11 rfl rfl (j := 1) (by decide) w_fl_X2_15 (by show 1 < 3; omega) rfl rfl rfl ?_
  refine WK.aload_n dX2_init_14 rfl ?_
  refine WK.bipush dX2_init_15 (by decide) ?_
  refine WK.newq (id := 44) (N := 8) dX2_init_17 w_cl_X2_18 (by decide) (hu 1 _ rfl) ?_
  refine WK.put (fs' := [.int (Int32.ofInt 0), .int (Int32.ofInt 0), .ref (E.2.1 44)]) cb_X2 dX2_init_20 rfl rfl (j := 2) (by decide) w_fl_X2_20 (by show 2 < 3; omega) rfl rfl rfl ?_
  refine WK.iconst dX2_init_23 ?_
  refine WK.istore_n (lt := [vR 43, vI 0]) dX2_init_24 (by decide) rfl ?_
  refine WK.iload_n dX2_init_25 rfl ?_
  refine WK.bipush dX2_init_26 (by decide) ?_
  refine WK.ge_f (tgt := 50) dX2_init_28 (by decide) (by decide) (by decide) (by decide) ?_
  refine WK.aload_n dX2_init_31 rfl ?_
  refine WK.get (v := vR 44) cb_X2 dX2_init_32 (j := 2) (by decide) w_fl_X2_20 rfl ?_
  refine WK.iload_n dX2_init_35 rfl ?_
  refine WK.make (ids := [9, 10, 11]) (mc' := 2) (ms' := 259) cb_X6 dX2_init_36 dX2_init_39 dX2_init_40 w_cl_X2_18 mi_X2_24 (k_X6 3 (by decide)) (sub_hu hu 2 (by decide +kernel)) rfl (by decide) (by decide) ?_
  refine WK.re (n' := 5) rfl rfl rfl rfl ?_
  refine WK.aast (f' := (va_up (fun _ => none) 0 (some (E.2.1 9)))) (k := 0) dX2_init_43 rfl (by decide) (by decide) (by decide +kernel) (cel_obj rfl (by decide)) rfl ?_
  refine WK.iinc (lt := [vR 43, vI 1]) dX2_init_44 rfl (by decide) rfl ?_
  refine WK.goto (tgt := 25) dX2_init_47 (by decide) ?_
  refine WK.iload_n dX2_init_25 rfl ?_
  refine WK.bipush dX2_init_26 (by decide) ?_
  refine WK.ge_f (tgt := 50) dX2_init_28 (by decide) (by decide) (by decide) (by decide) ?_
  refine WK.aload_n dX2_init_31 rfl ?_
  refine WK.get (v := vR 44) cb_X2 dX2_init_32 (j := 2) (by decide) w_fl_X2_20 rfl ?_
  refine WK.iload_n dX2_init_35 rfl ?_
  refine WK.make (ids := [12, 13, 14]) (mc' := 2) (ms' := 259) cb_X6 dX2_init_36 dX2_init_39 dX2_init_40 w_cl_X2_18 mi_X2_24 (k_X6 4 (by decide)) (sub_hu hu 5 (by decide +kernel)) rfl (by decide) (by decide) ?_
  refine WK.re (n' := 8) rfl rfl rfl rfl ?_
  refine WK.aast (f' := (va_up (va_up (fun _ => none) 0 (some (E.2.1 9))) 1 (some (E.2.1 12)))) (k := 1) dX2_init_43 rfl (by decide) (by decide) (by decide +kernel) (cel_obj rfl (by decide)) rfl ?_
  refine WK.iinc (lt := [vR 43, vI 2]) dX2_init_44 rfl (by decide) rfl ?_
  refine WK.goto (tgt := 25) dX2_init_47 (by decide) ?_
  refine WK.iload_n dX2_init_25 rfl ?_
  refine WK.bipush dX2_init_26 (by decide) ?_
  refine WK.ge_f (tgt := 50) dX2_init_28 (by decide) (by decide) (by decide) (by decide) ?_
  refine WK.aload_n dX2_init_31 rfl ?_
  refine WK.get (v := vR 44) cb_X2 dX2_init_32 (j := 2) (by decide) w_fl_X2_20 rfl ?_
  refine WK.iload_n dX2_init_35 rfl ?_
  refine WK.make (ids := [15, 16, 17]) (mc' := 2) (ms' := 259) cb_X6 dX2_init_36 dX2_init_39 dX2_init_40 w_cl_X2_18 mi_X2_24 (k_X6 5 (by decide)) (sub_hu hu 8 (by decide +kernel)) rfl (by decide) (by decide) ?_
  refine WK.re (n' := 11) rfl rfl rfl rfl ?_
  refine WK.aast (f' := (va_up (va_up (va_up (fun _ => none) 0 (some (E.2.1 9))) 1 (some (E.2.1 12))) 2 (some (E.2.1 15)))) (k := 2) dX2_init_43 rfl (by decide) (by decide) (by decide +kernel) (cel_obj rfl (by decide)) rfl ?_
  refine WK.iinc (lt := [vR 43, vI 3]) dX2_init_44 rfl (by decide) rfl ?_
  refine WK.goto (tgt := 25) dX2_init_47 (by decide) ?_
  refine WK.iload_n dX2_init_25 rfl ?_
  refine WK.bipush dX2_init_26 (by decide) ?_
  refine WK.ge_f (tgt := 50) dX2_init_28 (by decide) (by decide) (by decide) (by decide) ?_
  refine WK.aload_n dX2_init_31 rfl ?_
  refine WK.get (v := vR 44) cb_X2 dX2_init_32 (j := 2) (by decide) w_fl_X2_20 rfl ?_
  refine WK.iload_n dX2_init_35 rfl ?_
  refine WK.make (ids := [18, 19, 20]) (mc' := 2) (ms' := 259) cb_X6 dX2_init_36 dX2_init_39 dX2_init_40 w_cl_X2_18 mi_X2_24 (k_X6 6 (by decide)) (sub_hu hu 11 (by decide +kernel)) rfl (by decide) (by decide) ?_
  refine WK.re (n' := 14) rfl rfl rfl rfl ?_
  refine WK.aast (f' := (va_up (va_up (va_up (va_up (fun _ => none) 0 (some (E.2.1 9))) 1 (some (E.2.1 12))) 2 (some (E.2.1 15))) 3 (some (E.2.1 18)))) (k := 3) dX2_init_43 rfl (by decide) (by decide) (by decide +kernel) (cel_obj rfl (by decide)) rfl ?_
  refine WK.iinc (lt := [vR 43, vI 4]) dX2_init_44 rfl (by decide) rfl ?_
  refine WK.goto (tgt := 25) dX2_init_47 (by decide) ?_
  refine WK.iload_n dX2_init_25 rfl ?_
  refine WK.bipush dX2_init_26 (by decide) ?_
  refine WK.ge_f (tgt := 50) dX2_init_28 (by decide) (by decide) (by decide) (by decide) ?_
  refine WK.aload_n dX2_init_31 rfl ?_
  refine WK.get (v := vR 44) cb_X2 dX2_init_32 (j := 2) (by decide) w_fl_X2_20 rfl ?_
  refine WK.iload_n dX2_init_35 rfl ?_
  refine WK.make (ids := [21, 22, 23]) (mc' := 2) (ms' := 259) cb_X6 dX2_init_36 dX2_init_39 dX2_init_40 w_cl_X2_18 mi_X2_24 (k_X6 7 (by decide)) (sub_hu hu 14 (by decide +kernel)) rfl (by decide) (by decide) ?_
  refine WK.re (n' := 17) rfl rfl rfl rfl ?_
  refine WK.aast (f' := (va_up (va_up (va_up (va_up (va_up (fun _ => none) 0 (some (E.2.1 9))) 1 (some (E.2.1 12))) 2 (some (E.2.1 15))) 3 (some (E.2.1 18))) 4 (some (E.2.1 21)))) (k := 4) dX2_init_43 rfl (by decide) (by decide) (by decide +kernel) (cel_obj rfl (by decide)) rfl ?_
  refine WK.iinc (lt := [vR 43, vI 5]) dX2_init_44 rfl (by decide) rfl ?_
  refine WK.goto (tgt := 25) dX2_init_47 (by decide) ?_
  refine WK.iload_n dX2_init_25 rfl ?_
  refine WK.bipush dX2_init_26 (by decide) ?_
  refine WK.ge_f (tgt := 50) dX2_init_28 (by decide) (by decide) (by decide) (by decide) ?_
  refine WK.aload_n dX2_init_31 rfl ?_
  refine WK.get (v := vR 44) cb_X2 dX2_init_32 (j := 2) (by decide) w_fl_X2_20 rfl ?_
  refine WK.iload_n dX2_init_35 rfl ?_
  refine WK.make (ids := [24, 25, 26]) (mc' := 2) (ms' := 259) cb_X6 dX2_init_36 dX2_init_39 dX2_init_40 w_cl_X2_18 mi_X2_24 (k_X6 8 (by decide)) (sub_hu hu 17 (by decide +kernel)) rfl (by decide) (by decide) ?_
  refine WK.re (n' := 20) rfl rfl rfl rfl ?_
  refine WK.aast (f' := (va_up (va_up (va_up (va_up (va_up (va_up (fun _ => none) 0 (some (E.2.1 9))) 1 (some (E.2.1 12))) 2 (some (E.2.1 15))) 3 (some (E.2.1 18))) 4 (some (E.2.1 21))) 5 (some (E.2.1 24)))) (k := 5) dX2_init_43 rfl (by decide) (by decide) (by decide +kernel) (cel_obj rfl (by decide)) rfl ?_
  refine WK.iinc (lt := [vR 43, vI 6]) dX2_init_44 rfl (by decide) rfl ?_
  refine WK.goto (tgt := 25) dX2_init_47 (by decide) ?_
  refine WK.iload_n dX2_init_25 rfl ?_
  refine WK.bipush dX2_init_26 (by decide) ?_
  refine WK.ge_f (tgt := 50) dX2_init_28 (by decide) (by decide) (by decide) (by decide) ?_
  refine WK.aload_n dX2_init_31 rfl ?_
  refine WK.get (v := vR 44) cb_X2 dX2_init_32 (j := 2) (by decide) w_fl_X2_20 rfl ?_
  refine WK.iload_n dX2_init_35 rfl ?_
  refine WK.make (ids := [27, 28, 29]) (mc' := 2) (ms' := 259) cb_X6 dX2_init_36 dX2_init_39 dX2_init_40 w_cl_X2_18 mi_X2_24 (k_X6 9 (by decide)) (sub_hu hu 20 (by decide +kernel)) rfl (by decide) (by decide) ?_
  refine WK.re (n' := 23) rfl rfl rfl rfl ?_
  refine WK.aast (f' := (va_up (va_up (va_up (va_up (va_up (va_up (va_up (fun _ => none) 0 (some (E.2.1 9))) 1 (some (E.2.1 12))) 2 (some (E.2.1 15))) 3 (some (E.2.1 18))) 4 (some (E.2.1 21))) 5 (some (E.2.1 24))) 6 (some (E.2.1 27)))) (k := 6) dX2_init_43 rfl (by decide) (by decide) (by decide +kernel) (cel_obj rfl (by decide)) rfl ?_
  refine WK.iinc (lt := [vR 43, vI 7]) dX2_init_44 rfl (by decide) rfl ?_
  refine WK.goto (tgt := 25) dX2_init_47 (by decide) ?_
  refine WK.iload_n dX2_init_25 rfl ?_
  refine WK.bipush dX2_init_26 (by decide) ?_
  refine WK.ge_f (tgt := 50) dX2_init_28 (by decide) (by decide) (by decide) (by decide) ?_
  refine WK.aload_n dX2_init_31 rfl ?_
  refine WK.get (v := vR 44) cb_X2 dX2_init_32 (j := 2) (by decide) w_fl_X2_20 rfl ?_
  refine WK.iload_n dX2_init_35 rfl ?_
  refine WK.make (ids := [30, 31, 32]) (mc' := 2) (ms' := 259) cb_X6 dX2_init_36 dX2_init_39 dX2_init_40 w_cl_X2_18 mi_X2_24 (k_X6 10 (by decide)) (sub_hu hu 23 (by decide +kernel)) rfl (by decide) (by decide) ?_
  refine WK.re (n' := 26) rfl rfl rfl rfl ?_
  refine WK.aast (f' := (va_up (va_up (va_up (va_up (va_up (va_up (va_up (va_up (fun _ => none) 0 (some (E.2.1 9))) 1 (some (E.2.1 12))) 2 (some (E.2.1 15))) 3 (some (E.2.1 18))) 4 (some (E.2.1 21))) 5 (some (E.2.1 24))) 6 (some (E.2.1 27))) 7 (some (E.2.1 30)))) (k := 7) dX2_init_43 rfl (by decide) (by decide) (by decide +kernel) (cel_obj rfl (by decide)) rfl ?_
  refine WK.iinc (lt := [vR 43, vI 8]) dX2_init_44 rfl (by decide) rfl ?_
  refine WK.goto (tgt := 25) dX2_init_47 (by decide) ?_
  refine WK.iload_n dX2_init_25 rfl ?_
  refine WK.bipush dX2_init_26 (by decide) ?_
  refine WK.ge_t (tgt := 50) dX2_init_28 (by decide) (by decide) (by decide) (by decide) ?_
  refine WK.done ⟨dX2_init_50, rfl, fun id hid => ?_⟩
  rcases (show id = 43 ∨ id = 44 ∨ id ∈ ([9, 10, 11, 12, 13, 14, 15, 16, 17, 18, 19, 20, 21, 22, 23, 24, 25, 26, 27, 28, 29, 30, 31, 32] : List Nat) from (by decide +kernel : ∀ id ∈ ([43, 44, 9, 10, 11, 12, 13, 14, 15, 16, 17, 18, 19, 20, 21, 22, 23, 24, 25, 26, 27, 28, 29, 30, 31, 32] : List Nat), id = 43 ∨ id = 44 ∨ id ∈ ([9, 10, 11, 12, 13, 14, 15, 16, 17, 18, 19, 20, 21, 22, 23, 24, 25, 26, 27, 28, 29, 30, 31, 32] : List Nat)) id hid) with rfl | rfl | h
  · exact Or.inr ⟨_, List.mem_cons_self, fun H h => by rw [me_43 E]; exact h⟩
  · exact Or.inr ⟨_, List.mem_cons_of_mem _ List.mem_cons_self, fun H h => h.trans (congrArg some (by
      exact arr_eq (c := E.2.2 3) (N := 8) (fun j hj => by
        match j, hj with
        | 0, _ => rfl
        | 1, _ => rfl
        | 2, _ => rfl
        | 3, _ => rfl
        | 4, _ => rfl
        | 5, _ => rfl
        | 6, _ => rfl
        | 7, _ => rfl
        | j + 8, hj => exact absurd hj (by omega))))⟩
  · exact Or.inl h
theorem sr_55 : ∀ j : Nat, j < 42 → ([56, 57, 58, 59, 60, 61, 62, 63, 64, 65, 66, 67, 68, 69, 70, 71, 72, 73, 74, 75, 76, 77, 78, 79, 80, 81, 82, 83, 84, 85, 86, 87, 88, 89, 90, 91, 92, 93, 94, 95, 96, 97] : List Nat)[j]? = some (srf 55 j) := by decide +kernel
theorem sh_55 : ∀ id ∈ ([56, 57, 58, 59, 60, 61, 62, 63, 64, 65, 66, 67, 68, 69, 70, 71, 72, 73, 74, 75, 76, 77, 78, 79, 80, 81, 82, 83, 84, 85, 86, 87, 88, 89, 90, 91, 92, 93, 94, 95, 96, 97] : List Nat), shp id = (10, 6) ∧ id ≠ 103 ∧ id ≠ 135 ∧ id ≠ 52 ∧ id ≠ 42 ∧ id < 167 := by decide +kernel
theorem c0_55 (E : EN) : ∀ id ∈ ([56, 57, 58, 59, 60, 61, 62, 63, 64, 65, 66, 67, 68, 69, 70, 71, 72, 73, 74, 75, 76, 77, 78, 79, 80, 81, 82, 83, 84, 85, 86, 87, 88, 89, 90, 91, 92, 93, 94, 95, 96, 97] : List Nat), C0 E id = .inl (E.2.2 0, 6, .inl (fun _ => 0)) := fun id h => C0_i (sh_55 id h).1 (M0_z (sh_55 id h).2)
theorem me_52 (E : EN) : C0 E 52 = .inr (1, [.ref (E.2.1 53), .ref (E.2.1 39), .int (Int32.ofInt 0), .ref (E.2.1 54), .ref (E.2.1 55), .ref (E.2.1 98)]) := rfl
theorem k_X1 : CC 2 m_X1_init 1 [52, 53, 39, 40, 41, 54, 55, 56, 57, 58, 59, 60, 61, 62, 63, 64, 65, 66, 67, 68, 69, 70, 71, 72, 73, 74, 75, 76, 77, 78, 79, 80, 81, 82, 83, 84, 85, 86, 87, 88, 89, 90, 91, 92, 93, 94, 95, 96, 97, 98] 49 595 := by
  refine CC.ofWK (id0 := 52) (by decide +kernel) (by show 1 ≤ 1; omega) rfl rfl (fun E q hu => ?_)
  refine WK.re (ls' := [vR 52]) (mc' := 1 + (1 + 2 + (1 + (1 + 42 + (1 + (0)))))) (ms' := 16 + (4 + 259 + (16 + (42 + 42 * 6 + (6 + (0)))))) rfl rfl (by decide +kernel) (by decide +kernel) ?_
  refine WK.aload_n dX1_init_0 rfl ?_
  refine WK.objInit dX1_init_1 w_ml_X1_3 (by decide) ?_
  refine WK.aload_n dX1_init_4 rfl ?_
  refine WK.bipush dX1_init_5 (by decide) ?_
  refine WK.newI (id := 53) (N := 16) dX1_init_7 (by decide) (hu 1 _ rfl) (C0_i rfl (fun _ => rfl)) ?_
  refine WK.put (fs' := [.ref (E.2.1 53), .null, .int 0, .null, .null, .null]) cb_X1 dX1_init_9 rfl rfl (j := 0) (by decide) w_fl_X1_9 (by show 0 < 6; omega) rfl rfl rfl ?_
  refine WK.aload_n dX1_init_12 rfl ?_
  refine WK.make (ids := [39, 40, 41]) (mc' := 2) (ms' := 259) cb_X6 dX1_init_13 dX1_init_16 dX1_init_17 w_cl_X1_15 mi_X1_17 (k_X6 13 (by decide)) (sub_hu hu 2 (by decide +kernel)) rfl (by decide) (by decide) ?_
  refine WK.re (n' := 5) rfl rfl rfl rfl ?_
  refine WK.put (fs' := [.ref (E.2.1 53), .ref (E.2.1 39), .int 0, .null, .null, .null]) cb_X1 dX1_init_20 rfl rfl (j := 1) (by decide) w_fl_X1_18 (by show 1 < 6; omega) rfl rfl rfl ?_
  refine WK.aload_n dX1_init_23 rfl ?_
  refine WK.iconst dX1_init_24 ?_
  refine WK.put (fs' := [.ref (E.2.1 53), .ref (E.2.1 39), .int (Int32.ofInt 0), .null, .null, .null]) cb_X1 dX1_init_25 rfl rfl (j := 2) (by decide) w_fl_X1_22 (by show 2 < 6; omega) rfl rfl rfl ?_
  refine WK.aload_n dX1_init_28 rfl ?_
  refine WK.bipush dX1_init_29 (by decide) ?_
  refine WK.newI (id := 54) (N := 16) dX1_init_31 (by decide) (hu 5 _ rfl) (C0_i rfl (fun _ => rfl)) ?_
  refine WK.put (fs' := [.ref (E.2.1 53), .ref (E.2.1 39), .int (Int32.ofInt 0), .ref (E.2.1 54), .null, .null]) cb_X1 dX1_init_33 rfl rfl (j := 3) (by decide) w_fl_X1_26 (by show 3 < 6; omega) rfl rfl rfl ?_
  refine WK.aload_n dX1_init_36 rfl ?_
  refine WK.bipush dX1_init_37 (by decide) ?_
  refine WK.bipush dX1_init_39 (by decide) ?_
  refine WK.mnaI (ido := 55) (N := 42) (K := 6) (ids := [56, 57, 58, 59, 60, 61, 62, 63, 64, 65, 66, 67, 68, 69, 70, 71, 72, 73, 74, 75, 76, 77, 78, 79, 80, 81, 82, 83, 84, 85, 86, 87, 88, 89, 90, 91, 92, 93, 94, 95, 96, 97]) dX1_init_41 w_cl_X1_29 (by decide) (by decide) rfl (sub_hu hu 6 (by decide +kernel)) (cel_15 rfl) (fun j id h => by
    have hj : j < 42 := (List.getElem?_eq_some_iff.mp h).1
    have h2 : [56, 57, 58, 59, 60, 61, 62, 63, 64, 65, 66, 67, 68, 69, 70, 71, 72, 73, 74, 75, 76, 77, 78, 79, 80, 81, 82, 83, 84, 85, 86, 87, 88, 89, 90, 91, 92, 93, 94, 95, 96, 97][j]? = some (srf 55 j) := sr_55 j hj
    rw [h] at h2
    exact (Option.some.inj h2).symm) (fun id h => c0_55 E id h) ?_
  refine WK.put (fs' := [.ref (E.2.1 53), .ref (E.2.1 39), .int (Int32.ofInt 0), .ref (E.2.1 54), .ref (E.2.1 55), .null]) cb_X1 dX1_init_45 rfl rfl (j := 4) (by decide) w_fl_X1_31 (by show 4 < 6; omega) rfl rfl rfl ?_
  refine WK.aload_n dX1_init_48 rfl ?_
  refine WK.bipush dX1_init_49 (by decide) ?_
  refine WK.newI (id := 98) (N := 6) dX1_init_51 (by decide) (hu 49 _ rfl) (C0_i rfl (fun _ => rfl)) ?_
  refine WK.put (fs' := [.ref (E.2.1 53), .ref (E.2.1 39), .int (Int32.ofInt 0), .ref (E.2.1 54), .ref (E.2.1 55), .ref (E.2.1 98)]) cb_X1 dX1_init_53 rfl rfl (j := 5) (by decide) w_fl_X1_34 (by show 5 < 6; omega) rfl rfl rfl ?_
  refine WK.done ⟨dX1_init_56, rfl, fun id hid => ?_⟩
  rcases (show id = 52 ∨ id ∈ ([53, 39, 40, 41, 54, 55, 56, 57, 58, 59, 60, 61, 62, 63, 64, 65, 66, 67, 68, 69, 70, 71, 72, 73, 74, 75, 76, 77, 78, 79, 80, 81, 82, 83, 84, 85, 86, 87, 88, 89, 90, 91, 92, 93, 94, 95, 96, 97, 98] : List Nat) from (by decide +kernel : ∀ id ∈ ([52, 53, 39, 40, 41, 54, 55, 56, 57, 58, 59, 60, 61, 62, 63, 64, 65, 66, 67, 68, 69, 70, 71, 72, 73, 74, 75, 76, 77, 78, 79, 80, 81, 82, 83, 84, 85, 86, 87, 88, 89, 90, 91, 92, 93, 94, 95, 96, 97, 98] : List Nat), id = 52 ∨ id ∈ ([53, 39, 40, 41, 54, 55, 56, 57, 58, 59, 60, 61, 62, 63, 64, 65, 66, 67, 68, 69, 70, 71, 72, 73, 74, 75, 76, 77, 78, 79, 80, 81, 82, 83, 84, 85, 86, 87, 88, 89, 90, 91, 92, 93, 94, 95, 96, 97, 98] : List Nat)) id hid) with rfl | h
  · exact Or.inr ⟨_, List.mem_cons_self, fun H h => by rw [me_52 E]; exact h⟩
  · exact Or.inl h
theorem sr_107 : ∀ j : Nat, j < 8 → ([108, 109, 110, 111, 112, 113, 114, 115] : List Nat)[j]? = some (srf 107 j) := by decide +kernel
theorem sh_107 : ∀ id ∈ ([108, 109, 110, 111, 112, 113, 114, 115] : List Nat), shp id = (11, 18) ∧ id ≠ 103 ∧ id ≠ 135 ∧ id ≠ 52 ∧ id ≠ 42 ∧ id < 167 := by decide +kernel
theorem c0_107 (E : EN) : ∀ id ∈ ([108, 109, 110, 111, 112, 113, 114, 115] : List Nat), C0 E id = .inl (E.2.2 1, 18, .inr (.inl (fun _ => 0))) := fun id h => C0_l (sh_107 id h).1 (M0_z (sh_107 id h).2)
theorem sr_116 : ∀ j : Nat, j < 8 → ([117, 118, 119, 120, 121, 122, 123, 124] : List Nat)[j]? = some (srf 116 j) := by decide +kernel
theorem sh_116 : ∀ id ∈ ([117, 118, 119, 120, 121, 122, 123, 124] : List Nat), shp id = (11, 28) ∧ id ≠ 103 ∧ id ≠ 135 ∧ id ≠ 52 ∧ id ≠ 42 ∧ id < 167 := by decide +kernel
theorem c0_116 (E : EN) : ∀ id ∈ ([117, 118, 119, 120, 121, 122, 123, 124] : List Nat), C0 E id = .inl (E.2.2 1, 28, .inr (.inl (fun _ => 0))) := fun id h => C0_l (sh_116 id h).1 (M0_z (sh_116 id h).2)
theorem sr_125 : ∀ j : Nat, j < 8 → ([126, 127, 128, 129, 130, 131, 132, 133] : List Nat)[j]? = some (srf 125 j) := by decide +kernel
theorem sh_125 : ∀ id ∈ ([126, 127, 128, 129, 130, 131, 132, 133] : List Nat), shp id = (11, 7) ∧ id ≠ 103 ∧ id ≠ 135 ∧ id ≠ 52 ∧ id ≠ 42 ∧ id < 167 := by decide +kernel
theorem c0_125 (E : EN) : ∀ id ∈ ([126, 127, 128, 129, 130, 131, 132, 133] : List Nat), C0 E id = .inl (E.2.2 1, 7, .inr (.inl (fun _ => 0))) := fun id h => C0_l (sh_125 id h).1 (M0_z (sh_125 id h).2)
theorem me_103 (E : EN) : C0 E 103 = .inr (5, [.ref (E.2.1 33), .ref (E.2.1 104), .ref (E.2.1 105), .ref (E.2.1 106), .ref (E.2.1 107), .ref (E.2.1 116), .ref (E.2.1 125), .ref (E.2.1 134)]) := rfl
theorem k_X5a : CC 2 m_X5_init 5 [103, 33, 34, 35, 104, 105, 106, 107, 108, 109, 110, 111, 112, 113, 114, 115, 116, 117, 118, 119, 120, 121, 122, 123, 124, 125, 126, 127, 128, 129, 130, 131, 132, 133, 134] 34 778 := by
  refine CC.ofWK (id0 := 103) (by decide +kernel) (by show 1 ≤ 1; omega) rfl rfl (fun E q hu => ?_)
  refine WK.re (ls' := [vR 103]) (mc' := 1 + 2 + (1 + (1 + (1 + (1 + 8 + (1 + 8 + (1 + 8 + (1 + (0))))))))) (ms' := 4 + 259 + (7 + (28 + (28 + (8 + 8 * 18 + (8 + 8 * 28 + (8 + 8 * 7 + (4 + (0))))))))) rfl rfl (by decide +kernel) (by decide +kernel) ?_
  refine WK.aload_n dX5_init_0 rfl ?_
  refine WK.objInit dX5_init_1 w_ml_X5_3 (by decide) ?_
  refine WK.aload_n dX5_init_4 rfl ?_
  refine WK.make (ids := [33, 34, 35]) (mc' := 2) (ms' := 259) cb_X6 dX5_init_5 dX5_init_8 dX5_init_9 w_cl_X5_9 mi_X5_11 (k_X6 11 (by decide)) (sub_hu hu 1 (by decide +kernel)) rfl (by decide) (by decide) ?_
  refine WK.re (n' := 4) rfl rfl rfl rfl ?_
  refine WK.put (fs' := [.ref (E.2.1 33), .null, .null, .null, .null, .null, .null, .null]) cb_X5 dX5_init_12 rfl rfl (j := 0) (by decide) w_fl_X5_12 (by show 0 < 8; omega) rfl rfl rfl ?_
  refine WK.aload_n dX5_init_15 rfl ?_
  refine WK.bipush dX5_init_16 (by decide) ?_
  refine WK.newI (id := 104) (N := 7) dX5_init_18 (by decide) (hu 4 _ rfl) (C0_i rfl (fun _ => rfl)) ?_
  refine WK.put (fs' := [.ref (E.2.1 33), .ref (E.2.1 104), .null, .null, .null, .null, .null, .null]) cb_X5 dX5_init_20 rfl rfl (j := 1) (by decide) w_fl_X5_18 (by show 1 < 8; omega) rfl rfl rfl ?_
  refine WK.aload_n dX5_init_23 rfl ?_
  refine WK.bipush dX5_init_24 (by decide) ?_
  refine WK.newI (id := 105) (N := 28) dX5_init_26 (by decide) (hu 5 _ rfl) (C0_i rfl (fun _ => rfl)) ?_
  refine WK.put (fs' := [.ref (E.2.1 33), .ref (E.2.1 104), .ref (E.2.1 105), .null, .null, .null, .null, .null]) cb_X5 dX5_init_28 rfl rfl (j := 2) (by decide) w_fl_X5_22 (by show 2 < 8; omega) rfl rfl rfl ?_
  refine WK.aload_n dX5_init_31 rfl ?_
  refine WK.bipush dX5_init_32 (by decide) ?_
  refine WK.newI (id := 106) (N := 28) dX5_init_34 (by decide) (hu 6 _ rfl) (C0_i rfl (fun _ => rfl)) ?_
  refine WK.put (fs' := [.ref (E.2.1 33), .ref (E.2.1 104), .ref (E.2.1 105), .ref (E.2.1 106), .null, .null, .null, .null]) cb_X5 dX5_init_36 rfl rfl (j := 3) (by decide) w_fl_X5_25 (by show 3 < 8; omega) rfl rfl rfl ?_
  refine WK.aload_n dX5_init_39 rfl ?_
  refine WK.bipush dX5_init_40 (by decide) ?_
  refine WK.bipush dX5_init_42 (by decide) ?_
  refine WK.mnaL (ido := 107) (N := 8) (K := 18) (ids := [108, 109, 110, 111, 112, 113, 114, 115]) dX5_init_44 w_cl_X5_28 (by decide) (by decide) rfl (sub_hu hu 7 (by decide +kernel)) (cel_14 rfl) (fun j id h => by
    have hj : j < 8 := (List.getElem?_eq_some_iff.mp h).1
    have h2 : [108, 109, 110, 111, 112, 113, 114, 115][j]? = some (srf 107 j) := sr_107 j hj
    rw [h] at h2
    exact (Option.some.inj h2).symm) (fun id h => c0_107 E id h) ?_
  refine WK.put (fs' := [.ref (E.2.1 33), .ref (E.2.1 104), .ref (E.2.1 105), .ref (E.2.1 106), .ref (E.2.1 107), .null, .null, .null]) cb_X5 dX5_init_48 rfl rfl (j := 4) (by decide) w_fl_X5_30 (by show 4 < 8; omega) rfl rfl rfl ?_
  refine WK.aload_n dX5_init_51 rfl ?_
  refine WK.bipush dX5_init_52 (by decide) ?_
  refine WK.bipush dX5_init_54 (by decide) ?_
  refine WK.mnaL (ido := 116) (N := 8) (K := 28) (ids := [117, 118, 119, 120, 121, 122, 123, 124]) dX5_init_56 w_cl_X5_28 (by decide) (by decide) rfl (sub_hu hu 16 (by decide +kernel)) (cel_14 rfl) (fun j id h => by
    have hj : j < 8 := (List.getElem?_eq_some_iff.mp h).1
    have h2 : [117, 118, 119, 120, 121, 122, 123, 124][j]? = some (srf 116 j) := sr_116 j hj
    rw [h] at h2
    exact (Option.some.inj h2).symm) (fun id h => c0_116 E id h) ?_
  refine WK.put (fs' := [.ref (E.2.1 33), .ref (E.2.1 104), .ref (E.2.1 105), .ref (E.2.1 106), .ref (E.2.1 107), .ref (E.2.1 116), .null, .null]) cb_X5 dX5_init_60 rfl rfl (j := 5) (by decide) w_fl_X5_33 (by show 5 < 8; omega) rfl rfl rfl ?_
  refine WK.aload_n dX5_init_63 rfl ?_
  refine WK.bipush dX5_init_64 (by decide) ?_
  refine WK.bipush dX5_init_66 (by decide) ?_
  refine WK.mnaL (ido := 125) (N := 8) (K := 7) (ids := [126, 127, 128, 129, 130, 131, 132, 133]) dX5_init_68 w_cl_X5_28 (by decide) (by decide) rfl (sub_hu hu 25 (by decide +kernel)) (cel_14 rfl) (fun j id h => by
    have hj : j < 8 := (List.getElem?_eq_some_iff.mp h).1
    have h2 : [126, 127, 128, 129, 130, 131, 132, 133][j]? = some (srf 125 j) := sr_125 j hj
    rw [h] at h2
    exact (Option.some.inj h2).symm) (fun id h => c0_125 E id h) ?_
  refine WK.put (fs' := [.ref (E.2.1 33), .ref (E.2.1 104), .ref (E.2.1 105), .ref (E.2.1 106), .ref (E.2.1 107), .ref (E.2.1 116), .ref (E.2.1 125), .null]) cb_X5 dX5_init_72 rfl rfl (j := 6) (by decide) w_fl_X5_36 (by show 6 < 8; omega) rfl rfl rfl ?_
  refine WK.aload_n dX5_init_75 rfl ?_
  refine WK.iconst dX5_init_76 ?_
  refine WK.newI (id := 134) (N := 4) dX5_init_77 (by decide) (hu 34 _ rfl) (C0_i rfl (fun _ => rfl)) ?_
  refine WK.put (fs' := [.ref (E.2.1 33), .ref (E.2.1 104), .ref (E.2.1 105), .ref (E.2.1 106), .ref (E.2.1 107), .ref (E.2.1 116), .ref (E.2.1 125), .ref (E.2.1 134)]) cb_X5 dX5_init_79 rfl rfl (j := 7) (by decide) w_fl_X5_39 (by show 7 < 8; omega) rfl rfl rfl ?_
  refine WK.done ⟨dX5_init_82, rfl, fun id hid => ?_⟩
  rcases (show id = 103 ∨ id ∈ ([33, 34, 35, 104, 105, 106, 107, 108, 109, 110, 111, 112, 113, 114, 115, 116, 117, 118, 119, 120, 121, 122, 123, 124, 125, 126, 127, 128, 129, 130, 131, 132, 133, 134] : List Nat) from (by decide +kernel : ∀ id ∈ ([103, 33, 34, 35, 104, 105, 106, 107, 108, 109, 110, 111, 112, 113, 114, 115, 116, 117, 118, 119, 120, 121, 122, 123, 124, 125, 126, 127, 128, 129, 130, 131, 132, 133, 134] : List Nat), id = 103 ∨ id ∈ ([33, 34, 35, 104, 105, 106, 107, 108, 109, 110, 111, 112, 113, 114, 115, 116, 117, 118, 119, 120, 121, 122, 123, 124, 125, 126, 127, 128, 129, 130, 131, 132, 133, 134] : List Nat)) id hid) with rfl | h
  · exact Or.inr ⟨_, List.mem_cons_self, fun H h => by rw [me_103 E]; exact h⟩
  · exact Or.inl h
theorem sr_139 : ∀ j : Nat, j < 8 → ([140, 141, 142, 143, 144, 145, 146, 147] : List Nat)[j]? = some (srf 139 j) := by decide +kernel
theorem sh_139 : ∀ id ∈ ([140, 141, 142, 143, 144, 145, 146, 147] : List Nat), shp id = (11, 18) ∧ id ≠ 103 ∧ id ≠ 135 ∧ id ≠ 52 ∧ id ≠ 42 ∧ id < 167 := by decide +kernel
theorem c0_139 (E : EN) : ∀ id ∈ ([140, 141, 142, 143, 144, 145, 146, 147] : List Nat), C0 E id = .inl (E.2.2 1, 18, .inr (.inl (fun _ => 0))) := fun id h => C0_l (sh_139 id h).1 (M0_z (sh_139 id h).2)
theorem sr_148 : ∀ j : Nat, j < 8 → ([149, 150, 151, 152, 153, 154, 155, 156] : List Nat)[j]? = some (srf 148 j) := by decide +kernel
theorem sh_148 : ∀ id ∈ ([149, 150, 151, 152, 153, 154, 155, 156] : List Nat), shp id = (11, 28) ∧ id ≠ 103 ∧ id ≠ 135 ∧ id ≠ 52 ∧ id ≠ 42 ∧ id < 167 := by decide +kernel
theorem c0_148 (E : EN) : ∀ id ∈ ([149, 150, 151, 152, 153, 154, 155, 156] : List Nat), C0 E id = .inl (E.2.2 1, 28, .inr (.inl (fun _ => 0))) := fun id h => C0_l (sh_148 id h).1 (M0_z (sh_148 id h).2)
theorem sr_157 : ∀ j : Nat, j < 8 → ([158, 159, 160, 161, 162, 163, 164, 165] : List Nat)[j]? = some (srf 157 j) := by decide +kernel
theorem sh_157 : ∀ id ∈ ([158, 159, 160, 161, 162, 163, 164, 165] : List Nat), shp id = (11, 7) ∧ id ≠ 103 ∧ id ≠ 135 ∧ id ≠ 52 ∧ id ≠ 42 ∧ id < 167 := by decide +kernel
theorem c0_157 (E : EN) : ∀ id ∈ ([158, 159, 160, 161, 162, 163, 164, 165] : List Nat), C0 E id = .inl (E.2.2 1, 7, .inr (.inl (fun _ => 0))) := fun id h => C0_l (sh_157 id h).1 (M0_z (sh_157 id h).2)
theorem me_135 (E : EN) : C0 E 135 = .inr (5, [.ref (E.2.1 36), .ref (E.2.1 136), .ref (E.2.1 137), .ref (E.2.1 138), .ref (E.2.1 139), .ref (E.2.1 148), .ref (E.2.1 157), .ref (E.2.1 166)]) := rfl
theorem k_X5b : CC 2 m_X5_init 5 [135, 36, 37, 38, 136, 137, 138, 139, 140, 141, 142, 143, 144, 145, 146, 147, 148, 149, 150, 151, 152, 153, 154, 155, 156, 157, 158, 159, 160, 161, 162, 163, 164, 165, 166] 34 778 := by
  refine CC.ofWK (id0 := 135) (by decide +kernel) (by show 1 ≤ 1; omega) rfl rfl (fun E q hu => ?_)
  refine WK.re (ls' := [vR 135]) (mc' := 1 + 2 + (1 + (1 + (1 + (1 + 8 + (1 + 8 + (1 + 8 + (1 + (0))))))))) (ms' := 4 + 259 + (7 + (28 + (28 + (8 + 8 * 18 + (8 + 8 * 28 + (8 + 8 * 7 + (4 + (0))))))))) rfl rfl (by decide +kernel) (by decide +kernel) ?_
  refine WK.aload_n dX5_init_0 rfl ?_
  refine WK.objInit dX5_init_1 w_ml_X5_3 (by decide) ?_
  refine WK.aload_n dX5_init_4 rfl ?_
  refine WK.make (ids := [36, 37, 38]) (mc' := 2) (ms' := 259) cb_X6 dX5_init_5 dX5_init_8 dX5_init_9 w_cl_X5_9 mi_X5_11 (k_X6 12 (by decide)) (sub_hu hu 1 (by decide +kernel)) rfl (by decide) (by decide) ?_
  refine WK.re (n' := 4) rfl rfl rfl rfl ?_
  refine WK.put (fs' := [.ref (E.2.1 36), .null, .null, .null, .null, .null, .null, .null]) cb_X5 dX5_init_12 rfl rfl (j := 0) (by decide) w_fl_X5_12 (by show 0 < 8; omega) rfl rfl rfl ?_
  refine WK.aload_n dX5_init_15 rfl ?_
  refine WK.bipush dX5_init_16 (by decide) ?_
  refine WK.newI (id := 136) (N := 7) dX5_init_18 (by decide) (hu 4 _ rfl) (C0_i rfl (fun _ => rfl)) ?_
  refine WK.put (fs' := [.ref (E.2.1 36), .ref (E.2.1 136), .null, .null, .null, .null, .null, .null]) cb_X5 dX5_init_20 rfl rfl (j := 1) (by decide) w_fl_X5_18 (by show 1 < 8; omega) rfl rfl rfl ?_
  refine WK.aload_n dX5_init_23 rfl ?_
  refine WK.bipush dX5_init_24 (by decide) ?_
  refine WK.newI (id := 137) (N := 28) dX5_init_26 (by decide) (hu 5 _ rfl) (C0_i rfl (fun _ => rfl)) ?_
  refine WK.put (fs' := [.ref (E.2.1 36), .ref (E.2.1 136), .ref (E.2.1 137), .null, .null, .null, .null, .null]) cb_X5 dX5_init_28 rfl rfl (j := 2) (by decide) w_fl_X5_22 (by show 2 < 8; omega) rfl rfl rfl ?_
  refine WK.aload_n dX5_init_31 rfl ?_
  refine WK.bipush dX5_init_32 (by decide) ?_
  refine WK.newI (id := 138) (N := 28) dX5_init_34 (by decide) (hu 6 _ rfl) (C0_i rfl (fun _ => rfl)) ?_
  refine WK.put (fs' := [.ref (E.2.1 36), .ref (E.2.1 136), .ref (E.2.1 137), .ref (E.2.1 138), .null, .null, .null, .null]) cb_X5 dX5_init_36 rfl rfl (j := 3) (by decide) w_fl_X5_25 (by show 3 < 8; omega) rfl rfl rfl ?_
  refine WK.aload_n dX5_init_39 rfl ?_
  refine WK.bipush dX5_init_40 (by decide) ?_
  refine WK.bipush dX5_init_42 (by decide) ?_
  refine WK.mnaL (ido := 139) (N := 8) (K := 18) (ids := [140, 141, 142, 143, 144, 145, 146, 147]) dX5_init_44 w_cl_X5_28 (by decide) (by decide) rfl (sub_hu hu 7 (by decide +kernel)) (cel_14 rfl) (fun j id h => by
    have hj : j < 8 := (List.getElem?_eq_some_iff.mp h).1
    have h2 : [140, 141, 142, 143, 144, 145, 146, 147][j]? = some (srf 139 j) := sr_139 j hj
    rw [h] at h2
    exact (Option.some.inj h2).symm) (fun id h => c0_139 E id h) ?_
  refine WK.put (fs' := [.ref (E.2.1 36), .ref (E.2.1 136), .ref (E.2.1 137), .ref (E.2.1 138), .ref (E.2.1 139), .null, .null, .null]) cb_X5 dX5_init_48 rfl rfl (j := 4) (by decide) w_fl_X5_30 (by show 4 < 8; omega) rfl rfl rfl ?_
  refine WK.aload_n dX5_init_51 rfl ?_
  refine WK.bipush dX5_init_52 (by decide) ?_
  refine WK.bipush dX5_init_54 (by decide) ?_
  refine WK.mnaL (ido := 148) (N := 8) (K := 28) (ids := [149, 150, 151, 152, 153, 154, 155, 156]) dX5_init_56 w_cl_X5_28 (by decide) (by decide) rfl (sub_hu hu 16 (by decide +kernel)) (cel_14 rfl) (fun j id h => by
    have hj : j < 8 := (List.getElem?_eq_some_iff.mp h).1
    have h2 : [149, 150, 151, 152, 153, 154, 155, 156][j]? = some (srf 148 j) := sr_148 j hj
    rw [h] at h2
    exact (Option.some.inj h2).symm) (fun id h => c0_148 E id h) ?_
  refine WK.put (fs' := [.ref (E.2.1 36), .ref (E.2.1 136), .ref (E.2.1 137), .ref (E.2.1 138), .ref (E.2.1 139), .ref (E.2.1 148), .null, .null]) cb_X5 dX5_init_60 rfl rfl (j := 5) (by decide) w_fl_X5_33 (by show 5 < 8; omega) rfl rfl rfl ?_
  refine WK.aload_n dX5_init_63 rfl ?_
  refine WK.bipush dX5_init_64 (by decide) ?_
  refine WK.bipush dX5_init_66 (by decide) ?_
  refine WK.mnaL (ido := 157) (N := 8) (K := 7) (ids := [158, 159, 160, 161, 162, 163, 164, 165]) dX5_init_68 w_cl_X5_28 (by decide) (by decide) rfl (sub_hu hu 25 (by decide +kernel)) (cel_14 rfl) (fun j id h => by
    have hj : j < 8 := (List.getElem?_eq_some_iff.mp h).1
    have h2 : [158, 159, 160, 161, 162, 163, 164, 165][j]? = some (srf 157 j) := sr_157 j hj
    rw [h] at h2
    exact (Option.some.inj h2).symm) (fun id h => c0_157 E id h) ?_
  refine WK.put (fs' := [.ref (E.2.1 36), .ref (E.2.1 136), .ref (E.2.1 137), .ref (E.2.1 138), .ref (E.2.1 139), .ref (E.2.1 148), .ref (E.2.1 157), .null]) cb_X5 dX5_init_72 rfl rfl (j := 6) (by decide) w_fl_X5_36 (by show 6 < 8; omega) rfl rfl rfl ?_
  refine WK.aload_n dX5_init_75 rfl ?_
  refine WK.iconst dX5_init_76 ?_
  refine WK.newI (id := 166) (N := 4) dX5_init_77 (by decide) (hu 34 _ rfl) (C0_i rfl (fun _ => rfl)) ?_
  refine WK.put (fs' := [.ref (E.2.1 36), .ref (E.2.1 136), .ref (E.2.1 137), .ref (E.2.1 138), .ref (E.2.1 139), .ref (E.2.1 148), .ref (E.2.1 157), .ref (E.2.1 166)]) cb_X5 dX5_init_79 rfl rfl (j := 7) (by decide) w_fl_X5_39 (by show 7 < 8; omega) rfl rfl rfl ?_
  refine WK.done ⟨dX5_init_82, rfl, fun id hid => ?_⟩
  rcases (show id = 135 ∨ id ∈ ([36, 37, 38, 136, 137, 138, 139, 140, 141, 142, 143, 144, 145, 146, 147, 148, 149, 150, 151, 152, 153, 154, 155, 156, 157, 158, 159, 160, 161, 162, 163, 164, 165, 166] : List Nat) from (by decide +kernel : ∀ id ∈ ([135, 36, 37, 38, 136, 137, 138, 139, 140, 141, 142, 143, 144, 145, 146, 147, 148, 149, 150, 151, 152, 153, 154, 155, 156, 157, 158, 159, 160, 161, 162, 163, 164, 165, 166] : List Nat), id = 135 ∨ id ∈ ([36, 37, 38, 136, 137, 138, 139, 140, 141, 142, 143, 144, 145, 146, 147, 148, 149, 150, 151, 152, 153, 154, 155, 156, 157, 158, 159, 160, 161, 162, 163, 164, 165, 166] : List Nat)) id hid) with rfl | h
  · exact Or.inr ⟨_, List.mem_cons_self, fun H h => by rw [me_135 E]; exact h⟩
  · exact Or.inl h
theorem me_99 (E : EN) : C0 E 99 = .inr (3, [.ref (E.2.1 100), .ref (E.2.1 101), .ref (E.2.1 103), .ref (E.2.1 135), .ref (E.2.1 102)]) := rfl
theorem k_X3 : CC 3 m_X3_init 3 [99, 100, 101, 103, 33, 34, 35, 104, 105, 106, 107, 108, 109, 110, 111, 112, 113, 114, 115, 116, 117, 118, 119, 120, 121, 122, 123, 124, 125, 126, 127, 128, 129, 130, 131, 132, 133, 134, 135, 36, 37, 38, 136, 137, 138, 139, 140, 141, 142, 143, 144, 145, 146, 147, 148, 149, 150, 151, 152, 153, 154, 155, 156, 157, 158, 159, 160, 161, 162, 163, 164, 165, 166, 102] 73 1614 := by
  refine CC.ofWK (id0 := 99) (by decide +kernel) (by show 1 ≤ 1; omega) rfl rfl (fun E q hu => ?_)
  refine WK.re (ls' := [vR 99]) (mc' := 1 + (1 + (1 + 34 + (1 + 34 + (1 + (0)))))) (ms' := 7 + (28 + (8 + 778 + (8 + 778 + (7 + (0)))))) rfl rfl (by decide +kernel) (by decide +kernel) ?_
  refine WK.aload_n dX3_init_0 rfl ?_
  refine WK.objInit dX3_init_1 w_ml_X3_3 (by decide) ?_
  refine WK.aload_n dX3_init_4 rfl ?_
  refine WK.bipush dX3_init_5 (by decide) ?_
  refine WK.newI (id := 100) (N := 7) dX3_init_7 (by decide) (hu 1 _ rfl) (C0_i rfl (fun _ => rfl)) ?_
  refine WK.put (fs' := [.ref (E.2.1 100), .null, .null, .null, .null]) cb_X3 dX3_init_9 rfl rfl (j := 0) (by decide) w_fl_X3_9 (by show 0 < 5; omega) rfl rfl rfl ?_
  refine WK.aload_n dX3_init_12 rfl ?_
  refine WK.bipush dX3_init_13 (by decide) ?_
  refine WK.newI (id := 101) (N := 28) dX3_init_15 (by decide) (hu 2 _ rfl) (C0_i rfl (fun _ => rfl)) ?_
  refine WK.put (fs' := [.ref (E.2.1 100), .ref (E.2.1 101), .null, .null, .null]) cb_X3 dX3_init_17 rfl rfl (j := 1) (by decide) w_fl_X3_15 (by show 1 < 5; omega) rfl rfl rfl ?_
  refine WK.aload_n dX3_init_20 rfl ?_
  refine WK.make (ids := [103, 33, 34, 35, 104, 105, 106, 107, 108, 109, 110, 111, 112, 113, 114, 115, 116, 117, 118, 119, 120, 121, 122, 123, 124, 125, 126, 127, 128, 129, 130, 131, 132, 133, 134]) (mc' := 34) (ms' := 778) cb_X5 dX3_init_21 dX3_init_24 dX3_init_25 w_cl_X3_18 mi_X3_20 k_X5a (sub_hu hu 3 (by decide +kernel)) rfl (by decide) (by decide) ?_
  refine WK.re (n' := 38) rfl rfl rfl rfl ?_
  refine WK.put (fs' := [.ref (E.2.1 100), .ref (E.2.1 101), .ref (E.2.1 103), .null, .null]) cb_X3 dX3_init_28 rfl rfl (j := 2) (by decide) w_fl_X3_21 (by show 2 < 5; omega) rfl rfl rfl ?_
  refine WK.aload_n dX3_init_31 rfl ?_
  refine WK.make (ids := [135, 36, 37, 38, 136, 137, 138, 139, 140, 141, 142, 143, 144, 145, 146, 147, 148, 149, 150, 151, 152, 153, 154, 155, 156, 157, 158, 159, 160, 161, 162, 163, 164, 165, 166]) (mc' := 34) (ms' := 778) cb_X5 dX3_init_32 dX3_init_35 dX3_init_36 w_cl_X3_18 mi_X3_20 k_X5b (sub_hu hu 38 (by decide +kernel)) rfl (by decide) (by decide) ?_
  refine WK.re (n' := 73) rfl rfl rfl rfl ?_
  refine WK.put (fs' := [.ref (E.2.1 100), .ref (E.2.1 101), .ref (E.2.1 103), .ref (E.2.1 135), .null]) cb_X3 dX3_init_39 rfl rfl (j := 3) (by decide) w_fl_X3_25 (by show 3 < 5; omega) rfl rfl rfl ?_
  refine WK.aload_n dX3_init_42 rfl ?_
  refine WK.bipush dX3_init_43 (by decide) ?_
  refine WK.newI (id := 102) (N := 7) dX3_init_45 (by decide) (hu 73 _ rfl) (C0_i rfl (fun _ => rfl)) ?_
  refine WK.put (fs' := [.ref (E.2.1 100), .ref (E.2.1 101), .ref (E.2.1 103), .ref (E.2.1 135), .ref (E.2.1 102)]) cb_X3 dX3_init_47 rfl rfl (j := 4) (by decide) w_fl_X3_28 (by show 4 < 5; omega) rfl rfl rfl ?_
  refine WK.done ⟨dX3_init_50, rfl, fun id hid => ?_⟩
  rcases (show id = 99 ∨ id ∈ ([100, 101, 103, 33, 34, 35, 104, 105, 106, 107, 108, 109, 110, 111, 112, 113, 114, 115, 116, 117, 118, 119, 120, 121, 122, 123, 124, 125, 126, 127, 128, 129, 130, 131, 132, 133, 134, 135, 36, 37, 38, 136, 137, 138, 139, 140, 141, 142, 143, 144, 145, 146, 147, 148, 149, 150, 151, 152, 153, 154, 155, 156, 157, 158, 159, 160, 161, 162, 163, 164, 165, 166, 102] : List Nat) from (by decide +kernel : ∀ id ∈ ([99, 100, 101, 103, 33, 34, 35, 104, 105, 106, 107, 108, 109, 110, 111, 112, 113, 114, 115, 116, 117, 118, 119, 120, 121, 122, 123, 124, 125, 126, 127, 128, 129, 130, 131, 132, 133, 134, 135, 36, 37, 38, 136, 137, 138, 139, 140, 141, 142, 143, 144, 145, 146, 147, 148, 149, 150, 151, 152, 153, 154, 155, 156, 157, 158, 159, 160, 161, 162, 163, 164, 165, 166, 102] : List Nat), id = 99 ∨ id ∈ ([100, 101, 103, 33, 34, 35, 104, 105, 106, 107, 108, 109, 110, 111, 112, 113, 114, 115, 116, 117, 118, 119, 120, 121, 122, 123, 124, 125, 126, 127, 128, 129, 130, 131, 132, 133, 134, 135, 36, 37, 38, 136, 137, 138, 139, 140, 141, 142, 143, 144, 145, 146, 147, 148, 149, 150, 151, 152, 153, 154, 155, 156, 157, 158, 159, 160, 161, 162, 163, 164, 165, 166, 102] : List Nat)) id hid) with rfl | h
  · exact Or.inr ⟨_, List.mem_cons_self, fun H h => by rw [me_99 E]; exact h⟩
  · exact Or.inl h
theorem me_42 (E : EN) : C0 E 42 = .inr (7, [.ref (E.2.1 0), .ref (E.2.1 43), .ref (E.2.1 45), .ref (E.2.1 46), .ref (E.2.1 47), .ref (E.2.1 49), .ref (E.2.1 52), .ref (E.2.1 99), .int (Int32.ofInt 0), .int (Int32.ofInt 0), .int (Int32.ofInt (-1)), .int (Int32.ofInt 0)]) := rfl
theorem k_X7 : CC 4 m_X7_init 7 [42, 0, 1, 2, 43, 44, 9, 10, 11, 12, 13, 14, 15, 16, 17, 18, 19, 20, 21, 22, 23, 24, 25, 26, 27, 28, 29, 30, 31, 32, 45, 46, 47, 48, 49, 50, 51, 52, 53, 39, 40, 41, 54, 55, 56, 57, 58, 59, 60, 61, 62, 63, 64, 65, 66, 67, 68, 69, 70, 71, 72, 73, 74, 75, 76, 77, 78, 79, 80, 81, 82, 83, 84, 85, 86, 87, 88, 89, 90, 91, 92, 93, 94, 95, 96, 97, 98, 99, 100, 101, 103, 33, 34, 35, 104, 105, 106, 107, 108, 109, 110, 111, 112, 113, 114, 115, 116, 117, 118, 119, 120, 121, 122, 123, 124, 125, 126, 127, 128, 129, 130, 131, 132, 133, 134, 135, 36, 37, 38, 136, 137, 138, 139, 140, 141, 142, 143, 144, 145, 146, 147, 148, 149, 150, 151, 152, 153, 154, 155, 156, 157, 158, 159, 160, 161, 162, 163, 164, 165, 166, 102, 3, 4, 5, 6, 7, 8] 166 5504 := by
  refine CC.ofWK (id0 := 42) (by decide +kernel) (by show 1 ≤ 2; omega) rfl rfl (fun E q hu => ?_)
  refine WK.re (ls' := [vR 42, vU]) (mc' := 1 + 2 + (1 + 25 + (1 + (1 + (1 + 1 + (1 + 2 + (1 + 49 + (1 + 73 + (1 + 2 + (1 + 2 + (0))))))))))) (ms' := 4 + 259 + (3 + 2112 + (2 + (2 + (2 + 300 + (2 + 72 + (6 + 595 + (5 + 1614 + (4 + 259 + (4 + 259 + (0))))))))))) rfl rfl (by decide +kernel) (by decide +kernel) ?_
  refine WK.aload_n dX7_init_0 rfl ?_
  refine WK.objInit dX7_init_1 w_ml_X7_1 (by decide) ?_
  refine WK.aload_n dX7_init_4 rfl ?_
  refine WK.make (ids := [0, 1, 2]) (mc' := 2) (ms' := 259) cb_X6 dX7_init_5 dX7_init_8 dX7_init_9 w_cl_X7_7 mi_X7_9 (k_X6 0 (by decide)) (sub_hu hu 1 (by decide +kernel)) rfl (by decide) (by decide) ?_
  refine WK.re (n' := 4) rfl rfl rfl rfl ?_
  refine WK.put (fs' := [.ref (E.2.1 0), .null, .null, .null, .null, .null, .null, .null, .int 0, .int 0, .int 0, .int 0]) cb_X7 dX7_init_12 rfl rfl (j := 0) (by decide) w_fl_X7_10 (by show 0 < 12; omega) rfl rfl rfl ?_
  refine WK.aload_n dX7_init_15 rfl ?_
  refine WK.make (ids := [43, 44, 9, 10, 11, 12, 13, 14, 15, 16, 17, 18, 19, 20, 21, 22, 23, 24, 25, 26, 27, 28, 29, 30, 31, 32]) (mc' := 25) (ms' := 2112) cb_X2 dX7_init_16 dX7_init_19 dX7_init_20 w_cl_X7_16 mi_X7_18 k_X2 (sub_hu hu 4 (by decide +kernel)) rfl (by decide) (by decide) ?_
  refine WK.re (n' := 30) rfl rfl rfl rfl ?_
  refine WK.put (fs' := [.ref (E.2.1 0), .ref (E.2.1 43), .null, .null, .null, .null, .null, .null, .int 0, .int 0, .int 0, .int 0]) cb_X7 dX7_init_23 rfl rfl (j := 1) (by decide) w_fl_X7_19 (by show 1 < 12; omega) rfl rfl rfl ?_
  refine WK.aload_n dX7_init_26 rfl ?_
  refine WK.iconst dX7_init_27 ?_
  refine WK.newq (id := 45) (N := 2) dX7_init_28 w_cl_X7_7 (by decide) (hu 30 _ rfl) ?_
  refine WK.put (fs' := [.ref (E.2.1 0), .ref (E.2.1 43), .ref (E.2.1 45), .null, .null, .null, .null, .null, .int 0, .int 0, .int 0, .int 0]) cb_X7 dX7_init_31 rfl rfl (j := 2) (by decide) w_fl_X7_23 (by show 2 < 12; omega) rfl rfl rfl ?_
  refine WK.aload_n dX7_init_34 rfl ?_
  refine WK.iconst dX7_init_35 ?_
  refine WK.newZ (id := 46) (N := 2) dX7_init_36 (by decide) (hu 31 _ rfl) (C0_z rfl (fun _ => rfl)) ?_
  refine WK.put (fs' := [.ref (E.2.1 0), .ref (E.2.1 43), .ref (E.2.1 45), .ref (E.2.1 46), .null, .null, .null, .null, .int 0, .int 0, .int 0, .int 0]) cb_X7 dX7_init_38 rfl rfl (j := 3) (by decide) w_fl_X7_27 (by show 3 < 12; omega) rfl rfl rfl ?_
  refine WK.aload_n dX7_init_41 rfl ?_
  refine WK.make (ids := [47, 48]) (mc' := 1) (ms' := 300) cb_X4 dX7_init_42 dX7_init_45 dX7_init_46 w_cl_X7_31 mi_X7_33 k_X4 (sub_hu hu 32 (by decide +kernel)) rfl (by decide) (by decide) ?_
  refine WK.re (n' := 34) rfl rfl rfl rfl ?_
  refine WK.put (fs' := [.ref (E.2.1 0), .ref (E.2.1 43), .ref (E.2.1 45), .ref (E.2.1 46), .ref (E.2.1 47), .null, .null, .null, .int 0, .int 0, .int 0, .int 0]) cb_X7 dX7_init_49 rfl rfl (j := 4) (by decide) w_fl_X7_34 (by show 4 < 12; omega) rfl rfl rfl ?_
  refine WK.aload_n dX7_init_52 rfl ?_
  refine WK.make (ids := [49, 50, 51]) (mc' := 2) (ms' := 72) cb_X0 dX7_init_53 dX7_init_56 dX7_init_57 w_cl_X7_38 mi_X7_40 k_X0 (sub_hu hu 34 (by decide +kernel)) rfl (by decide) (by decide) ?_
  refine WK.re (n' := 37) rfl rfl rfl rfl ?_
  refine WK.put (fs' := [.ref (E.2.1 0), .ref (E.2.1 43), .ref (E.2.1 45), .ref (E.2.1 46), .ref (E.2.1 47), .ref (E.2.1 49), .null, .null, .int 0, .int 0, .int 0, .int 0]) cb_X7 dX7_init_60 rfl rfl (j := 5) (by decide) w_fl_X7_41 (by show 5 < 12; omega) rfl rfl rfl ?_
  refine WK.aload_n dX7_init_63 rfl ?_
  refine WK.make (ids := [52, 53, 39, 40, 41, 54, 55, 56, 57, 58, 59, 60, 61, 62, 63, 64, 65, 66, 67, 68, 69, 70, 71, 72, 73, 74, 75, 76, 77, 78, 79, 80, 81, 82, 83, 84, 85, 86, 87, 88, 89, 90, 91, 92, 93, 94, 95, 96, 97, 98]) (mc' := 49) (ms' := 595) cb_X1 dX7_init_64 dX7_init_67 dX7_init_68 w_cl_X7_45 mi_X7_47 k_X1 (sub_hu hu 37 (by decide +kernel)) rfl (by decide) (by decide) ?_
  refine WK.re (n' := 87) rfl rfl rfl rfl ?_
  refine WK.put (fs' := [.ref (E.2.1 0), .ref (E.2.1 43), .ref (E.2.1 45), .ref (E.2.1 46), .ref (E.2.1 47), .ref (E.2.1 49), .ref (E.2.1 52), .null, .int 0, .int 0, .int 0, .int 0]) cb_X7 dX7_init_71 rfl rfl (j := 6) (by decide) w_fl_X7_48 (by show 6 < 12; omega) rfl rfl rfl ?_
  refine WK.aload_n dX7_init_74 rfl ?_
  refine WK.make (ids := [99, 100, 101, 103, 33, 34, 35, 104, 105, 106, 107, 108, 109, 110, 111, 112, 113, 114, 115, 116, 117, 118, 119, 120, 121, 122, 123, 124, 125, 126, 127, 128, 129, 130, 131, 132, 133, 134, 135, 36, 37, 38, 136, 137, 138, 139, 140, 141, 142, 143, 144, 145, 146, 147, 148, 149, 150, 151, 152, 153, 154, 155, 156, 157, 158, 159, 160, 161, 162, 163, 164, 165, 166, 102]) (mc' := 73) (ms' := 1614) cb_X3 dX7_init_75 dX7_init_78 dX7_init_79 w_cl_X7_52 mi_X7_54 k_X3 (sub_hu hu 87 (by decide +kernel)) rfl (by decide) (by decide) ?_
  refine WK.re (n' := 161) rfl rfl rfl rfl ?_
  refine WK.put (fs' := [.ref (E.2.1 0), .ref (E.2.1 43), .ref (E.2.1 45), .ref (E.2.1 46), .ref (E.2.1 47), .ref (E.2.1 49), .ref (E.2.1 52), .ref (E.2.1 99), .int 0, .int 0, .int 0, .int 0]) cb_X7 dX7_init_82 rfl rfl (j := 7) (by decide) w_fl_X7_55 (by show 7 < 12; omega) rfl rfl rfl ?_
  refine WK.aload_n dX7_init_85 rfl ?_
  refine WK.iconst dX7_init_86 ?_
  refine WK.put (fs' := [.ref (E.2.1 0), .ref (E.2.1 43), .ref (E.2.1 45), .ref (E.2.1 46), .ref (E.2.1 47), .ref (E.2.1 49), .ref (E.2.1 52), .ref (E.2.1 99), .int (Int32.ofInt 0), .int 0, .int 0, .int 0]) cb_X7 dX7_init_87 rfl rfl (j := 8) (by decide) w_fl_X7_59 (by show 8 < 12; omega) rfl rfl rfl ?_
  refine WK.aload_n dX7_init_90 rfl ?_
  refine WK.iconst dX7_init_91 ?_
  refine WK.put (fs' := [.ref (E.2.1 0), .ref (E.2.1 43), .ref (E.2.1 45), .ref (E.2.1 46), .ref (E.2.1 47), .ref (E.2.1 49), .ref (E.2.1 52), .ref (E.2.1 99), .int (Int32.ofInt 0), .int (Int32.ofInt 0), .int 0, .int 0]) cb_X7 dX7_init_92 rfl rfl (j := 9) (by decide) w_fl_X7_63 (by show 9 < 12; omega) rfl rfl rfl ?_
  refine WK.aload_n dX7_init_95 rfl ?_
  refine WK.iconst dX7_init_96 ?_
  refine WK.put (fs' := [.ref (E.2.1 0), .ref (E.2.1 43), .ref (E.2.1 45), .ref (E.2.1 46), .ref (E.2.1 47), .ref (E.2.1 49), .ref (E.2.1 52), .ref (E.2.1 99), .int (Int32.ofInt 0), .int (Int32.ofInt 0), .int (Int32.ofInt (-1)), .int 0]) cb_X7 dX7_init_97 rfl rfl (j := 10) (by decide) w_fl_X7_67 (by show 10 < 12; omega) rfl rfl rfl ?_
  refine WK.aload_n dX7_init_100 rfl ?_
  refine WK.iconst dX7_init_101 ?_
  refine WK.put (fs' := [.ref (E.2.1 0), .ref (E.2.1 43), .ref (E.2.1 45), .ref (E.2.1 46), .ref (E.2.1 47), .ref (E.2.1 49), .ref (E.2.1 52), .ref (E.2.1 99), .int (Int32.ofInt 0), .int (Int32.ofInt 0), .int (Int32.ofInt (-1)), .int (Int32.ofInt 0)]) cb_X7 dX7_init_102 rfl rfl (j := 11) (by decide) w_fl_X7_70 (by show 11 < 12; omega) rfl rfl rfl ?_
  refine WK.iconst dX7_init_105 ?_
  refine WK.istore_n (lt := [vR 42, vI 0]) dX7_init_106 (by decide) rfl ?_
  refine WK.iload_n dX7_init_107 rfl ?_
  refine WK.iconst dX7_init_108 ?_
  refine WK.ge_f (tgt := 131) dX7_init_109 (by decide) (by decide) (by decide) (by decide) ?_
  refine WK.aload_n dX7_init_112 rfl ?_
  refine WK.get (v := vR 45) cb_X7 dX7_init_113 (j := 2) (by decide) w_fl_X7_23 rfl ?_
  refine WK.iload_n dX7_init_116 rfl ?_
  refine WK.make (ids := [3, 4, 5]) (mc' := 2) (ms' := 259) cb_X6 dX7_init_117 dX7_init_120 dX7_init_121 w_cl_X7_7 mi_X7_9 (k_X6 1 (by decide)) (sub_hu hu 161 (by decide +kernel)) rfl (by decide) (by decide) ?_
  refine WK.re (n' := 164) rfl rfl rfl rfl ?_
  refine WK.aast (f' := (va_up (fun _ => none) 0 (some (E.2.1 3)))) (k := 0) dX7_init_124 rfl (by decide) (by decide) (by decide +kernel) (cel_obj rfl (by decide)) rfl ?_
  refine WK.iinc (lt := [vR 42, vI 1]) dX7_init_125 rfl (by decide) rfl ?_
  refine WK.goto (tgt := 107) dX7_init_128 (by decide) ?_
  refine WK.iload_n dX7_init_107 rfl ?_
  refine WK.iconst dX7_init_108 ?_
  refine WK.ge_f (tgt := 131) dX7_init_109 (by decide) (by decide) (by decide) (by decide) ?_
  refine WK.aload_n dX7_init_112 rfl ?_
  refine WK.get (v := vR 45) cb_X7 dX7_init_113 (j := 2) (by decide) w_fl_X7_23 rfl ?_
  refine WK.iload_n dX7_init_116 rfl ?_
  refine WK.make (ids := [6, 7, 8]) (mc' := 2) (ms' := 259) cb_X6 dX7_init_117 dX7_init_120 dX7_init_121 w_cl_X7_7 mi_X7_9 (k_X6 2 (by decide)) (sub_hu hu 164 (by decide +kernel)) rfl (by decide) (by decide) ?_
  refine WK.re (n' := 167) rfl rfl rfl rfl ?_
  refine WK.aast (f' := (va_up (va_up (fun _ => none) 0 (some (E.2.1 3))) 1 (some (E.2.1 6)))) (k := 1) dX7_init_124 rfl (by decide) (by decide) (by decide +kernel) (cel_obj rfl (by decide)) rfl ?_
  refine WK.iinc (lt := [vR 42, vI 2]) dX7_init_125 rfl (by decide) rfl ?_
  refine WK.goto (tgt := 107) dX7_init_128 (by decide) ?_
  refine WK.iload_n dX7_init_107 rfl ?_
  refine WK.iconst dX7_init_108 ?_
  refine WK.ge_t (tgt := 131) dX7_init_109 (by decide) (by decide) (by decide) (by decide) ?_
  refine WK.done ⟨dX7_init_131, rfl, fun id hid => ?_⟩
  rcases (show id = 42 ∨ id = 45 ∨ id ∈ ([0, 1, 2, 43, 44, 9, 10, 11, 12, 13, 14, 15, 16, 17, 18, 19, 20, 21, 22, 23, 24, 25, 26, 27, 28, 29, 30, 31, 32, 46, 47, 48, 49, 50, 51, 52, 53, 39, 40, 41, 54, 55, 56, 57, 58, 59, 60, 61, 62, 63, 64, 65, 66, 67, 68, 69, 70, 71, 72, 73, 74, 75, 76, 77, 78, 79, 80, 81, 82, 83, 84, 85, 86, 87, 88, 89, 90, 91, 92, 93, 94, 95, 96, 97, 98, 99, 100, 101, 103, 33, 34, 35, 104, 105, 106, 107, 108, 109, 110, 111, 112, 113, 114, 115, 116, 117, 118, 119, 120, 121, 122, 123, 124, 125, 126, 127, 128, 129, 130, 131, 132, 133, 134, 135, 36, 37, 38, 136, 137, 138, 139, 140, 141, 142, 143, 144, 145, 146, 147, 148, 149, 150, 151, 152, 153, 154, 155, 156, 157, 158, 159, 160, 161, 162, 163, 164, 165, 166, 102, 3, 4, 5, 6, 7, 8] : List Nat) from (by decide +kernel : ∀ id ∈ ([42, 0, 1, 2, 43, 44, 9, 10, 11, 12, 13, 14, 15, 16, 17, 18, 19, 20, 21, 22, 23, 24, 25, 26, 27, 28, 29, 30, 31, 32, 45, 46, 47, 48, 49, 50, 51, 52, 53, 39, 40, 41, 54, 55, 56, 57, 58, 59, 60, 61, 62, 63, 64, 65, 66, 67, 68, 69, 70, 71, 72, 73, 74, 75, 76, 77, 78, 79, 80, 81, 82, 83, 84, 85, 86, 87, 88, 89, 90, 91, 92, 93, 94, 95, 96, 97, 98, 99, 100, 101, 103, 33, 34, 35, 104, 105, 106, 107, 108, 109, 110, 111, 112, 113, 114, 115, 116, 117, 118, 119, 120, 121, 122, 123, 124, 125, 126, 127, 128, 129, 130, 131, 132, 133, 134, 135, 36, 37, 38, 136, 137, 138, 139, 140, 141, 142, 143, 144, 145, 146, 147, 148, 149, 150, 151, 152, 153, 154, 155, 156, 157, 158, 159, 160, 161, 162, 163, 164, 165, 166, 102, 3, 4, 5, 6, 7, 8] : List Nat), id = 42 ∨ id = 45 ∨ id ∈ ([0, 1, 2, 43, 44, 9, 10, 11, 12, 13, 14, 15, 16, 17, 18, 19, 20, 21, 22, 23, 24, 25, 26, 27, 28, 29, 30, 31, 32, 46, 47, 48, 49, 50, 51, 52, 53, 39, 40, 41, 54, 55, 56, 57, 58, 59, 60, 61, 62, 63, 64, 65, 66, 67, 68, 69, 70, 71, 72, 73, 74, 75, 76, 77, 78, 79, 80, 81, 82, 83, 84, 85, 86, 87, 88, 89, 90, 91, 92, 93, 94, 95, 96, 97, 98, 99, 100, 101, 103, 33, 34, 35, 104, 105, 106, 107, 108, 109, 110, 111, 112, 113, 114, 115, 116, 117, 118, 119, 120, 121, 122, 123, 124, 125, 126, 127, 128, 129, 130, 131, 132, 133, 134, 135, 36, 37, 38, 136, 137, 138, 139, 140, 141, 142, 143, 144, 145, 146, 147, 148, 149, 150, 151, 152, 153, 154, 155, 156, 157, 158, 159, 160, 161, 162, 163, 164, 165, 166, 102, 3, 4, 5, 6, 7, 8] : List Nat)) id hid) with rfl | rfl | h
  · exact Or.inr ⟨_, List.mem_cons_self, fun H h => by rw [me_42 E]; exact h⟩
  · exact Or.inr ⟨_, List.mem_cons_of_mem _ List.mem_cons_self, fun H h => h.trans (congrArg some (by
      exact arr_eq (c := E.2.2 3) (N := 2) (fun j hj => by
        match j, hj with
        | 0, _ => rfl
        | 1, _ => rfl
        | j + 2, hj => exact absurd hj (by omega))))⟩
  · exact Or.inl h
