theorem w_nl_X7_9 : Cond.methodLinkNest RX7 9 yX6_init RX7 ∈ lw_tbl := List.mem_of_getElem? (i := 40) (by decide +kernel)
theorem w_ao_q : Cond.arrayOver (.object RX6) ∈ lw_tbl := List.mem_of_getElem? (i := 73) (by decide +kernel)
theorem w_nl_X2_24 : Cond.methodLinkNest RX2 24 yX6_init RX7 ∈ lw_tbl := List.mem_of_getElem? (i := 74) (by decide +kernel)
theorem w_nl_X7_33 : Cond.methodLinkNest RX7 33 yX4_init RX7 ∈ lw_tbl := List.mem_of_getElem? (i := 88) (by decide +kernel)
theorem w_nl_X7_40 : Cond.methodLinkNest RX7 40 yX0_init RX7 ∈ lw_tbl := List.mem_of_getElem? (i := 103) (by decide +kernel)
theorem w_nl_X7_47 : Cond.methodLinkNest RX7 47 yX1_init RX7 ∈ lw_tbl := List.mem_of_getElem? (i := 116) (by decide +kernel)
theorem w_nl_X1_17 : Cond.methodLinkNest RX1 17 yX6_init RX7 ∈ lw_tbl := List.mem_of_getElem? (i := 121) (by decide +kernel)
theorem w_ao_i : Cond.arrayOver (.array .int) ∈ lw_tbl := List.mem_of_getElem? (i := 123) (by decide +kernel)
theorem w_nl_X7_54 : Cond.methodLinkNest RX7 54 yX3_init RX7 ∈ lw_tbl := List.mem_of_getElem? (i := 146) (by decide +kernel)
theorem w_nl_X3_20 : Cond.methodLinkNest RX3 20 yX5_init RX7 ∈ lw_tbl := List.mem_of_getElem? (i := 152) (by decide +kernel)
theorem w_nl_X5_11 : Cond.methodLinkNest RX5 11 yX6_init RX7 ∈ lw_tbl := List.mem_of_getElem? (i := 157) (by decide +kernel)
theorem w_ao_l : Cond.arrayOver (.array .long) ∈ lw_tbl := List.mem_of_getElem? (i := 159) (by decide +kernel)
def LA : List Nat := [42, 0, 1, 2, 43, 44, 9, 10, 11, 12, 13, 14, 15, 16, 17, 18, 19, 20, 21, 22, 23, 24, 25, 26, 27, 28, 29, 30, 31, 32, 45, 46, 47, 48, 49, 50, 51, 52, 53, 39, 40, 41, 54, 55, 56, 57, 58, 59, 60, 61, 62, 63, 64, 65, 66, 67, 68, 69, 70, 71, 72, 73, 74, 75, 76, 77, 78, 79, 80, 81, 82, 83, 84, 85, 86, 87, 88, 89, 90, 91, 92, 93, 94, 95, 96, 97, 98, 99, 100, 101, 103, 33, 34, 35, 104, 105, 106, 107, 108, 109, 110, 111, 112, 113, 114, 115, 116, 117, 118, 119, 120, 121, 122, 123, 124, 125, 126, 127, 128, 129, 130, 131, 132, 133, 134, 135, 36, 37, 38, 136, 137, 138, 139, 140, 141, 142, 143, 144, 145, 146, 147, 148, 149, 150, 151, 152, 153, 154, 155, 156, 157, 158, 159, 160, 161, 162, 163, 164, 165, 166, 102, 3, 4, 5, 6, 7, 8]
def LB : List Nat := [209, 167, 168, 169, 210, 211, 176, 177, 178, 179, 180, 181, 182, 183, 184, 185, 186, 187, 188, 189, 190, 191, 192, 193, 194, 195, 196, 197, 198, 199, 212, 213, 214, 215, 216, 217, 218, 219, 220, 206, 207, 208, 221, 222, 223, 224, 225, 226, 227, 228, 229, 230, 231, 232, 233, 234, 235, 236, 237, 238, 239, 240, 241, 242, 243, 244, 245, 246, 247, 248, 249, 250, 251, 252, 253, 254, 255, 256, 257, 258, 259, 260, 261, 262, 263, 264, 265, 266, 267, 268, 270, 200, 201, 202, 271, 272, 273, 274, 275, 276, 277, 278, 279, 280, 281, 282, 283, 284, 285, 286, 287, 288, 289, 290, 291, 292, 293, 294, 295, 296, 297, 298, 299, 300, 301, 302, 203, 204, 205, 303, 304, 305, 306, 307, 308, 309, 310, 311, 312, 313, 314, 315, 316, 317, 318, 319, 320, 321, 322, 323, 324, 325, 326, 327, 328, 329, 330, 331, 332, 333, 269, 170, 171, 172, 173, 174, 175]
def L334 : List Nat := [42, 0, 1, 2, 43, 44, 9, 10, 11, 12, 13, 14, 15, 16, 17, 18, 19, 20, 21, 22, 23, 24, 25, 26, 27, 28, 29, 30, 31, 32, 45, 46, 47, 48, 49, 50, 51, 52, 53, 39, 40, 41, 54, 55, 56, 57, 58, 59, 60, 61, 62, 63, 64, 65, 66, 67, 68, 69, 70, 71, 72, 73, 74, 75, 76, 77, 78, 79, 80, 81, 82, 83, 84, 85, 86, 87, 88, 89, 90, 91, 92, 93, 94, 95, 96, 97, 98, 99, 100, 101, 103, 33, 34, 35, 104, 105, 106, 107, 108, 109, 110, 111, 112, 113, 114, 115, 116, 117, 118, 119, 120, 121, 122, 123, 124, 125, 126, 127, 128, 129, 130, 131, 132, 133, 134, 135, 36, 37, 38, 136, 137, 138, 139, 140, 141, 142, 143, 144, 145, 146, 147, 148, 149, 150, 151, 152, 153, 154, 155, 156, 157, 158, 159, 160, 161, 162, 163, 164, 165, 166, 102, 3, 4, 5, 6, 7, 8, 209, 167, 168, 169, 210, 211, 176, 177, 178, 179, 180, 181, 182, 183, 184, 185, 186, 187, 188, 189, 190, 191, 192, 193, 194, 195, 196, 197, 198, 199, 212, 213, 214, 215, 216, 217, 218, 219, 220, 206, 207, 208, 221, 222, 223, 224, 225, 226, 227, 228, 229, 230, 231, 232, 233, 234, 235, 236, 237, 238, 239, 240, 241, 242, 243, 244, 245, 246, 247, 248, 249, 250, 251, 252, 253, 254, 255, 256, 257, 258, 259, 260, 261, 262, 263, 264, 265, 266, 267, 268, 270, 200, 201, 202, 271, 272, 273, 274, 275, 276, 277, 278, 279, 280, 281, 282, 283, 284, 285, 286, 287, 288, 289, 290, 291, 292, 293, 294, 295, 296, 297, 298, 299, 300, 301, 302, 203, 204, 205, 303, 304, 305, 306, 307, 308, 309, 310, 311, 312, 313, 314, 315, 316, 317, 318, 319, 320, 321, 322, 323, 324, 325, 326, 327, 328, 329, 330, 331, 332, 333, 269, 170, 171, 172, 173, 174, 175]
theorem C0_sw (E : EN) {id : Nat} (h : id < 334) : C0 (swE E) id = C0 E (sw id) := by
  show cel (swE E) id (M0 id) = cel E (sw id) (M0 (sw id))
  rw [cel_sw E h, M0_sw h]
theorem CC.twin {d : Nat} {mt : Mth} {ci mc ms : Nat} {ids : List Nat} (hlt : ∀ id ∈ ids, id < 334) (h : CC d mt ci ids mc ms) : CC d mt ci (ids.map sw) mc ms := by
  intro l E q hu
  have k := h l (swE E) q (fun i id hid => hu i (sw id) (by rw [List.getElem?_map, hid]; rfl))
  have e1 : QcK (swE E) ids q = QcK E (ids.map sw) q := by
    funext a s o t
    refine propext ⟨fun ⟨a1, a2, a3, a4⟩ => ⟨a1, by rw [List.length_map]; exact a2, fun i id hid => ?_, a4⟩, fun ⟨a1, a2, a3, a4⟩ => ⟨a1, by rw [List.length_map] at a2; exact a2, fun i id hid => ?_, a4⟩⟩
    · rw [List.getElem?_map] at hid
      cases hg : ids[i]? with
      | none => rw [hg] at hid; cases hid
      | some id0 =>
        rw [hg] at hid
        cases hid
        have := a3 i id0 hg
        rw [C0_sw E (hlt id0 (List.mem_of_getElem? hg))] at this
        exact this
    · have := a3 i (sw id) (by rw [List.getElem?_map, hid]; rfl)
      rw [C0_sw E (hlt id (List.mem_of_getElem? hid))]
      exact this
  rw [e1] at k
  exact k
theorem LA_lt : ∀ id ∈ LA, id < 334 := by decide +kernel
theorem LA_sw : LA.map sw = LB := by decide +kernel
theorem k_X7b : CC 4 m_X7_init 7 LB 166 5504 := by
  rw [← LA_sw]
  exact CC.twin LA_lt k_X7
def posn (id : Nat) : Nat := L334.idxOf id
theorem pos_all : ∀ id : Nat, id < 334 → L334[posn id]? = some id := by decide +kernel
theorem L334_len : L334.length = 334 := by decide +kernel
theorem pos_i : ∀ i : Nat, i < 334 → posn (L334.getD i 0) = i ∧ L334.getD i 0 < 334 := by decide +kernel
def EU (D : va_G) (kc : Nat → ClassId) (h0 b : Nat) : EN := (D, (fun id => if id = 334 then b else h0 + posn id), kc)
theorem EU_hu (D : va_G) (kc : Nat → ClassId) (h0 b : Nat) : ∀ i id : Nat, L334[i]? = some id → (EU D kc h0 b).2.1 id = h0 + i := by
  intro i id h
  have hi : i < 334 := by have := (List.getElem?_eq_some_iff.mp h).1; rwa [L334_len] at this
  have h2 : L334.getD i 0 = id := by rw [List.getD_eq_getElem?_getD, h]; rfl
  obtain ⟨h3, h4⟩ := pos_i i hi
  rw [h2] at h3 h4
  show (if id = 334 then b else h0 + posn id) = _
  rw [if_neg (by omega), h3]
theorem EU_lt (D : va_G) (kc : Nat → ClassId) (h0 b : Nat) {k : Nat} (h : k < 334) : (EU D kc h0 b).2.1 k = h0 + posn k := by
  show (if k = 334 then b else h0 + posn k) = _
  rw [if_neg (by omega)]
theorem EU_inj (D : va_G) (kc : Nat → ClassId) (h0 b : Nat) : ∀ i j : Nat, i < 334 → j < 334 → (EU D kc h0 b).2.1 i = (EU D kc h0 b).2.1 j → i = j := by
  intro i j hi hj h
  rw [EU_lt D kc h0 b hi, EU_lt D kc h0 b hj] at h
  have h2 : posn i = posn j := by omega
  have h3 := pos_all i hi
  rw [h2, pos_all j hj] at h3
  exact (Option.some.inj h3).symm
theorem arr_k {s : State} {c comp : ClassId} {k : Class} {t : FieldType} (h1 : s.vm.classes[c]? = some k) (h2 : k.kind = .array comp t) : ArrOfT s c t := fun N z => ⟨(fun q hq => by cases hq), k, h1, comp, h2⟩
theorem kx_start {args : Array Value} {s : State} (hts : ∀ w ∈ lw_tbl, w.before args s = true) : ∃ (D : va_G) (kc : Nat → ClassId), ∀ u : Nat → Nat, KX (D, u, kc) s := by
  have htb : ∀ w ∈ tbG, w.before args s = true := fun w hw => hts w (List.mem_filter.mp hw).1
  obtain ⟨c0, i0, k0⟩ := u_known htb w_ly_X0 (htb _ w_in_X0)
  obtain ⟨c1, i1, k1⟩ := u_known htb w_ly_X1 (htb _ w_in_X1)
  obtain ⟨c2, i2, k2⟩ := u_known htb w_ly_X2 (htb _ w_in_X2)
  obtain ⟨c3, i3, k3⟩ := u_known htb w_ly_X3 (htb _ w_in_X3)
  obtain ⟨c4, i4, k4⟩ := u_known htb w_ly_X4 (htb _ w_in_X4)
  obtain ⟨c5, i5, k5⟩ := u_known htb w_ly_X5 (htb _ w_in_X5)
  obtain ⟨c6, i6, k6⟩ := u_known htb w_ly_X6 (htb _ w_in_X6)
  obtain ⟨c7, i7, k7⟩ := u_known htb w_ly_X7 (htb _ w_in_X7)
  obtain ⟨a0, ka0, cm0, f01, f02, f03⟩ := Cond.arrayClass_spec (htb _ w_ac_int)
  obtain ⟨a1, ka1, cm1, f11, f12, f13⟩ := Cond.arrayClass_spec (htb _ w_ac_long)
  obtain ⟨a2, ka2, cm2, f21, f22, f23⟩ := Cond.arrayClass_spec (htb _ w_ac_boolean)
  obtain ⟨cm3, a3, ka3, g31, g32, g33, g34, g35⟩ := Cond.arrayOver_spec (hts _ w_ao_q)
  obtain ⟨cm4, a4, ka4, g41, g42, g43, g44, g45⟩ := arrayOverA_spec (hts _ w_ao_l)
  obtain ⟨cm5, a5, ka5, g51, g52, g53, g54, g55⟩ := arrayOverA_spec (hts _ w_ao_i)
  refine ⟨(fun c => match c with
    | 0 => c0
    | 1 => c1
    | 2 => c2
    | 3 => c3
    | 4 => c4
    | 5 => c5
    | 6 => c6
    | _ => c7, fun c => match c with
    | 0 => i0
    | 1 => i1
    | 2 => i2
    | 3 => i3
    | 4 => i4
    | 5 => i5
    | 6 => i6
    | _ => i7), (fun k => match k with
    | 0 => a0
    | 1 => a1
    | 2 => a2
    | 3 => a3
    | 4 => a4
    | _ => a5), fun u => ⟨⟨fun c q hq => ?_, fun k q hk => ?_⟩, hts _ w_ao_q, hts _ w_ao_l, hts _ w_ao_i, fun t ht => ?_⟩⟩
  · have hc : c < 8 := (List.getElem?_eq_some_iff.mp hq).1
    match c, hc, hq with
    | 0, _, hq => cases hq; exact k0
    | 1, _, hq => cases hq; exact k1
    | 2, _, hq => cases hq; exact k2
    | 3, _, hq => cases hq; exact k3
    | 4, _, hq => cases hq; exact k4
    | 5, _, hq => cases hq; exact k5
    | 6, _, hq => cases hq; exact k6
    | 7, _, hq => cases hq; exact k7
    | c + 8, hc, _ => exact absurd hc (by omega)
  · have hc : k < 6 := (List.getElem?_eq_some_iff.mp hk).1
    match k, hc, hk with
    | 0, _, hk => cases hk; exact ⟨arr_k f02 f03, f01⟩
    | 1, _, hk => cases hk; exact ⟨arr_k f12 f13, f11⟩
    | 2, _, hk => cases hk; exact ⟨arr_k f22 f23, f21⟩
    | 3, _, hk => cases hk; exact ⟨arr_k g33 g34, ka3, cm3, g33, g34, g31, g35⟩
    | 4, _, hk => cases hk; exact ⟨arr_k g43 g44, g45⟩
    | 5, _, hk => cases hk; exact ⟨arr_k g53 g54, g55⟩
    | c + 6, hc, _ => exact absurd hc (by omega)
  · unfold nestL at ht
    simp only [List.mem_cons, List.not_mem_nil, or_false] at ht
    rcases ht with rfl | rfl | rfl | rfl | rfl | rfl | rfl | rfl | rfl
    · exact va_Nw.of rfl (hts _ w_nl_X7_9)
    · exact va_Nw.of rfl (hts _ w_nl_X2_24)
    · exact va_Nw.of rfl (hts _ w_nl_X7_33)
    · exact va_Nw.of rfl (hts _ w_nl_X7_40)
    · exact va_Nw.of rfl (hts _ w_nl_X7_47)
    · exact va_Nw.of rfl (hts _ w_nl_X1_17)
    · exact va_Nw.of rfl (hts _ w_nl_X7_54)
    · exact va_Nw.of rfl (hts _ w_nl_X3_20)
    · exact va_Nw.of rfl (hts _ w_nl_X5_11)
theorem start_wk (E : EN) (q : Nat) (hu : ∀ i id : Nat, L334[i]? = some id → E.2.1 id = q + i) : WK 50 m_L_law E q 0 [vR 334, vU, vU, vU, vU, vU, vU, vU] [] 0 [] [] 334 11032 (fun pc ls n P F => pc = 16 ∧ ls = [vR 334, vR 42, vR 209, vU, vU, vU, vU, vU] ∧ n = 334 ∧ P = [] ∧ ∀ id : Nat, id < 334 → id ∈ F) := by
  refine WK.re (mc' := 1 + 166 + (1 + 166 + (0))) (ms' := 12 + 5504 + (12 + 5504 + (0))) rfl rfl (by decide +kernel) (by decide +kernel) ?_
  refine WK.make (ids := LA) (mc' := 166) (ms' := 5504) cb_X7 dL_law_0 dL_law_3 dL_law_4 w_cl_L_10 mi_L_93 k_X7 (sub_hu hu 0 (by decide +kernel)) rfl (by decide) (by decide) ?_
  refine WK.re (n' := 167) rfl (by decide +kernel) rfl rfl ?_
  refine WK.astore_n (lt := [vR 334, vR 42, vU, vU, vU, vU, vU, vU]) dL_law_7 (by decide) rfl ?_
  refine WK.make (ids := LB) (mc' := 166) (ms' := 5504) cb_X7 dL_law_8 dL_law_11 dL_law_12 w_cl_L_10 mi_L_93 k_X7b (sub_hu hu 167 (by decide +kernel)) rfl (by decide) (by decide) ?_
  refine WK.re (n' := 334) rfl (by decide +kernel) rfl rfl ?_
  refine WK.astore_n (lt := [vR 334, vR 42, vR 209, vU, vU, vU, vU, vU]) dL_law_15 (by decide) rfl ?_
  exact WK.done ⟨rfl, rfl, rfl, rfl, by decide +kernel⟩
abbrev A00 : AR := (0, 0, (fun _ => 0), (fun _ _ => 0))
abbrev S00 : ST := mkS 0 0 (fun _ => 0) (fun _ _ => 0) 0 (fun _ => A00) (fun _ => none) 0 (fun _ => 0)
theorem W00 : Wf 0 0 (fun _ => 0) (fun _ _ => 0) := ⟨by omega, by omega, fun c hc => absurd hc (by omega), fun r hr => absurd hr (by omega)⟩
theorem X00 : InvX M0 S00 := by
  refine ⟨⟨⟨rfl, rfl, fun c hc => absurd hc (Nat.not_lt_zero _), fun r hr => absurd hr (Nat.not_lt_zero _)⟩, W00⟩, ⟨by decide, rfl, 0, by decide, rfl, fun j hj => absurd hj (Nat.not_lt_zero _)⟩, fun i hi => ⟨fun _ => rfl, fun B e => by cases e⟩, ⟨by decide, rfl, fun j hj => absurd hj (Nat.not_lt_zero _)⟩, Or.inl rfl, Or.inl rfl⟩
theorem B00 : B2 M0 S00 S00 := ⟨X00, X00.fr (fun a ha => M0_sw (by omega))⟩
