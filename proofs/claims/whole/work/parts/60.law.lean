/-! the law's loop: both sides hold the same state -/
def m_L_law : Mth := (yL_law, cL_law, 4, some .boolean)
theorem WP.icmp_same {x off : Int} {tgt pc d : Nat} {sc : Nat × (Nat → Int)} {mt : Mth} {ls st : List V} {M : Mem} {Q : Option V → Mem → Prop} (hd : decode mt.2.1 pc = .ok (.if_icmp .eq off, 3)) (ht : (pc : Int) + off = (tgt : Int)) (k : WP sc d mt tgt ls st M Q) : WP sc d mt pc ls (vI x :: vI x :: st) M Q := by
  intro p l e R s m args below meth c E A H locs cells slots Z lsR F hP hS hl hr
  exact lv_icmp_eq F.1 F.2.1 hd ht (fun _ => k p l e R s m args below meth c E A H locs cells slots Z lsR F hP hS hl hr) (fun h => absurd rfl h)
theorem InvX.fr {M M' : Mem} {S : ST} (hI : InvX M S) (h : ∀ a, a < 167 → M' a = M a) : InvX M' S := by
  obtain ⟨a1, a2, a3, a4, a5, a6⟩ := hI
  refine ⟨a1.fr (h _ (by decide)) (h _ (by decide)) (h _ (by decide)), a2.fr (h _ (by decide)) (fun a i1 i2 => h a (by omega)), a3.fr (h _ (by decide)) (fun a i1 i2 => h a (by omega)), a4.fr (h _ (by decide)) (h _ (by decide)), ?_, ?_⟩
  · unfold CEx
    rw [h 42 (by decide), h 53 (by decide)]
    exact a5
  · unfold CIx
    rw [h 42 (by decide), h 100 (by decide), h 101 (by decide)]
    exact a6
theorem InvM.fr {M M' : Mem} {S : ST} (hI : InvM M S) (h : ∀ a, 167 ≤ a → M' a = M a) : InvM M' S := hI.cs (fun a i1 _ => h a (by omega)) (fun j _ _ => by rw [h 167 (by decide)])
theorem iA_r {x y : Int} : -2147483648 ≤ iA x y ∧ iA x y < 2147483648 := ⟨Int32.le_toInt _, Int32.toInt_lt _⟩
set_option maxHeartbeats 40000000 in
set_option maxRecDepth 20000 in
theorem law_wp {L : Nat} {xs : Nat → Int} {M0 : Mem} {S0 : ST} (hL : L ≠ 0) (hL2 : L < 100000) (hxs : ∀ j, -2147483648 ≤ xs j ∧ xs j < 2147483648) (hX0 : InvX M0 S0) (hM0 : InvM M0 S0) : WP (L, xs) 50 m_L_law 16 [vR 179, vR 42, vR 167, vU] [] M0 (fun z _ => z = some (vI 1)) := by
  refine WP.iconst dL_law_16 ?_
  refine WP.istore_n (lt := [vR 179, vR 42, vR 167, vI (0 : Int)]) dL_law_17 (by decide) rfl ?_
  have L18 : ∀ (n9 : Nat) (i : Nat) (S9 : ST) (M1 : Mem) (hi : i ≤ L) (hX : InvX M1 S9) (hM : InvM M1 S9), L + 6 - i < n9 → WP (L, xs) 50 m_L_law 18 [vR 179, vR 42, vR 167, vI ((i : Nat) : Int)] [] M1 (fun z _ => z = some (vI 1)) := by
    intro n9
    induction n9 with
    | zero =>
      intro i S9 M1 hi hX hM hm9
      exact absurd hm9 (Nat.not_lt_zero _)
    | succ n9 ih18 =>
      intro i S9 M1 hi hX hM hm9
      obtain ⟨⟨n, k, sz, ce⟩, ⟨h, hs⟩, im, len, tx⟩ := S9
      have hX9 : InvX M1 (mkS n k sz ce h hs im len tx) := hX
      have hM9 : InvM M1 (mkS n k sz ce h hs im len tx) := hM
      refine WP.iload_n dL_law_18 rfl ?_
      refine WP.aload_n dL_law_19 rfl ?_
      refine WP.slen dL_law_20 (hL) ?_
      refine WP.iconst dL_law_21 ?_
      refine WP.isub dL_law_22 ?_
      refine WP.icmp_gt (tgt := 924) dL_law_23 (by decide) (by omega) (by omega) (fun h23 => ?_) (fun h23 => ?_)
      · skip
        refine WP.iconst dL_law_924 ?_
        refine WP.zret dL_law_925 rfl (by decide) ?_
        exact rfl
      · skip
        refine WP.aload_n dL_law_26 rfl ?_
        refine WP.iload_n dL_law_27 rfl ?_
        refine WP.sld (y := i) dL_law_28 (by omega) (by omega) ?_
        refine WP.bipush dL_law_29 (by decide) ?_
        refine WP.iand (z := (iA (xs i) 31)) dL_law_31 ((Int32.ofInt_toInt _).symm) ?_
        by_cases h32_0 : (iA (xs i) 31) = 0
        · skip
          refine WP.tabIn (off := 136) (tgt := 168) dL_law_32 (iA_r) (by omega) (by omega) (by rw [h32_0]; rfl) (by decide) ?_
          refine WP.aload_n dL_law_168 rfl ?_
          refine WP.aload_n dL_law_169 rfl ?_
          refine WP.iload_n dL_law_170 rfl ?_
          refine WP.iconst dL_law_171 ?_
          refine WP.iadd dL_law_172 ?_
          refine WP.sld (y := (i + 1)) dL_law_173 (by omega) (by omega) ?_
          refine WP.callV (as := [vI (xs (i + 1))]) dL_law_174 mv_L_13 rfl (rfl) (by decide) rfl rfl (x_begin hX9 (hxs _)) rfl (Nat.le_of_ble_eq_true rfl) (by omega) (fun r9 M2 h9 => ?_)
          obtain ⟨rfl, hX2, hF2⟩ := h9
          have hM2 : InvM M2 (mkS n k sz ce h hs im len tx) := hM9.fr hF2
          show WP (L, xs) 50 m_L_law 177 [vR 179, vR 42, vR 167, vI ((i : Nat) : Int)] [vI ((o_begin (mkS n k sz ce h hs im len tx) (xs (i + 1))).1)] M2 (fun z _ => z = some (vI 1))
          refine WP.aload_n dL_law_177 rfl ?_
          refine WP.aload_n dL_law_178 rfl ?_
          refine WP.iload_n dL_law_179 rfl ?_
          refine WP.iconst dL_law_180 ?_
          refine WP.iadd dL_law_181 ?_
          refine WP.sld (y := (i + 1)) dL_law_182 (by omega) (by omega) ?_
          refine WP.callV (as := [vI (xs (i + 1))]) dL_law_183 mv_L_17 rfl (rfl) (by decide) rfl rfl (y_begin hM2 (hxs _)) rfl (Nat.le_of_ble_eq_true rfl) (by omega) (fun r9 M3 h9 => ?_)
          obtain ⟨rfl, hM3, hF3⟩ := h9
          have hX3 := hX2.fr hF3
          show WP (L, xs) 50 m_L_law 186 [vR 179, vR 42, vR 167, vI ((i : Nat) : Int)] [vI ((o_begin (mkS n k sz ce h hs im len tx) (xs (i + 1))).1), vI ((o_begin (mkS n k sz ce h hs im len tx) (xs (i + 1))).1)] M3 (fun z _ => z = some (vI 1))
          refine WP.icmp_same (tgt := 918) dL_law_186 (by decide) ?_
          refine WP.iinc (lt := [vR 179, vR 42, vR 167, vI (((i : Nat) : Int) + 5)]) dL_law_918 rfl (by decide) rfl ?_
          refine WP.goto (tgt := 18) dL_law_921 (by decide) ?_
          refine WP.fgt (lt := [vR 179, vR 42, vR 167, vI (((i + 5) : Nat) : Int)]) ⟨Or.inr rfl, Or.inr rfl, Or.inr rfl, Or.inr (congrArg vI (by omega)), trivial⟩ ?_
          exact ih18 (i + 5) ((o_begin (mkS n k sz ce h hs im len tx) (xs (i + 1))).2) (M3) (by omega) (hX3) (hM3) (by omega)
        by_cases h32_1 : (iA (xs i) 31) = 1
        · skip
          refine WP.tabIn (off := 159) (tgt := 191) dL_law_32 (iA_r) (by omega) (by omega) (by rw [h32_1]; rfl) (by decide) ?_
          refine WP.aload_n dL_law_191 rfl ?_
          refine WP.aload_n dL_law_192 rfl ?_
          refine WP.iload_n dL_law_193 rfl ?_
          refine WP.iconst dL_law_194 ?_
          refine WP.iadd dL_law_195 ?_
          refine WP.sld (y := (i + 1)) dL_law_196 (by omega) (by omega) ?_
          refine WP.callV (as := [vI (xs (i + 1))]) dL_law_197 mv_L_18 rfl (rfl) (by decide) rfl rfl (x_addColumn hX9 (hxs _)) rfl (Nat.le_of_ble_eq_true rfl) (by omega) (fun r9 M2 h9 => ?_)
          obtain ⟨rfl, hX2, hF2⟩ := h9
          have hM2 : InvM M2 (mkS n k sz ce h hs im len tx) := hM9.fr hF2
          show WP (L, xs) 50 m_L_law 200 [vR 179, vR 42, vR 167, vI ((i : Nat) : Int)] [vI ((o_addColumn (mkS n k sz ce h hs im len tx) (xs (i + 1))).1)] M2 (fun z _ => z = some (vI 1))
          refine WP.aload_n dL_law_200 rfl ?_
          refine WP.aload_n dL_law_201 rfl ?_
          refine WP.iload_n dL_law_202 rfl ?_
          refine WP.iconst dL_law_203 ?_
          refine WP.iadd dL_law_204 ?_
          refine WP.sld (y := (i + 1)) dL_law_205 (by omega) (by omega) ?_
          refine WP.callV (as := [vI (xs (i + 1))]) dL_law_206 mv_L_21 rfl (rfl) (by decide) rfl rfl (y_addColumn hM2 (hxs _)) rfl (Nat.le_of_ble_eq_true rfl) (by omega) (fun r9 M3 h9 => ?_)
          obtain ⟨rfl, hM3, hF3⟩ := h9
          have hX3 := hX2.fr hF3
          show WP (L, xs) 50 m_L_law 209 [vR 179, vR 42, vR 167, vI ((i : Nat) : Int)] [vI ((o_addColumn (mkS n k sz ce h hs im len tx) (xs (i + 1))).1), vI ((o_addColumn (mkS n k sz ce h hs im len tx) (xs (i + 1))).1)] M3 (fun z _ => z = some (vI 1))
          refine WP.icmp_same (tgt := 918) dL_law_209 (by decide) ?_
          refine WP.iinc (lt := [vR 179, vR 42, vR 167, vI (((i : Nat) : Int) + 5)]) dL_law_918 rfl (by decide) rfl ?_
          refine WP.goto (tgt := 18) dL_law_921 (by decide) ?_
          refine WP.fgt (lt := [vR 179, vR 42, vR 167, vI (((i + 5) : Nat) : Int)]) ⟨Or.inr rfl, Or.inr rfl, Or.inr rfl, Or.inr (congrArg vI (by omega)), trivial⟩ ?_
          exact ih18 (i + 5) ((o_addColumn (mkS n k sz ce h hs im len tx) (xs (i + 1))).2) (M3) (by omega) (hX3) (hM3) (by omega)
        by_cases h32_2 : (iA (xs i) 31) = 2
        · skip
          refine WP.tabIn (off := 182) (tgt := 214) dL_law_32 (iA_r) (by omega) (by omega) (by rw [h32_2]; rfl) (by decide) ?_
          refine WP.aload_n dL_law_214 rfl ?_
          refine WP.aload_n dL_law_215 rfl ?_
          refine WP.iload_n dL_law_216 rfl ?_
          refine WP.iconst dL_law_217 ?_
          refine WP.iadd dL_law_218 ?_
          refine WP.sld (y := (i + 1)) dL_law_219 (by omega) (by omega) ?_
          refine WP.callV (as := [vI (xs (i + 1))]) dL_law_220 mv_L_22 rfl (rfl) (by decide) rfl rfl (x_dropColumn hX9 (hxs _)) rfl (Nat.le_of_ble_eq_true rfl) (by omega) (fun r9 M2 h9 => ?_)
          obtain ⟨rfl, hX2, hF2⟩ := h9
          have hM2 : InvM M2 (mkS n k sz ce h hs im len tx) := hM9.fr hF2
          show WP (L, xs) 50 m_L_law 223 [vR 179, vR 42, vR 167, vI ((i : Nat) : Int)] [vI ((o_dropColumn (mkS n k sz ce h hs im len tx) (xs (i + 1))).1)] M2 (fun z _ => z = some (vI 1))
          refine WP.aload_n dL_law_223 rfl ?_
          refine WP.aload_n dL_law_224 rfl ?_
          refine WP.iload_n dL_law_225 rfl ?_
          refine WP.iconst dL_law_226 ?_
          refine WP.iadd dL_law_227 ?_
          refine WP.sld (y := (i + 1)) dL_law_228 (by omega) (by omega) ?_
          refine WP.callV (as := [vI (xs (i + 1))]) dL_law_229 mv_L_25 rfl (rfl) (by decide) rfl rfl (y_dropColumn hM2 (hxs _)) rfl (Nat.le_of_ble_eq_true rfl) (by omega) (fun r9 M3 h9 => ?_)
          obtain ⟨rfl, hM3, hF3⟩ := h9
          have hX3 := hX2.fr hF3
          show WP (L, xs) 50 m_L_law 232 [vR 179, vR 42, vR 167, vI ((i : Nat) : Int)] [vI ((o_dropColumn (mkS n k sz ce h hs im len tx) (xs (i + 1))).1), vI ((o_dropColumn (mkS n k sz ce h hs im len tx) (xs (i + 1))).1)] M3 (fun z _ => z = some (vI 1))
          refine WP.icmp_same (tgt := 918) dL_law_232 (by decide) ?_
          refine WP.iinc (lt := [vR 179, vR 42, vR 167, vI (((i : Nat) : Int) + 5)]) dL_law_918 rfl (by decide) rfl ?_
          refine WP.goto (tgt := 18) dL_law_921 (by decide) ?_
          refine WP.fgt (lt := [vR 179, vR 42, vR 167, vI (((i + 5) : Nat) : Int)]) ⟨Or.inr rfl, Or.inr rfl, Or.inr rfl, Or.inr (congrArg vI (by omega)), trivial⟩ ?_
          exact ih18 (i + 5) ((o_dropColumn (mkS n k sz ce h hs im len tx) (xs (i + 1))).2) (M3) (by omega) (hX3) (hM3) (by omega)
        by_cases h32_3 : (iA (xs i) 31) = 3
        · skip
          refine WP.tabIn (off := 205) (tgt := 237) dL_law_32 (iA_r) (by omega) (by omega) (by rw [h32_3]; rfl) (by decide) ?_
          refine WP.aload_n dL_law_237 rfl ?_
          refine WP.aload_n dL_law_238 rfl ?_
          refine WP.iload_n dL_law_239 rfl ?_
          refine WP.iconst dL_law_240 ?_
          refine WP.iadd dL_law_241 ?_
          refine WP.sld (y := (i + 1)) dL_law_242 (by omega) (by omega) ?_
          refine WP.aload_n dL_law_243 rfl ?_
          refine WP.iload_n dL_law_244 rfl ?_
          refine WP.iconst dL_law_245 ?_
          refine WP.iadd dL_law_246 ?_
          refine WP.sld (y := (i + 2)) dL_law_247 (by omega) (by omega) ?_
          refine WP.aload_n dL_law_248 rfl ?_
          refine WP.iload_n dL_law_249 rfl ?_
          refine WP.iconst dL_law_250 ?_
          refine WP.iadd dL_law_251 ?_
          refine WP.sld (y := (i + 3)) dL_law_252 (by omega) (by omega) ?_
          refine WP.callV (as := [vI (xs (i + 1)), vI (xs (i + 2)), vI (xs (i + 3))]) dL_law_253 mv_L_26 rfl (rfl) (by decide) rfl rfl (x_put hX9 (hxs _) (hxs _) (hxs _)) rfl (Nat.le_of_ble_eq_true rfl) (by omega) (fun r9 M2 h9 => ?_)
          obtain ⟨rfl, hX2, hF2⟩ := h9
          have hM2 : InvM M2 (mkS n k sz ce h hs im len tx) := hM9.fr hF2
          show WP (L, xs) 50 m_L_law 256 [vR 179, vR 42, vR 167, vI ((i : Nat) : Int)] [vI ((o_put (mkS n k sz ce h hs im len tx) (xs (i + 1)) (xs (i + 2)) (xs (i + 3))).1)] M2 (fun z _ => z = some (vI 1))
          refine WP.aload_n dL_law_256 rfl ?_
          refine WP.aload_n dL_law_257 rfl ?_
          refine WP.iload_n dL_law_258 rfl ?_
          refine WP.iconst dL_law_259 ?_
          refine WP.iadd dL_law_260 ?_
          refine WP.sld (y := (i + 1)) dL_law_261 (by omega) (by omega) ?_
          refine WP.aload_n dL_law_262 rfl ?_
          refine WP.iload_n dL_law_263 rfl ?_
          refine WP.iconst dL_law_264 ?_
          refine WP.iadd dL_law_265 ?_
          refine WP.sld (y := (i + 2)) dL_law_266 (by omega) (by omega) ?_
          refine WP.aload_n dL_law_267 rfl ?_
          refine WP.iload_n dL_law_268 rfl ?_
          refine WP.iconst dL_law_269 ?_
          refine WP.iadd dL_law_270 ?_
          refine WP.sld (y := (i + 3)) dL_law_271 (by omega) (by omega) ?_
          refine WP.callV (as := [vI (xs (i + 1)), vI (xs (i + 2)), vI (xs (i + 3))]) dL_law_272 mv_L_30 rfl (rfl) (by decide) rfl rfl (y_put hM2 (hxs _) (hxs _) (hxs _)) rfl (Nat.le_of_ble_eq_true rfl) (by omega) (fun r9 M3 h9 => ?_)
          obtain ⟨rfl, hM3, hF3⟩ := h9
          have hX3 := hX2.fr hF3
          show WP (L, xs) 50 m_L_law 275 [vR 179, vR 42, vR 167, vI ((i : Nat) : Int)] [vI ((o_put (mkS n k sz ce h hs im len tx) (xs (i + 1)) (xs (i + 2)) (xs (i + 3))).1), vI ((o_put (mkS n k sz ce h hs im len tx) (xs (i + 1)) (xs (i + 2)) (xs (i + 3))).1)] M3 (fun z _ => z = some (vI 1))
          refine WP.icmp_same (tgt := 918) dL_law_275 (by decide) ?_
          refine WP.iinc (lt := [vR 179, vR 42, vR 167, vI (((i : Nat) : Int) + 5)]) dL_law_918 rfl (by decide) rfl ?_
          refine WP.goto (tgt := 18) dL_law_921 (by decide) ?_
          refine WP.fgt (lt := [vR 179, vR 42, vR 167, vI (((i + 5) : Nat) : Int)]) ⟨Or.inr rfl, Or.inr rfl, Or.inr rfl, Or.inr (congrArg vI (by omega)), trivial⟩ ?_
          exact ih18 (i + 5) ((o_put (mkS n k sz ce h hs im len tx) (xs (i + 1)) (xs (i + 2)) (xs (i + 3))).2) (M3) (by omega) (hX3) (hM3) (by omega)
        by_cases h32_4 : (iA (xs i) 31) = 4
        · skip
          refine WP.tabIn (off := 248) (tgt := 280) dL_law_32 (iA_r) (by omega) (by omega) (by rw [h32_4]; rfl) (by decide) ?_
          refine WP.aload_n dL_law_280 rfl ?_
          refine WP.aload_n dL_law_281 rfl ?_
          refine WP.iload_n dL_law_282 rfl ?_
          refine WP.iconst dL_law_283 ?_
          refine WP.iadd dL_law_284 ?_
          refine WP.sld (y := (i + 1)) dL_law_285 (by omega) (by omega) ?_
          refine WP.callV (as := [vI (xs (i + 1))]) dL_law_286 mv_L_31 rfl (rfl) (by decide) rfl rfl (x_dropRow hX9 (hxs _)) rfl (Nat.le_of_ble_eq_true rfl) (by omega) (fun r9 M2 h9 => ?_)
          obtain ⟨rfl, hX2, hF2⟩ := h9
          have hM2 : InvM M2 (mkS n k sz ce h hs im len tx) := hM9.fr hF2
          show WP (L, xs) 50 m_L_law 289 [vR 179, vR 42, vR 167, vI ((i : Nat) : Int)] [vI ((o_dropRow (mkS n k sz ce h hs im len tx) (xs (i + 1))).1)] M2 (fun z _ => z = some (vI 1))
          refine WP.aload_n dL_law_289 rfl ?_
          refine WP.aload_n dL_law_290 rfl ?_
          refine WP.iload_n dL_law_291 rfl ?_
          refine WP.iconst dL_law_292 ?_
          refine WP.iadd dL_law_293 ?_
          refine WP.sld (y := (i + 1)) dL_law_294 (by omega) (by omega) ?_
          refine WP.callV (as := [vI (xs (i + 1))]) dL_law_295 mv_L_34 rfl (rfl) (by decide) rfl rfl (y_dropRow hM2 (hxs _)) rfl (Nat.le_of_ble_eq_true rfl) (by omega) (fun r9 M3 h9 => ?_)
          obtain ⟨rfl, hM3, hF3⟩ := h9
          have hX3 := hX2.fr hF3
          show WP (L, xs) 50 m_L_law 298 [vR 179, vR 42, vR 167, vI ((i : Nat) : Int)] [vI ((o_dropRow (mkS n k sz ce h hs im len tx) (xs (i + 1))).1), vI ((o_dropRow (mkS n k sz ce h hs im len tx) (xs (i + 1))).1)] M3 (fun z _ => z = some (vI 1))
          refine WP.icmp_same (tgt := 918) dL_law_298 (by decide) ?_
          refine WP.iinc (lt := [vR 179, vR 42, vR 167, vI (((i : Nat) : Int) + 5)]) dL_law_918 rfl (by decide) rfl ?_
          refine WP.goto (tgt := 18) dL_law_921 (by decide) ?_
          refine WP.fgt (lt := [vR 179, vR 42, vR 167, vI (((i + 5) : Nat) : Int)]) ⟨Or.inr rfl, Or.inr rfl, Or.inr rfl, Or.inr (congrArg vI (by omega)), trivial⟩ ?_
          exact ih18 (i + 5) ((o_dropRow (mkS n k sz ce h hs im len tx) (xs (i + 1))).2) (M3) (by omega) (hX3) (hM3) (by omega)
        by_cases h32_5 : (iA (xs i) 31) = 5
        · skip
          refine WP.tabIn (off := 271) (tgt := 303) dL_law_32 (iA_r) (by omega) (by omega) (by rw [h32_5]; rfl) (by decide) ?_
          refine WP.aload_n dL_law_303 rfl ?_
          refine WP.callV (as := []) dL_law_304 mv_L_35 rfl (rfl) (by decide) rfl rfl (x_dropCopies hX9) rfl (Nat.le_of_ble_eq_true rfl) (by omega) (fun r9 M2 h9 => ?_)
          obtain ⟨rfl, hX2, hF2⟩ := h9
          have hM2 : InvM M2 (mkS n k sz ce h hs im len tx) := hM9.fr hF2
          show WP (L, xs) 50 m_L_law 307 [vR 179, vR 42, vR 167, vI ((i : Nat) : Int)] [vI ((o_dropCopies (mkS n k sz ce h hs im len tx)).1)] M2 (fun z _ => z = some (vI 1))
          refine WP.aload_n dL_law_307 rfl ?_
          refine WP.callV (as := []) dL_law_308 mv_L_39 rfl (rfl) (by decide) rfl rfl (y_dropCopies hM2) rfl (Nat.le_of_ble_eq_true rfl) (by omega) (fun r9 M3 h9 => ?_)
          obtain ⟨rfl, hM3, hF3⟩ := h9
          have hX3 := hX2.fr hF3
          show WP (L, xs) 50 m_L_law 311 [vR 179, vR 42, vR 167, vI ((i : Nat) : Int)] [vI ((o_dropCopies (mkS n k sz ce h hs im len tx)).1), vI ((o_dropCopies (mkS n k sz ce h hs im len tx)).1)] M3 (fun z _ => z = some (vI 1))
          refine WP.icmp_same (tgt := 918) dL_law_311 (by decide) ?_
          refine WP.iinc (lt := [vR 179, vR 42, vR 167, vI (((i : Nat) : Int) + 5)]) dL_law_918 rfl (by decide) rfl ?_
          refine WP.goto (tgt := 18) dL_law_921 (by decide) ?_
          refine WP.fgt (lt := [vR 179, vR 42, vR 167, vI (((i + 5) : Nat) : Int)]) ⟨Or.inr rfl, Or.inr rfl, Or.inr rfl, Or.inr (congrArg vI (by omega)), trivial⟩ ?_
          exact ih18 (i + 5) ((o_dropCopies (mkS n k sz ce h hs im len tx)).2) (M3) (by omega) (hX3) (hM3) (by omega)
        by_cases h32_6 : (iA (xs i) 31) = 6
        · skip
          refine WP.tabIn (off := 284) (tgt := 316) dL_law_32 (iA_r) (by omega) (by omega) (by rw [h32_6]; rfl) (by decide) ?_
          refine WP.aload_n dL_law_316 rfl ?_
          refine WP.callV (as := []) dL_law_317 mv_L_40 rfl (rfl) (by decide) rfl rfl (x_sort hX9) rfl (Nat.le_of_ble_eq_true rfl) (by omega) (fun r9 M2 h9 => ?_)
          obtain ⟨rfl, hX2, hF2⟩ := h9
          have hM2 : InvM M2 (mkS n k sz ce h hs im len tx) := hM9.fr hF2
          show WP (L, xs) 50 m_L_law 320 [vR 179, vR 42, vR 167, vI ((i : Nat) : Int)] [vI ((o_sort (mkS n k sz ce h hs im len tx)).1)] M2 (fun z _ => z = some (vI 1))
          refine WP.aload_n dL_law_320 rfl ?_
          refine WP.callV (as := []) dL_law_321 mv_L_43 rfl (rfl) (by decide) rfl rfl (y_sort hM2) rfl (Nat.le_of_ble_eq_true rfl) (by omega) (fun r9 M3 h9 => ?_)
          obtain ⟨rfl, hM3, hF3⟩ := h9
          have hX3 := hX2.fr hF3
          show WP (L, xs) 50 m_L_law 324 [vR 179, vR 42, vR 167, vI ((i : Nat) : Int)] [vI ((o_sort (mkS n k sz ce h hs im len tx)).1), vI ((o_sort (mkS n k sz ce h hs im len tx)).1)] M3 (fun z _ => z = some (vI 1))
          refine WP.icmp_same (tgt := 918) dL_law_324 (by decide) ?_
          refine WP.iinc (lt := [vR 179, vR 42, vR 167, vI (((i : Nat) : Int) + 5)]) dL_law_918 rfl (by decide) rfl ?_
          refine WP.goto (tgt := 18) dL_law_921 (by decide) ?_
          refine WP.fgt (lt := [vR 179, vR 42, vR 167, vI (((i + 5) : Nat) : Int)]) ⟨Or.inr rfl, Or.inr rfl, Or.inr rfl, Or.inr (congrArg vI (by omega)), trivial⟩ ?_
          exact ih18 (i + 5) ((o_sort (mkS n k sz ce h hs im len tx)).2) (M3) (by omega) (hX3) (hM3) (by omega)
        by_cases h32_7 : (iA (xs i) 31) = 7
        · skip
          refine WP.tabIn (off := 297) (tgt := 329) dL_law_32 (iA_r) (by omega) (by omega) (by rw [h32_7]; rfl) (by decide) ?_
          refine WP.aload_n dL_law_329 rfl ?_
          refine WP.aload_n dL_law_330 rfl ?_
          refine WP.iload_n dL_law_331 rfl ?_
          refine WP.iconst dL_law_332 ?_
          refine WP.iadd dL_law_333 ?_
          refine WP.sld (y := (i + 1)) dL_law_334 (by omega) (by omega) ?_
          refine WP.callV (as := [vI (xs (i + 1))]) dL_law_335 mv_L_44 rfl (rfl) (by decide) rfl rfl (x_factorial hX9 (hxs _)) rfl (Nat.le_of_ble_eq_true rfl) (by omega) (fun r9 M2 h9 => ?_)
          obtain ⟨rfl, hX2, hF2⟩ := h9
          have hM2 : InvM M2 (mkS n k sz ce h hs im len tx) := hM9.fr hF2
          show WP (L, xs) 50 m_L_law 338 [vR 179, vR 42, vR 167, vI ((i : Nat) : Int)] [vI ((o_factorial (mkS n k sz ce h hs im len tx) (xs (i + 1))).1)] M2 (fun z _ => z = some (vI 1))
          refine WP.aload_n dL_law_338 rfl ?_
          refine WP.aload_n dL_law_339 rfl ?_
          refine WP.iload_n dL_law_340 rfl ?_
          refine WP.iconst dL_law_341 ?_
          refine WP.iadd dL_law_342 ?_
          refine WP.sld (y := (i + 1)) dL_law_343 (by omega) (by omega) ?_
          refine WP.callV (as := [vI (xs (i + 1))]) dL_law_344 mv_L_47 rfl (rfl) (by decide) rfl rfl (y_factorial hM2 (hxs _)) rfl (Nat.le_of_ble_eq_true rfl) (by omega) (fun r9 M3 h9 => ?_)
          obtain ⟨rfl, hM3, hF3⟩ := h9
          have hX3 := hX2.fr hF3
          show WP (L, xs) 50 m_L_law 347 [vR 179, vR 42, vR 167, vI ((i : Nat) : Int)] [vI ((o_factorial (mkS n k sz ce h hs im len tx) (xs (i + 1))).1), vI ((o_factorial (mkS n k sz ce h hs im len tx) (xs (i + 1))).1)] M3 (fun z _ => z = some (vI 1))
          refine WP.icmp_same (tgt := 918) dL_law_347 (by decide) ?_
          refine WP.iinc (lt := [vR 179, vR 42, vR 167, vI (((i : Nat) : Int) + 5)]) dL_law_918 rfl (by decide) rfl ?_
          refine WP.goto (tgt := 18) dL_law_921 (by decide) ?_
          refine WP.fgt (lt := [vR 179, vR 42, vR 167, vI (((i + 5) : Nat) : Int)]) ⟨Or.inr rfl, Or.inr rfl, Or.inr rfl, Or.inr (congrArg vI (by omega)), trivial⟩ ?_
          exact ih18 (i + 5) ((o_factorial (mkS n k sz ce h hs im len tx) (xs (i + 1))).2) (M3) (by omega) (hX3) (hM3) (by omega)
        by_cases h32_8 : (iA (xs i) 31) = 8
        · skip
          refine WP.tabIn (off := 320) (tgt := 352) dL_law_32 (iA_r) (by omega) (by omega) (by rw [h32_8]; rfl) (by decide) ?_
          refine WP.aload_n dL_law_352 rfl ?_
          refine WP.aload_n dL_law_353 rfl ?_
          refine WP.iload_n dL_law_354 rfl ?_
          refine WP.iconst dL_law_355 ?_
          refine WP.iadd dL_law_356 ?_
          refine WP.sld (y := (i + 1)) dL_law_357 (by omega) (by omega) ?_
          refine WP.aload_n dL_law_358 rfl ?_
          refine WP.iload_n dL_law_359 rfl ?_
          refine WP.iconst dL_law_360 ?_
          refine WP.iadd dL_law_361 ?_
          refine WP.sld (y := (i + 2)) dL_law_362 (by omega) (by omega) ?_
          refine WP.aload_n dL_law_363 rfl ?_
          refine WP.iload_n dL_law_364 rfl ?_
          refine WP.iconst dL_law_365 ?_
          refine WP.iadd dL_law_366 ?_
          refine WP.sld (y := (i + 3)) dL_law_367 (by omega) (by omega) ?_
          refine WP.aload_n dL_law_368 rfl ?_
          refine WP.iload_n dL_law_369 rfl ?_
          refine WP.iconst dL_law_370 ?_
          refine WP.iadd dL_law_371 ?_
          refine WP.sld (y := (i + 4)) dL_law_372 (by omega) (by omega) ?_
          refine WP.callV (as := [vI (xs (i + 1)), vI (xs (i + 2)), vI (xs (i + 3)), vI (xs (i + 4))]) dL_law_373 mv_L_48 rfl (rfl) (by decide) rfl rfl (x_addSum hX9 (hxs _) (hxs _) (hxs _) (hxs _)) rfl (Nat.le_of_ble_eq_true rfl) (by omega) (fun r9 M2 h9 => ?_)
          obtain ⟨rfl, hX2, hF2⟩ := h9
          have hM2 : InvM M2 (mkS n k sz ce h hs im len tx) := hM9.fr hF2
          show WP (L, xs) 50 m_L_law 376 [vR 179, vR 42, vR 167, vI ((i : Nat) : Int)] [vI ((o_addSum (mkS n k sz ce h hs im len tx) (xs (i + 1)) (xs (i + 2)) (xs (i + 3)) (xs (i + 4))).1)] M2 (fun z _ => z = some (vI 1))
          refine WP.aload_n dL_law_376 rfl ?_
          refine WP.aload_n dL_law_377 rfl ?_
          refine WP.iload_n dL_law_378 rfl ?_
          refine WP.iconst dL_law_379 ?_
          refine WP.iadd dL_law_380 ?_
          refine WP.sld (y := (i + 1)) dL_law_381 (by omega) (by omega) ?_
          refine WP.aload_n dL_law_382 rfl ?_
          refine WP.iload_n dL_law_383 rfl ?_
          refine WP.iconst dL_law_384 ?_
          refine WP.iadd dL_law_385 ?_
          refine WP.sld (y := (i + 2)) dL_law_386 (by omega) (by omega) ?_
          refine WP.aload_n dL_law_387 rfl ?_
          refine WP.iload_n dL_law_388 rfl ?_
          refine WP.iconst dL_law_389 ?_
          refine WP.iadd dL_law_390 ?_
          refine WP.sld (y := (i + 3)) dL_law_391 (by omega) (by omega) ?_
          refine WP.aload_n dL_law_392 rfl ?_
          refine WP.iload_n dL_law_393 rfl ?_
          refine WP.iconst dL_law_394 ?_
          refine WP.iadd dL_law_395 ?_
          refine WP.sld (y := (i + 4)) dL_law_396 (by omega) (by omega) ?_
          refine WP.callV (as := [vI (xs (i + 1)), vI (xs (i + 2)), vI (xs (i + 3)), vI (xs (i + 4))]) dL_law_397 mv_L_52 rfl (rfl) (by decide) rfl rfl (y_addSum hM2 (hxs _) (hxs _) (hxs _) (hxs _)) rfl (Nat.le_of_ble_eq_true rfl) (by omega) (fun r9 M3 h9 => ?_)
          obtain ⟨rfl, hM3, hF3⟩ := h9
          have hX3 := hX2.fr hF3
          show WP (L, xs) 50 m_L_law 400 [vR 179, vR 42, vR 167, vI ((i : Nat) : Int)] [vI ((o_addSum (mkS n k sz ce h hs im len tx) (xs (i + 1)) (xs (i + 2)) (xs (i + 3)) (xs (i + 4))).1), vI ((o_addSum (mkS n k sz ce h hs im len tx) (xs (i + 1)) (xs (i + 2)) (xs (i + 3)) (xs (i + 4))).1)] M3 (fun z _ => z = some (vI 1))
          refine WP.icmp_same (tgt := 918) dL_law_400 (by decide) ?_
          refine WP.iinc (lt := [vR 179, vR 42, vR 167, vI (((i : Nat) : Int) + 5)]) dL_law_918 rfl (by decide) rfl ?_
          refine WP.goto (tgt := 18) dL_law_921 (by decide) ?_
          refine WP.fgt (lt := [vR 179, vR 42, vR 167, vI (((i + 5) : Nat) : Int)]) ⟨Or.inr rfl, Or.inr rfl, Or.inr rfl, Or.inr (congrArg vI (by omega)), trivial⟩ ?_
          exact ih18 (i + 5) ((o_addSum (mkS n k sz ce h hs im len tx) (xs (i + 1)) (xs (i + 2)) (xs (i + 3)) (xs (i + 4))).2) (M3) (by omega) (hX3) (hM3) (by omega)
        by_cases h32_9 : (iA (xs i) 31) = 9
        · skip
          refine WP.tabIn (off := 373) (tgt := 405) dL_law_32 (iA_r) (by omega) (by omega) (by rw [h32_9]; rfl) (by decide) ?_
          refine WP.aload_n dL_law_405 rfl ?_
          refine WP.aload_n dL_law_406 rfl ?_
          refine WP.iload_n dL_law_407 rfl ?_
          refine WP.iconst dL_law_408 ?_
          refine WP.iadd dL_law_409 ?_
          refine WP.sld (y := (i + 1)) dL_law_410 (by omega) (by omega) ?_
          refine WP.aload_n dL_law_411 rfl ?_
          refine WP.iload_n dL_law_412 rfl ?_
          refine WP.iconst dL_law_413 ?_
          refine WP.iadd dL_law_414 ?_
          refine WP.sld (y := (i + 2)) dL_law_415 (by omega) (by omega) ?_
          refine WP.callV (as := [vI (xs (i + 1)), vI (xs (i + 2))]) dL_law_416 mv_L_53 rfl (rfl) (by decide) rfl rfl (x_replace hX9 (hxs _) (hxs _)) rfl (Nat.le_of_ble_eq_true rfl) (by omega) (fun r9 M2 h9 => ?_)
          obtain ⟨rfl, hX2, hF2⟩ := h9
          have hM2 : InvM M2 (mkS n k sz ce h hs im len tx) := hM9.fr hF2
          show WP (L, xs) 50 m_L_law 419 [vR 179, vR 42, vR 167, vI ((i : Nat) : Int)] [vI ((o_replace (mkS n k sz ce h hs im len tx) (xs (i + 1)) (xs (i + 2))).1)] M2 (fun z _ => z = some (vI 1))
          refine WP.aload_n dL_law_419 rfl ?_
          refine WP.aload_n dL_law_420 rfl ?_
          refine WP.iload_n dL_law_421 rfl ?_
          refine WP.iconst dL_law_422 ?_
          refine WP.iadd dL_law_423 ?_
          refine WP.sld (y := (i + 1)) dL_law_424 (by omega) (by omega) ?_
          refine WP.aload_n dL_law_425 rfl ?_
          refine WP.iload_n dL_law_426 rfl ?_
          refine WP.iconst dL_law_427 ?_
          refine WP.iadd dL_law_428 ?_
          refine WP.sld (y := (i + 2)) dL_law_429 (by omega) (by omega) ?_
          refine WP.callV (as := [vI (xs (i + 1)), vI (xs (i + 2))]) dL_law_430 mv_L_57 rfl (rfl) (by decide) rfl rfl (y_replace hM2 (hxs _) (hxs _)) rfl (Nat.le_of_ble_eq_true rfl) (by omega) (fun r9 M3 h9 => ?_)
          obtain ⟨rfl, hM3, hF3⟩ := h9
          have hX3 := hX2.fr hF3
          show WP (L, xs) 50 m_L_law 433 [vR 179, vR 42, vR 167, vI ((i : Nat) : Int)] [vI ((o_replace (mkS n k sz ce h hs im len tx) (xs (i + 1)) (xs (i + 2))).1), vI ((o_replace (mkS n k sz ce h hs im len tx) (xs (i + 1)) (xs (i + 2))).1)] M3 (fun z _ => z = some (vI 1))
          refine WP.icmp_same (tgt := 918) dL_law_433 (by decide) ?_
          refine WP.iinc (lt := [vR 179, vR 42, vR 167, vI (((i : Nat) : Int) + 5)]) dL_law_918 rfl (by decide) rfl ?_
          refine WP.goto (tgt := 18) dL_law_921 (by decide) ?_
          refine WP.fgt (lt := [vR 179, vR 42, vR 167, vI (((i + 5) : Nat) : Int)]) ⟨Or.inr rfl, Or.inr rfl, Or.inr rfl, Or.inr (congrArg vI (by omega)), trivial⟩ ?_
          exact ih18 (i + 5) ((o_replace (mkS n k sz ce h hs im len tx) (xs (i + 1)) (xs (i + 2))).2) (M3) (by omega) (hX3) (hM3) (by omega)
        by_cases h32_10 : (iA (xs i) 31) = 10
        · skip
          refine WP.tabIn (off := 406) (tgt := 438) dL_law_32 (iA_r) (by omega) (by omega) (by rw [h32_10]; rfl) (by decide) ?_
          refine WP.aload_n dL_law_438 rfl ?_
          refine WP.callV (as := []) dL_law_439 mv_L_58 rfl (rfl) (by decide) rfl rfl (x_develop hX9) rfl (Nat.le_of_ble_eq_true rfl) (by omega) (fun r9 M2 h9 => ?_)
          obtain ⟨rfl, hX2, hF2⟩ := h9
          have hM2 : InvM M2 (mkS n k sz ce h hs im len tx) := hM9.fr hF2
          show WP (L, xs) 50 m_L_law 442 [vR 179, vR 42, vR 167, vI ((i : Nat) : Int)] [vI ((o_develop (mkS n k sz ce h hs im len tx)).1)] M2 (fun z _ => z = some (vI 1))
          refine WP.aload_n dL_law_442 rfl ?_
          refine WP.callV (as := []) dL_law_443 mv_L_61 rfl (rfl) (by decide) rfl rfl (y_develop hM2) rfl (Nat.le_of_ble_eq_true rfl) (by omega) (fun r9 M3 h9 => ?_)
          obtain ⟨rfl, hM3, hF3⟩ := h9
          have hX3 := hX2.fr hF3
          show WP (L, xs) 50 m_L_law 446 [vR 179, vR 42, vR 167, vI ((i : Nat) : Int)] [vI ((o_develop (mkS n k sz ce h hs im len tx)).1), vI ((o_develop (mkS n k sz ce h hs im len tx)).1)] M3 (fun z _ => z = some (vI 1))
          refine WP.icmp_same (tgt := 918) dL_law_446 (by decide) ?_
          refine WP.iinc (lt := [vR 179, vR 42, vR 167, vI (((i : Nat) : Int) + 5)]) dL_law_918 rfl (by decide) rfl ?_
          refine WP.goto (tgt := 18) dL_law_921 (by decide) ?_
          refine WP.fgt (lt := [vR 179, vR 42, vR 167, vI (((i + 5) : Nat) : Int)]) ⟨Or.inr rfl, Or.inr rfl, Or.inr rfl, Or.inr (congrArg vI (by omega)), trivial⟩ ?_
          exact ih18 (i + 5) ((o_develop (mkS n k sz ce h hs im len tx)).2) (M3) (by omega) (hX3) (hM3) (by omega)
        by_cases h32_11 : (iA (xs i) 31) = 11
        · skip
          refine WP.tabIn (off := 419) (tgt := 451) dL_law_32 (iA_r) (by omega) (by omega) (by rw [h32_11]; rfl) (by decide) ?_
          refine WP.aload_n dL_law_451 rfl ?_
          refine WP.callV (as := []) dL_law_452 mv_L_62 rfl (rfl) (by decide) rfl rfl (x_undo hX9) rfl (Nat.le_of_ble_eq_true rfl) (by omega) (fun r9 M2 h9 => ?_)
          obtain ⟨rfl, hX2, hF2⟩ := h9
          have hM2 : InvM M2 (mkS n k sz ce h hs im len tx) := hM9.fr hF2
          show WP (L, xs) 50 m_L_law 455 [vR 179, vR 42, vR 167, vI ((i : Nat) : Int)] [vI ((o_undo (mkS n k sz ce h hs im len tx)).1)] M2 (fun z _ => z = some (vI 1))
          refine WP.aload_n dL_law_455 rfl ?_
          refine WP.callV (as := []) dL_law_456 mv_L_65 rfl (rfl) (by decide) rfl rfl (y_undo hM2) rfl (Nat.le_of_ble_eq_true rfl) (by omega) (fun r9 M3 h9 => ?_)
          obtain ⟨rfl, hM3, hF3⟩ := h9
          have hX3 := hX2.fr hF3
          show WP (L, xs) 50 m_L_law 459 [vR 179, vR 42, vR 167, vI ((i : Nat) : Int)] [vI ((o_undo (mkS n k sz ce h hs im len tx)).1), vI ((o_undo (mkS n k sz ce h hs im len tx)).1)] M3 (fun z _ => z = some (vI 1))
          refine WP.icmp_same (tgt := 918) dL_law_459 (by decide) ?_
          refine WP.iinc (lt := [vR 179, vR 42, vR 167, vI (((i : Nat) : Int) + 5)]) dL_law_918 rfl (by decide) rfl ?_
          refine WP.goto (tgt := 18) dL_law_921 (by decide) ?_
          refine WP.fgt (lt := [vR 179, vR 42, vR 167, vI (((i + 5) : Nat) : Int)]) ⟨Or.inr rfl, Or.inr rfl, Or.inr rfl, Or.inr (congrArg vI (by omega)), trivial⟩ ?_
          exact ih18 (i + 5) ((o_undo (mkS n k sz ce h hs im len tx)).2) (M3) (by omega) (hX3) (hM3) (by omega)
        by_cases h32_12 : (iA (xs i) 31) = 12
        · skip
          refine WP.tabIn (off := 432) (tgt := 464) dL_law_32 (iA_r) (by omega) (by omega) (by rw [h32_12]; rfl) (by decide) ?_
          refine WP.aload_n dL_law_464 rfl ?_
          refine WP.aload_n dL_law_465 rfl ?_
          refine WP.iload_n dL_law_466 rfl ?_
          refine WP.iconst dL_law_467 ?_
          refine WP.iadd dL_law_468 ?_
          refine WP.sld (y := (i + 1)) dL_law_469 (by omega) (by omega) ?_
          refine WP.callV (as := [vI (xs (i + 1))]) dL_law_470 mv_L_66 rfl (rfl) (by decide) rfl rfl (x_write hX9 (hxs _)) rfl (Nat.le_of_ble_eq_true rfl) (by omega) (fun r9 M2 h9 => ?_)
          obtain ⟨rfl, hX2, hF2⟩ := h9
          have hM2 : InvM M2 (mkS n k sz ce h hs im len tx) := hM9.fr hF2
          show WP (L, xs) 50 m_L_law 473 [vR 179, vR 42, vR 167, vI ((i : Nat) : Int)] [vI ((o_write (mkS n k sz ce h hs im len tx) (xs (i + 1))).1)] M2 (fun z _ => z = some (vI 1))
          refine WP.aload_n dL_law_473 rfl ?_
          refine WP.aload_n dL_law_474 rfl ?_
          refine WP.iload_n dL_law_475 rfl ?_
          refine WP.iconst dL_law_476 ?_
          refine WP.iadd dL_law_477 ?_
          refine WP.sld (y := (i + 1)) dL_law_478 (by omega) (by omega) ?_
          refine WP.callV (as := [vI (xs (i + 1))]) dL_law_479 mv_L_69 rfl (rfl) (by decide) rfl rfl (y_write hM2 (hxs _)) rfl (Nat.le_of_ble_eq_true rfl) (by omega) (fun r9 M3 h9 => ?_)
          obtain ⟨rfl, hM3, hF3⟩ := h9
          have hX3 := hX2.fr hF3
          show WP (L, xs) 50 m_L_law 482 [vR 179, vR 42, vR 167, vI ((i : Nat) : Int)] [vI ((o_write (mkS n k sz ce h hs im len tx) (xs (i + 1))).1), vI ((o_write (mkS n k sz ce h hs im len tx) (xs (i + 1))).1)] M3 (fun z _ => z = some (vI 1))
          refine WP.icmp_same (tgt := 918) dL_law_482 (by decide) ?_
          refine WP.iinc (lt := [vR 179, vR 42, vR 167, vI (((i : Nat) : Int) + 5)]) dL_law_918 rfl (by decide) rfl ?_
          refine WP.goto (tgt := 18) dL_law_921 (by decide) ?_
          refine WP.fgt (lt := [vR 179, vR 42, vR 167, vI (((i + 5) : Nat) : Int)]) ⟨Or.inr rfl, Or.inr rfl, Or.inr rfl, Or.inr (congrArg vI (by omega)), trivial⟩ ?_
          exact ih18 (i + 5) ((o_write (mkS n k sz ce h hs im len tx) (xs (i + 1))).2) (M3) (by omega) (hX3) (hM3) (by omega)
        by_cases h32_13 : (iA (xs i) 31) = 13
        · skip
          refine WP.tabIn (off := 455) (tgt := 487) dL_law_32 (iA_r) (by omega) (by omega) (by rw [h32_13]; rfl) (by decide) ?_
          refine WP.aload_n dL_law_487 rfl ?_
          refine WP.callV (as := []) dL_law_488 mv_L_70 rfl (rfl) (by decide) rfl rfl (x_wipe hX9) rfl (Nat.le_of_ble_eq_true rfl) (by omega) (fun r9 M2 h9 => ?_)
          obtain ⟨rfl, hX2, hF2⟩ := h9
          have hM2 : InvM M2 (mkS n k sz ce h hs im len tx) := hM9.fr hF2
          show WP (L, xs) 50 m_L_law 491 [vR 179, vR 42, vR 167, vI ((i : Nat) : Int)] [vI ((o_wipe (mkS n k sz ce h hs im len tx)).1)] M2 (fun z _ => z = some (vI 1))
          refine WP.aload_n dL_law_491 rfl ?_
          refine WP.callV (as := []) dL_law_492 mv_L_73 rfl (rfl) (by decide) rfl rfl (y_wipe hM2) rfl (Nat.le_of_ble_eq_true rfl) (by omega) (fun r9 M3 h9 => ?_)
          obtain ⟨rfl, hM3, hF3⟩ := h9
          have hX3 := hX2.fr hF3
          show WP (L, xs) 50 m_L_law 495 [vR 179, vR 42, vR 167, vI ((i : Nat) : Int)] [vI ((o_wipe (mkS n k sz ce h hs im len tx)).1), vI ((o_wipe (mkS n k sz ce h hs im len tx)).1)] M3 (fun z _ => z = some (vI 1))
          refine WP.icmp_same (tgt := 918) dL_law_495 (by decide) ?_
          refine WP.iinc (lt := [vR 179, vR 42, vR 167, vI (((i : Nat) : Int) + 5)]) dL_law_918 rfl (by decide) rfl ?_
          refine WP.goto (tgt := 18) dL_law_921 (by decide) ?_
          refine WP.fgt (lt := [vR 179, vR 42, vR 167, vI (((i + 5) : Nat) : Int)]) ⟨Or.inr rfl, Or.inr rfl, Or.inr rfl, Or.inr (congrArg vI (by omega)), trivial⟩ ?_
          exact ih18 (i + 5) ((o_wipe (mkS n k sz ce h hs im len tx)).2) (M3) (by omega) (hX3) (hM3) (by omega)
        by_cases h32_14 : (iA (xs i) 31) = 14
        · skip
          refine WP.tabIn (off := 468) (tgt := 500) dL_law_32 (iA_r) (by omega) (by omega) (by rw [h32_14]; rfl) (by decide) ?_
          refine WP.aload_n dL_law_500 rfl ?_
          refine WP.callV (as := []) dL_law_501 mv_L_74 rfl (rfl) (by decide) rfl rfl (x_fault hX9) rfl (Nat.le_of_ble_eq_true rfl) (by omega) (fun r9 M2 h9 => ?_)
          obtain ⟨rfl, hX2, hF2⟩ := h9
          have hM2 : InvM M2 (mkS n k sz ce h hs im len tx) := hM9.fr hF2
          show WP (L, xs) 50 m_L_law 504 [vR 179, vR 42, vR 167, vI ((i : Nat) : Int)] [vI ((o_fault (mkS n k sz ce h hs im len tx)).1)] M2 (fun z _ => z = some (vI 1))
          refine WP.aload_n dL_law_504 rfl ?_
          refine WP.callV (as := []) dL_law_505 mv_L_77 rfl (rfl) (by decide) rfl rfl (y_fault hM2) rfl (Nat.le_of_ble_eq_true rfl) (by omega) (fun r9 M3 h9 => ?_)
          obtain ⟨rfl, hM3, hF3⟩ := h9
          have hX3 := hX2.fr hF3
          show WP (L, xs) 50 m_L_law 508 [vR 179, vR 42, vR 167, vI ((i : Nat) : Int)] [vI ((o_fault (mkS n k sz ce h hs im len tx)).1), vI ((o_fault (mkS n k sz ce h hs im len tx)).1)] M3 (fun z _ => z = some (vI 1))
          refine WP.icmp_same (tgt := 918) dL_law_508 (by decide) ?_
          refine WP.iinc (lt := [vR 179, vR 42, vR 167, vI (((i : Nat) : Int) + 5)]) dL_law_918 rfl (by decide) rfl ?_
          refine WP.goto (tgt := 18) dL_law_921 (by decide) ?_
          refine WP.fgt (lt := [vR 179, vR 42, vR 167, vI (((i + 5) : Nat) : Int)]) ⟨Or.inr rfl, Or.inr rfl, Or.inr rfl, Or.inr (congrArg vI (by omega)), trivial⟩ ?_
          exact ih18 (i + 5) ((o_fault (mkS n k sz ce h hs im len tx)).2) (M3) (by omega) (hX3) (hM3) (by omega)
        by_cases h32_15 : (iA (xs i) 31) = 15
        · skip
          refine WP.tabIn (off := 481) (tgt := 513) dL_law_32 (iA_r) (by omega) (by omega) (by rw [h32_15]; rfl) (by decide) ?_
          refine WP.aload_n dL_law_513 rfl ?_
          refine WP.callV (as := []) dL_law_514 mv_L_78 rfl (rfl) (by decide) rfl rfl (x_load hX9) rfl (Nat.le_of_ble_eq_true rfl) (by omega) (fun r9 M2 h9 => ?_)
          obtain ⟨rfl, hX2, hF2⟩ := h9
          have hM2 : InvM M2 (mkS n k sz ce h hs im len tx) := hM9.fr hF2
          show WP (L, xs) 50 m_L_law 517 [vR 179, vR 42, vR 167, vI ((i : Nat) : Int)] [vI ((o_load (mkS n k sz ce h hs im len tx)).1)] M2 (fun z _ => z = some (vI 1))
          refine WP.aload_n dL_law_517 rfl ?_
          refine WP.callV (as := []) dL_law_518 mv_L_81 rfl (rfl) (by decide) rfl rfl (y_load hM2) rfl (Nat.le_of_ble_eq_true rfl) (by omega) (fun r9 M3 h9 => ?_)
          obtain ⟨rfl, hM3, hF3⟩ := h9
          have hX3 := hX2.fr hF3
          show WP (L, xs) 50 m_L_law 521 [vR 179, vR 42, vR 167, vI ((i : Nat) : Int)] [vI ((o_load (mkS n k sz ce h hs im len tx)).1), vI ((o_load (mkS n k sz ce h hs im len tx)).1)] M3 (fun z _ => z = some (vI 1))
          refine WP.icmp_same (tgt := 918) dL_law_521 (by decide) ?_
          refine WP.iinc (lt := [vR 179, vR 42, vR 167, vI (((i : Nat) : Int) + 5)]) dL_law_918 rfl (by decide) rfl ?_
          refine WP.goto (tgt := 18) dL_law_921 (by decide) ?_
          refine WP.fgt (lt := [vR 179, vR 42, vR 167, vI (((i + 5) : Nat) : Int)]) ⟨Or.inr rfl, Or.inr rfl, Or.inr rfl, Or.inr (congrArg vI (by omega)), trivial⟩ ?_
          exact ih18 (i + 5) ((o_load (mkS n k sz ce h hs im len tx)).2) (M3) (by omega) (hX3) (hM3) (by omega)
        by_cases h32_16 : (iA (xs i) 31) = 16
        · skip
          refine WP.tabIn (off := 494) (tgt := 526) dL_law_32 (iA_r) (by omega) (by omega) (by rw [h32_16]; rfl) (by decide) ?_
          refine WP.aload_n dL_law_526 rfl ?_
          refine WP.aload_n dL_law_527 rfl ?_
          refine WP.iload_n dL_law_528 rfl ?_
          refine WP.iconst dL_law_529 ?_
          refine WP.iadd dL_law_530 ?_
          refine WP.sld (y := (i + 1)) dL_law_531 (by omega) (by omega) ?_
          refine WP.callV (as := [vI (xs (i + 1))]) dL_law_532 mv_L_82 rfl (rfl) (by decide) rfl rfl (x_told hX9 (hxs _)) rfl (Nat.le_of_ble_eq_true rfl) (by omega) (fun r9 M2 h9 => ?_)
          obtain ⟨rfl, hX2, hF2⟩ := h9
          have hM2 : InvM M2 (mkS n k sz ce h hs im len tx) := hM9.fr hF2
          show WP (L, xs) 50 m_L_law 535 [vR 179, vR 42, vR 167, vI ((i : Nat) : Int)] [vI ((o_told (mkS n k sz ce h hs im len tx) (xs (i + 1))).1)] M2 (fun z _ => z = some (vI 1))
          refine WP.aload_n dL_law_535 rfl ?_
          refine WP.aload_n dL_law_536 rfl ?_
          refine WP.iload_n dL_law_537 rfl ?_
          refine WP.iconst dL_law_538 ?_
          refine WP.iadd dL_law_539 ?_
          refine WP.sld (y := (i + 1)) dL_law_540 (by omega) (by omega) ?_
          refine WP.callV (as := [vI (xs (i + 1))]) dL_law_541 mv_L_85 rfl (rfl) (by decide) rfl rfl (y_told hM2 (hxs _)) rfl (Nat.le_of_ble_eq_true rfl) (by omega) (fun r9 M3 h9 => ?_)
          obtain ⟨rfl, hM3, hF3⟩ := h9
          have hX3 := hX2.fr hF3
          show WP (L, xs) 50 m_L_law 544 [vR 179, vR 42, vR 167, vI ((i : Nat) : Int)] [vI ((o_told (mkS n k sz ce h hs im len tx) (xs (i + 1))).1), vI ((o_told (mkS n k sz ce h hs im len tx) (xs (i + 1))).1)] M3 (fun z _ => z = some (vI 1))
          refine WP.icmp_same (tgt := 918) dL_law_544 (by decide) ?_
          refine WP.iinc (lt := [vR 179, vR 42, vR 167, vI (((i : Nat) : Int) + 5)]) dL_law_918 rfl (by decide) rfl ?_
          refine WP.goto (tgt := 18) dL_law_921 (by decide) ?_
          refine WP.fgt (lt := [vR 179, vR 42, vR 167, vI (((i + 5) : Nat) : Int)]) ⟨Or.inr rfl, Or.inr rfl, Or.inr rfl, Or.inr (congrArg vI (by omega)), trivial⟩ ?_
          exact ih18 (i + 5) ((o_told (mkS n k sz ce h hs im len tx) (xs (i + 1))).2) (M3) (by omega) (hX3) (hM3) (by omega)
        by_cases h32_17 : (iA (xs i) 31) = 17
        · skip
          refine WP.tabIn (off := 517) (tgt := 549) dL_law_32 (iA_r) (by omega) (by omega) (by rw [h32_17]; rfl) (by decide) ?_
          refine WP.aload_n dL_law_549 rfl ?_
          refine WP.aload_n dL_law_550 rfl ?_
          refine WP.iload_n dL_law_551 rfl ?_
          refine WP.iconst dL_law_552 ?_
          refine WP.iadd dL_law_553 ?_
          refine WP.sld (y := (i + 1)) dL_law_554 (by omega) (by omega) ?_
          refine WP.callV (as := [vI (xs (i + 1))]) dL_law_555 mv_L_86 rfl (rfl) (by decide) rfl rfl (x_levels hX9 (hxs _)) rfl (Nat.le_of_ble_eq_true rfl) (by omega) (fun r9 M2 h9 => ?_)
          obtain ⟨rfl, hX2, hF2⟩ := h9
          have hM2 : InvM M2 (mkS n k sz ce h hs im len tx) := hM9.fr hF2
          show WP (L, xs) 50 m_L_law 558 [vR 179, vR 42, vR 167, vI ((i : Nat) : Int)] [vI ((o_levels (mkS n k sz ce h hs im len tx) (xs (i + 1))).1)] M2 (fun z _ => z = some (vI 1))
          refine WP.aload_n dL_law_558 rfl ?_
          refine WP.aload_n dL_law_559 rfl ?_
          refine WP.iload_n dL_law_560 rfl ?_
          refine WP.iconst dL_law_561 ?_
          refine WP.iadd dL_law_562 ?_
          refine WP.sld (y := (i + 1)) dL_law_563 (by omega) (by omega) ?_
          refine WP.callV (as := [vI (xs (i + 1))]) dL_law_564 mv_L_89 rfl (rfl) (by decide) rfl rfl (y_levels hM2 (hxs _)) rfl (Nat.le_of_ble_eq_true rfl) (by omega) (fun r9 M3 h9 => ?_)
          obtain ⟨rfl, hM3, hF3⟩ := h9
          have hX3 := hX2.fr hF3
          show WP (L, xs) 50 m_L_law 567 [vR 179, vR 42, vR 167, vI ((i : Nat) : Int)] [vI ((o_levels (mkS n k sz ce h hs im len tx) (xs (i + 1))).1), vI ((o_levels (mkS n k sz ce h hs im len tx) (xs (i + 1))).1)] M3 (fun z _ => z = some (vI 1))
          refine WP.icmp_same (tgt := 918) dL_law_567 (by decide) ?_
          refine WP.iinc (lt := [vR 179, vR 42, vR 167, vI (((i : Nat) : Int) + 5)]) dL_law_918 rfl (by decide) rfl ?_
          refine WP.goto (tgt := 18) dL_law_921 (by decide) ?_
          refine WP.fgt (lt := [vR 179, vR 42, vR 167, vI (((i + 5) : Nat) : Int)]) ⟨Or.inr rfl, Or.inr rfl, Or.inr rfl, Or.inr (congrArg vI (by omega)), trivial⟩ ?_
          exact ih18 (i + 5) ((o_levels (mkS n k sz ce h hs im len tx) (xs (i + 1))).2) (M3) (by omega) (hX3) (hM3) (by omega)
        by_cases h32_18 : (iA (xs i) 31) = 18
        · skip
          refine WP.tabIn (off := 540) (tgt := 572) dL_law_32 (iA_r) (by omega) (by omega) (by rw [h32_18]; rfl) (by decide) ?_
          refine WP.aload_n dL_law_572 rfl ?_
          refine WP.aload_n dL_law_573 rfl ?_
          refine WP.iload_n dL_law_574 rfl ?_
          refine WP.iconst dL_law_575 ?_
          refine WP.iadd dL_law_576 ?_
          refine WP.sld (y := (i + 1)) dL_law_577 (by omega) (by omega) ?_
          refine WP.aload_n dL_law_578 rfl ?_
          refine WP.iload_n dL_law_579 rfl ?_
          refine WP.iconst dL_law_580 ?_
          refine WP.iadd dL_law_581 ?_
          refine WP.sld (y := (i + 2)) dL_law_582 (by omega) (by omega) ?_
          refine WP.callV (as := [vI (xs (i + 1)), vI (xs (i + 2))]) dL_law_583 mv_L_90 rfl (rfl) (by decide) rfl rfl (x_cell hX9 (hxs _) (hxs _)) rfl (Nat.le_of_ble_eq_true rfl) (by omega) (fun r9 M2 h9 => ?_)
          obtain ⟨rfl, hX2, hF2⟩ := h9
          have hM2 : InvM M2 (mkS n k sz ce h hs im len tx) := hM9.fr hF2
          show WP (L, xs) 50 m_L_law 586 [vR 179, vR 42, vR 167, vI ((i : Nat) : Int)] [vI ((o_cell (mkS n k sz ce h hs im len tx) (xs (i + 1)) (xs (i + 2))).1)] M2 (fun z _ => z = some (vI 1))
          refine WP.aload_n dL_law_586 rfl ?_
          refine WP.aload_n dL_law_587 rfl ?_
          refine WP.iload_n dL_law_588 rfl ?_
          refine WP.iconst dL_law_589 ?_
          refine WP.iadd dL_law_590 ?_
          refine WP.sld (y := (i + 1)) dL_law_591 (by omega) (by omega) ?_
          refine WP.aload_n dL_law_592 rfl ?_
          refine WP.iload_n dL_law_593 rfl ?_
          refine WP.iconst dL_law_594 ?_
          refine WP.iadd dL_law_595 ?_
          refine WP.sld (y := (i + 2)) dL_law_596 (by omega) (by omega) ?_
          refine WP.callV (as := [vI (xs (i + 1)), vI (xs (i + 2))]) dL_law_597 mv_L_93 rfl (rfl) (by decide) rfl rfl (y_cell hM2 (hxs _) (hxs _)) rfl (Nat.le_of_ble_eq_true rfl) (by omega) (fun r9 M3 h9 => ?_)
          obtain ⟨rfl, hM3, hF3⟩ := h9
          have hX3 := hX2.fr hF3
          show WP (L, xs) 50 m_L_law 600 [vR 179, vR 42, vR 167, vI ((i : Nat) : Int)] [vI ((o_cell (mkS n k sz ce h hs im len tx) (xs (i + 1)) (xs (i + 2))).1), vI ((o_cell (mkS n k sz ce h hs im len tx) (xs (i + 1)) (xs (i + 2))).1)] M3 (fun z _ => z = some (vI 1))
          refine WP.icmp_same (tgt := 918) dL_law_600 (by decide) ?_
          refine WP.iinc (lt := [vR 179, vR 42, vR 167, vI (((i : Nat) : Int) + 5)]) dL_law_918 rfl (by decide) rfl ?_
          refine WP.goto (tgt := 18) dL_law_921 (by decide) ?_
          refine WP.fgt (lt := [vR 179, vR 42, vR 167, vI (((i + 5) : Nat) : Int)]) ⟨Or.inr rfl, Or.inr rfl, Or.inr rfl, Or.inr (congrArg vI (by omega)), trivial⟩ ?_
          exact ih18 (i + 5) ((o_cell (mkS n k sz ce h hs im len tx) (xs (i + 1)) (xs (i + 2))).2) (M3) (by omega) (hX3) (hM3) (by omega)
        by_cases h32_19 : (iA (xs i) 31) = 19
        · skip
          refine WP.tabIn (off := 573) (tgt := 605) dL_law_32 (iA_r) (by omega) (by omega) (by rw [h32_19]; rfl) (by decide) ?_
          refine WP.aload_n dL_law_605 rfl ?_
          refine WP.aload_n dL_law_606 rfl ?_
          refine WP.iload_n dL_law_607 rfl ?_
          refine WP.iconst dL_law_608 ?_
          refine WP.iadd dL_law_609 ?_
          refine WP.sld (y := (i + 1)) dL_law_610 (by omega) (by omega) ?_
          refine WP.aload_n dL_law_611 rfl ?_
          refine WP.iload_n dL_law_612 rfl ?_
          refine WP.iconst dL_law_613 ?_
          refine WP.iadd dL_law_614 ?_
          refine WP.sld (y := (i + 2)) dL_law_615 (by omega) (by omega) ?_
          refine WP.callV (as := [vI (xs (i + 1)), vI (xs (i + 2))]) dL_law_616 mv_L_94 rfl (rfl) (by decide) rfl rfl (x_count hX9 (hxs _) (hxs _)) rfl (Nat.le_of_ble_eq_true rfl) (by omega) (fun r9 M2 h9 => ?_)
          obtain ⟨rfl, hX2, hF2⟩ := h9
          have hM2 : InvM M2 (mkS n k sz ce h hs im len tx) := hM9.fr hF2
          show WP (L, xs) 50 m_L_law 619 [vR 179, vR 42, vR 167, vI ((i : Nat) : Int)] [vI ((o_count (mkS n k sz ce h hs im len tx) (xs (i + 1)) (xs (i + 2))).1)] M2 (fun z _ => z = some (vI 1))
          refine WP.aload_n dL_law_619 rfl ?_
          refine WP.aload_n dL_law_620 rfl ?_
          refine WP.iload_n dL_law_621 rfl ?_
          refine WP.iconst dL_law_622 ?_
          refine WP.iadd dL_law_623 ?_
          refine WP.sld (y := (i + 1)) dL_law_624 (by omega) (by omega) ?_
          refine WP.aload_n dL_law_625 rfl ?_
          refine WP.iload_n dL_law_626 rfl ?_
          refine WP.iconst dL_law_627 ?_
          refine WP.iadd dL_law_628 ?_
          refine WP.sld (y := (i + 2)) dL_law_629 (by omega) (by omega) ?_
          refine WP.callV (as := [vI (xs (i + 1)), vI (xs (i + 2))]) dL_law_630 mv_L_97 rfl (rfl) (by decide) rfl rfl (y_count hM2 (hxs _) (hxs _)) rfl (Nat.le_of_ble_eq_true rfl) (by omega) (fun r9 M3 h9 => ?_)
          obtain ⟨rfl, hM3, hF3⟩ := h9
          have hX3 := hX2.fr hF3
          show WP (L, xs) 50 m_L_law 633 [vR 179, vR 42, vR 167, vI ((i : Nat) : Int)] [vI ((o_count (mkS n k sz ce h hs im len tx) (xs (i + 1)) (xs (i + 2))).1), vI ((o_count (mkS n k sz ce h hs im len tx) (xs (i + 1)) (xs (i + 2))).1)] M3 (fun z _ => z = some (vI 1))
          refine WP.icmp_same (tgt := 918) dL_law_633 (by decide) ?_
          refine WP.iinc (lt := [vR 179, vR 42, vR 167, vI (((i : Nat) : Int) + 5)]) dL_law_918 rfl (by decide) rfl ?_
          refine WP.goto (tgt := 18) dL_law_921 (by decide) ?_
          refine WP.fgt (lt := [vR 179, vR 42, vR 167, vI (((i + 5) : Nat) : Int)]) ⟨Or.inr rfl, Or.inr rfl, Or.inr rfl, Or.inr (congrArg vI (by omega)), trivial⟩ ?_
          exact ih18 (i + 5) ((o_count (mkS n k sz ce h hs im len tx) (xs (i + 1)) (xs (i + 2))).2) (M3) (by omega) (hX3) (hM3) (by omega)
        by_cases h32_20 : (iA (xs i) 31) = 20
        · skip
          refine WP.tabIn (off := 606) (tgt := 638) dL_law_32 (iA_r) (by omega) (by omega) (by rw [h32_20]; rfl) (by decide) ?_
          refine WP.aload_n dL_law_638 rfl ?_
          refine WP.aload_n dL_law_639 rfl ?_
          refine WP.iload_n dL_law_640 rfl ?_
          refine WP.iconst dL_law_641 ?_
          refine WP.iadd dL_law_642 ?_
          refine WP.sld (y := (i + 1)) dL_law_643 (by omega) (by omega) ?_
          refine WP.aload_n dL_law_644 rfl ?_
          refine WP.iload_n dL_law_645 rfl ?_
          refine WP.iconst dL_law_646 ?_
          refine WP.iadd dL_law_647 ?_
          refine WP.sld (y := (i + 2)) dL_law_648 (by omega) (by omega) ?_
          refine WP.callV (as := [vI (xs (i + 1)), vI (xs (i + 2))]) dL_law_649 mv_L_98 rfl (rfl) (by decide) rfl rfl (x_audit hX9 (hxs _) (hxs _)) rfl (Nat.le_of_ble_eq_true rfl) (by omega) (fun r9 M2 h9 => ?_)
          obtain ⟨rfl, hX2, hF2⟩ := h9
          have hM2 : InvM M2 (mkS n k sz ce h hs im len tx) := hM9.fr hF2
          show WP (L, xs) 50 m_L_law 652 [vR 179, vR 42, vR 167, vI ((i : Nat) : Int)] [vI ((o_audit (mkS n k sz ce h hs im len tx) (xs (i + 1)) (xs (i + 2))).1)] M2 (fun z _ => z = some (vI 1))
          refine WP.aload_n dL_law_652 rfl ?_
          refine WP.aload_n dL_law_653 rfl ?_
          refine WP.iload_n dL_law_654 rfl ?_
          refine WP.iconst dL_law_655 ?_
          refine WP.iadd dL_law_656 ?_
          refine WP.sld (y := (i + 1)) dL_law_657 (by omega) (by omega) ?_
          refine WP.aload_n dL_law_658 rfl ?_
          refine WP.iload_n dL_law_659 rfl ?_
          refine WP.iconst dL_law_660 ?_
          refine WP.iadd dL_law_661 ?_
          refine WP.sld (y := (i + 2)) dL_law_662 (by omega) (by omega) ?_
          refine WP.callV (as := [vI (xs (i + 1)), vI (xs (i + 2))]) dL_law_663 mv_L_101 rfl (rfl) (by decide) rfl rfl (y_audit hM2 (hxs _) (hxs _)) rfl (Nat.le_of_ble_eq_true rfl) (by omega) (fun r9 M3 h9 => ?_)
          obtain ⟨rfl, hM3, hF3⟩ := h9
          have hX3 := hX2.fr hF3
          show WP (L, xs) 50 m_L_law 666 [vR 179, vR 42, vR 167, vI ((i : Nat) : Int)] [vI ((o_audit (mkS n k sz ce h hs im len tx) (xs (i + 1)) (xs (i + 2))).1), vI ((o_audit (mkS n k sz ce h hs im len tx) (xs (i + 1)) (xs (i + 2))).1)] M3 (fun z _ => z = some (vI 1))
          refine WP.icmp_same (tgt := 918) dL_law_666 (by decide) ?_
          refine WP.iinc (lt := [vR 179, vR 42, vR 167, vI (((i : Nat) : Int) + 5)]) dL_law_918 rfl (by decide) rfl ?_
          refine WP.goto (tgt := 18) dL_law_921 (by decide) ?_
          refine WP.fgt (lt := [vR 179, vR 42, vR 167, vI (((i + 5) : Nat) : Int)]) ⟨Or.inr rfl, Or.inr rfl, Or.inr rfl, Or.inr (congrArg vI (by omega)), trivial⟩ ?_
          exact ih18 (i + 5) ((o_audit (mkS n k sz ce h hs im len tx) (xs (i + 1)) (xs (i + 2))).2) (M3) (by omega) (hX3) (hM3) (by omega)
        by_cases h32_21 : (iA (xs i) 31) = 21
        · skip
          refine WP.tabIn (off := 639) (tgt := 671) dL_law_32 (iA_r) (by omega) (by omega) (by rw [h32_21]; rfl) (by decide) ?_
          refine WP.aload_n dL_law_671 rfl ?_
          refine WP.aload_n dL_law_672 rfl ?_
          refine WP.iload_n dL_law_673 rfl ?_
          refine WP.iconst dL_law_674 ?_
          refine WP.iadd dL_law_675 ?_
          refine WP.sld (y := (i + 1)) dL_law_676 (by omega) (by omega) ?_
          refine WP.aload_n dL_law_677 rfl ?_
          refine WP.iload_n dL_law_678 rfl ?_
          refine WP.iconst dL_law_679 ?_
          refine WP.iadd dL_law_680 ?_
          refine WP.sld (y := (i + 2)) dL_law_681 (by omega) (by omega) ?_
          refine WP.callV (as := [vI (xs (i + 1)), vI (xs (i + 2))]) dL_law_682 mv_L_102 rfl (rfl) (by decide) rfl rfl (x_agreement hX9 (hxs _) (hxs _)) rfl (Nat.le_of_ble_eq_true rfl) (by omega) (fun r9 M2 h9 => ?_)
          obtain ⟨rfl, hX2, hF2⟩ := h9
          have hM2 : InvM M2 (mkS n k sz ce h hs im len tx) := hM9.fr hF2
          show WP (L, xs) 50 m_L_law 685 [vR 179, vR 42, vR 167, vI ((i : Nat) : Int)] [vI ((o_agreement (mkS n k sz ce h hs im len tx) (xs (i + 1)) (xs (i + 2))).1)] M2 (fun z _ => z = some (vI 1))
          refine WP.aload_n dL_law_685 rfl ?_
          refine WP.aload_n dL_law_686 rfl ?_
          refine WP.iload_n dL_law_687 rfl ?_
          refine WP.iconst dL_law_688 ?_
          refine WP.iadd dL_law_689 ?_
          refine WP.sld (y := (i + 1)) dL_law_690 (by omega) (by omega) ?_
          refine WP.aload_n dL_law_691 rfl ?_
          refine WP.iload_n dL_law_692 rfl ?_
          refine WP.iconst dL_law_693 ?_
          refine WP.iadd dL_law_694 ?_
          refine WP.sld (y := (i + 2)) dL_law_695 (by omega) (by omega) ?_
          refine WP.callV (as := [vI (xs (i + 1)), vI (xs (i + 2))]) dL_law_696 mv_L_105 rfl (rfl) (by decide) rfl rfl (y_agreement hM2 (hxs _) (hxs _)) rfl (Nat.le_of_ble_eq_true rfl) (by omega) (fun r9 M3 h9 => ?_)
          obtain ⟨rfl, hM3, hF3⟩ := h9
          have hX3 := hX2.fr hF3
          show WP (L, xs) 50 m_L_law 699 [vR 179, vR 42, vR 167, vI ((i : Nat) : Int)] [vI ((o_agreement (mkS n k sz ce h hs im len tx) (xs (i + 1)) (xs (i + 2))).1), vI ((o_agreement (mkS n k sz ce h hs im len tx) (xs (i + 1)) (xs (i + 2))).1)] M3 (fun z _ => z = some (vI 1))
          refine WP.icmp_same (tgt := 918) dL_law_699 (by decide) ?_
          refine WP.iinc (lt := [vR 179, vR 42, vR 167, vI (((i : Nat) : Int) + 5)]) dL_law_918 rfl (by decide) rfl ?_
          refine WP.goto (tgt := 18) dL_law_921 (by decide) ?_
          refine WP.fgt (lt := [vR 179, vR 42, vR 167, vI (((i + 5) : Nat) : Int)]) ⟨Or.inr rfl, Or.inr rfl, Or.inr rfl, Or.inr (congrArg vI (by omega)), trivial⟩ ?_
          exact ih18 (i + 5) ((o_agreement (mkS n k sz ce h hs im len tx) (xs (i + 1)) (xs (i + 2))).2) (M3) (by omega) (hX3) (hM3) (by omega)
        by_cases h32_22 : (iA (xs i) 31) = 22
        · skip
          refine WP.tabIn (off := 672) (tgt := 704) dL_law_32 (iA_r) (by omega) (by omega) (by rw [h32_22]; rfl) (by decide) ?_
          refine WP.aload_n dL_law_704 rfl ?_
          refine WP.aload_n dL_law_705 rfl ?_
          refine WP.iload_n dL_law_706 rfl ?_
          refine WP.iconst dL_law_707 ?_
          refine WP.iadd dL_law_708 ?_
          refine WP.sld (y := (i + 1)) dL_law_709 (by omega) (by omega) ?_
          refine WP.callV (as := [vI (xs (i + 1))]) dL_law_710 mv_L_106 rfl (rfl) (by decide) rfl rfl (x_pairs hX9 (hxs _)) rfl (Nat.le_of_ble_eq_true rfl) (by omega) (fun r9 M2 h9 => ?_)
          obtain ⟨rfl, hX2, hF2⟩ := h9
          have hM2 : InvM M2 (mkS n k sz ce h hs im len tx) := hM9.fr hF2
          show WP (L, xs) 50 m_L_law 713 [vR 179, vR 42, vR 167, vI ((i : Nat) : Int)] [vI ((o_pairs (mkS n k sz ce h hs im len tx) (xs (i + 1))).1)] M2 (fun z _ => z = some (vI 1))
          refine WP.aload_n dL_law_713 rfl ?_
          refine WP.aload_n dL_law_714 rfl ?_
          refine WP.iload_n dL_law_715 rfl ?_
          refine WP.iconst dL_law_716 ?_
          refine WP.iadd dL_law_717 ?_
          refine WP.sld (y := (i + 1)) dL_law_718 (by omega) (by omega) ?_
          refine WP.callV (as := [vI (xs (i + 1))]) dL_law_719 mv_L_109 rfl (rfl) (by decide) rfl rfl (y_pairs hM2 (hxs _)) rfl (Nat.le_of_ble_eq_true rfl) (by omega) (fun r9 M3 h9 => ?_)
          obtain ⟨rfl, hM3, hF3⟩ := h9
          have hX3 := hX2.fr hF3
          show WP (L, xs) 50 m_L_law 722 [vR 179, vR 42, vR 167, vI ((i : Nat) : Int)] [vI ((o_pairs (mkS n k sz ce h hs im len tx) (xs (i + 1))).1), vI ((o_pairs (mkS n k sz ce h hs im len tx) (xs (i + 1))).1)] M3 (fun z _ => z = some (vI 1))
          refine WP.icmp_same (tgt := 918) dL_law_722 (by decide) ?_
          refine WP.iinc (lt := [vR 179, vR 42, vR 167, vI (((i : Nat) : Int) + 5)]) dL_law_918 rfl (by decide) rfl ?_
          refine WP.goto (tgt := 18) dL_law_921 (by decide) ?_
          refine WP.fgt (lt := [vR 179, vR 42, vR 167, vI (((i + 5) : Nat) : Int)]) ⟨Or.inr rfl, Or.inr rfl, Or.inr rfl, Or.inr (congrArg vI (by omega)), trivial⟩ ?_
          exact ih18 (i + 5) ((o_pairs (mkS n k sz ce h hs im len tx) (xs (i + 1))).2) (M3) (by omega) (hX3) (hM3) (by omega)
        by_cases h32_23 : (iA (xs i) 31) = 23
        · skip
          refine WP.tabIn (off := 695) (tgt := 727) dL_law_32 (iA_r) (by omega) (by omega) (by rw [h32_23]; rfl) (by decide) ?_
          refine WP.aload_n dL_law_727 rfl ?_
          refine WP.aload_n dL_law_728 rfl ?_
          refine WP.iload_n dL_law_729 rfl ?_
          refine WP.iconst dL_law_730 ?_
          refine WP.iadd dL_law_731 ?_
          refine WP.sld (y := (i + 1)) dL_law_732 (by omega) (by omega) ?_
          refine WP.aload_n dL_law_733 rfl ?_
          refine WP.iload_n dL_law_734 rfl ?_
          refine WP.iconst dL_law_735 ?_
          refine WP.iadd dL_law_736 ?_
          refine WP.sld (y := (i + 2)) dL_law_737 (by omega) (by omega) ?_
          refine WP.callV (as := [vI (xs (i + 1)), vI (xs (i + 2))]) dL_law_738 mv_L_110 rfl (rfl) (by decide) rfl rfl (x_extension hX9 (hxs _) (hxs _)) rfl (Nat.le_of_ble_eq_true rfl) (by omega) (fun r9 M2 h9 => ?_)
          obtain ⟨rfl, hX2, hF2⟩ := h9
          have hM2 : InvM M2 (mkS n k sz ce h hs im len tx) := hM9.fr hF2
          show WP (L, xs) 50 m_L_law 741 [vR 179, vR 42, vR 167, vI ((i : Nat) : Int)] [vI ((o_extension (mkS n k sz ce h hs im len tx) (xs (i + 1)) (xs (i + 2))).1)] M2 (fun z _ => z = some (vI 1))
          refine WP.aload_n dL_law_741 rfl ?_
          refine WP.aload_n dL_law_742 rfl ?_
          refine WP.iload_n dL_law_743 rfl ?_
          refine WP.iconst dL_law_744 ?_
          refine WP.iadd dL_law_745 ?_
          refine WP.sld (y := (i + 1)) dL_law_746 (by omega) (by omega) ?_
          refine WP.aload_n dL_law_747 rfl ?_
          refine WP.iload_n dL_law_748 rfl ?_
          refine WP.iconst dL_law_749 ?_
          refine WP.iadd dL_law_750 ?_
          refine WP.sld (y := (i + 2)) dL_law_751 (by omega) (by omega) ?_
          refine WP.callV (as := [vI (xs (i + 1)), vI (xs (i + 2))]) dL_law_752 mv_L_113 rfl (rfl) (by decide) rfl rfl (y_extension hM2 (hxs _) (hxs _)) rfl (Nat.le_of_ble_eq_true rfl) (by omega) (fun r9 M3 h9 => ?_)
          obtain ⟨rfl, hM3, hF3⟩ := h9
          have hX3 := hX2.fr hF3
          show WP (L, xs) 50 m_L_law 755 [vR 179, vR 42, vR 167, vI ((i : Nat) : Int)] [vI ((o_extension (mkS n k sz ce h hs im len tx) (xs (i + 1)) (xs (i + 2))).1), vI ((o_extension (mkS n k sz ce h hs im len tx) (xs (i + 1)) (xs (i + 2))).1)] M3 (fun z _ => z = some (vI 1))
          refine WP.icmp_same (tgt := 918) dL_law_755 (by decide) ?_
          refine WP.iinc (lt := [vR 179, vR 42, vR 167, vI (((i : Nat) : Int) + 5)]) dL_law_918 rfl (by decide) rfl ?_
          refine WP.goto (tgt := 18) dL_law_921 (by decide) ?_
          refine WP.fgt (lt := [vR 179, vR 42, vR 167, vI (((i + 5) : Nat) : Int)]) ⟨Or.inr rfl, Or.inr rfl, Or.inr rfl, Or.inr (congrArg vI (by omega)), trivial⟩ ?_
          exact ih18 (i + 5) ((o_extension (mkS n k sz ce h hs im len tx) (xs (i + 1)) (xs (i + 2))).2) (M3) (by omega) (hX3) (hM3) (by omega)
        by_cases h32_24 : (iA (xs i) 31) = 24
        · skip
          refine WP.tabIn (off := 728) (tgt := 760) dL_law_32 (iA_r) (by omega) (by omega) (by rw [h32_24]; rfl) (by decide) ?_
          refine WP.aload_n dL_law_760 rfl ?_
          refine WP.aload_n dL_law_761 rfl ?_
          refine WP.iload_n dL_law_762 rfl ?_
          refine WP.iconst dL_law_763 ?_
          refine WP.iadd dL_law_764 ?_
          refine WP.sld (y := (i + 1)) dL_law_765 (by omega) (by omega) ?_
          refine WP.callV (as := [vI (xs (i + 1))]) dL_law_766 mv_L_114 rfl (rfl) (by decide) rfl rfl (x_extend hX9 (hxs _)) rfl (Nat.le_of_ble_eq_true rfl) (by omega) (fun r9 M2 h9 => ?_)
          obtain ⟨rfl, hX2, hF2⟩ := h9
          have hM2 : InvM M2 (mkS n k sz ce h hs im len tx) := hM9.fr hF2
          show WP (L, xs) 50 m_L_law 769 [vR 179, vR 42, vR 167, vI ((i : Nat) : Int)] [vI ((o_extend (mkS n k sz ce h hs im len tx) (xs (i + 1))).1)] M2 (fun z _ => z = some (vI 1))
          refine WP.aload_n dL_law_769 rfl ?_
          refine WP.aload_n dL_law_770 rfl ?_
          refine WP.iload_n dL_law_771 rfl ?_
          refine WP.iconst dL_law_772 ?_
          refine WP.iadd dL_law_773 ?_
          refine WP.sld (y := (i + 1)) dL_law_774 (by omega) (by omega) ?_
          refine WP.callV (as := [vI (xs (i + 1))]) dL_law_775 mv_L_117 rfl (rfl) (by decide) rfl rfl (y_extend hM2 (hxs _)) rfl (Nat.le_of_ble_eq_true rfl) (by omega) (fun r9 M3 h9 => ?_)
          obtain ⟨rfl, hM3, hF3⟩ := h9
          have hX3 := hX2.fr hF3
          show WP (L, xs) 50 m_L_law 778 [vR 179, vR 42, vR 167, vI ((i : Nat) : Int)] [vI ((o_extend (mkS n k sz ce h hs im len tx) (xs (i + 1))).1), vI ((o_extend (mkS n k sz ce h hs im len tx) (xs (i + 1))).1)] M3 (fun z _ => z = some (vI 1))
          refine WP.icmp_same (tgt := 918) dL_law_778 (by decide) ?_
          refine WP.iinc (lt := [vR 179, vR 42, vR 167, vI (((i : Nat) : Int) + 5)]) dL_law_918 rfl (by decide) rfl ?_
          refine WP.goto (tgt := 18) dL_law_921 (by decide) ?_
          refine WP.fgt (lt := [vR 179, vR 42, vR 167, vI (((i + 5) : Nat) : Int)]) ⟨Or.inr rfl, Or.inr rfl, Or.inr rfl, Or.inr (congrArg vI (by omega)), trivial⟩ ?_
          exact ih18 (i + 5) ((o_extend (mkS n k sz ce h hs im len tx) (xs (i + 1))).2) (M3) (by omega) (hX3) (hM3) (by omega)
        by_cases h32_25 : (iA (xs i) 31) = 25
        · skip
          refine WP.tabIn (off := 751) (tgt := 783) dL_law_32 (iA_r) (by omega) (by omega) (by rw [h32_25]; rfl) (by decide) ?_
          refine WP.aload_n dL_law_783 rfl ?_
          refine WP.aload_n dL_law_784 rfl ?_
          refine WP.iload_n dL_law_785 rfl ?_
          refine WP.iconst dL_law_786 ?_
          refine WP.iadd dL_law_787 ?_
          refine WP.sld (y := (i + 1)) dL_law_788 (by omega) (by omega) ?_
          refine WP.callV (as := [vI (xs (i + 1))]) dL_law_789 mv_L_118 rfl (rfl) (by decide) rfl rfl (x_spare hX9 (hxs _)) rfl (Nat.le_of_ble_eq_true rfl) (by omega) (fun r9 M2 h9 => ?_)
          obtain ⟨rfl, hX2, hF2⟩ := h9
          have hM2 : InvM M2 (mkS n k sz ce h hs im len tx) := hM9.fr hF2
          show WP (L, xs) 50 m_L_law 792 [vR 179, vR 42, vR 167, vI ((i : Nat) : Int)] [vI ((o_spare (mkS n k sz ce h hs im len tx) (xs (i + 1))).1)] M2 (fun z _ => z = some (vI 1))
          refine WP.aload_n dL_law_792 rfl ?_
          refine WP.aload_n dL_law_793 rfl ?_
          refine WP.iload_n dL_law_794 rfl ?_
          refine WP.iconst dL_law_795 ?_
          refine WP.iadd dL_law_796 ?_
          refine WP.sld (y := (i + 1)) dL_law_797 (by omega) (by omega) ?_
          refine WP.callV (as := [vI (xs (i + 1))]) dL_law_798 mv_L_121 rfl (rfl) (by decide) rfl rfl (y_spare hM2 (hxs _)) rfl (Nat.le_of_ble_eq_true rfl) (by omega) (fun r9 M3 h9 => ?_)
          obtain ⟨rfl, hM3, hF3⟩ := h9
          have hX3 := hX2.fr hF3
          show WP (L, xs) 50 m_L_law 801 [vR 179, vR 42, vR 167, vI ((i : Nat) : Int)] [vI ((o_spare (mkS n k sz ce h hs im len tx) (xs (i + 1))).1), vI ((o_spare (mkS n k sz ce h hs im len tx) (xs (i + 1))).1)] M3 (fun z _ => z = some (vI 1))
          refine WP.icmp_same (tgt := 918) dL_law_801 (by decide) ?_
          refine WP.iinc (lt := [vR 179, vR 42, vR 167, vI (((i : Nat) : Int) + 5)]) dL_law_918 rfl (by decide) rfl ?_
          refine WP.goto (tgt := 18) dL_law_921 (by decide) ?_
          refine WP.fgt (lt := [vR 179, vR 42, vR 167, vI (((i + 5) : Nat) : Int)]) ⟨Or.inr rfl, Or.inr rfl, Or.inr rfl, Or.inr (congrArg vI (by omega)), trivial⟩ ?_
          exact ih18 (i + 5) ((o_spare (mkS n k sz ce h hs im len tx) (xs (i + 1))).2) (M3) (by omega) (hX3) (hM3) (by omega)
        by_cases h32_26 : (iA (xs i) 31) = 26
        · skip
          refine WP.tabIn (off := 774) (tgt := 806) dL_law_32 (iA_r) (by omega) (by omega) (by rw [h32_26]; rfl) (by decide) ?_
          refine WP.aload_n dL_law_806 rfl ?_
          refine WP.aload_n dL_law_807 rfl ?_
          refine WP.iload_n dL_law_808 rfl ?_
          refine WP.iconst dL_law_809 ?_
          refine WP.iadd dL_law_810 ?_
          refine WP.sld (y := (i + 1)) dL_law_811 (by omega) (by omega) ?_
          refine WP.callV (as := [vI (xs (i + 1))]) dL_law_812 mv_L_122 rfl (rfl) (by decide) rfl rfl (x_keep hX9 (hxs _)) rfl (Nat.le_of_ble_eq_true rfl) (by omega) (fun r9 M2 h9 => ?_)
          obtain ⟨rfl, hX2, hF2⟩ := h9
          have hM2 : InvM M2 (mkS n k sz ce h hs im len tx) := hM9.fr hF2
          show WP (L, xs) 50 m_L_law 815 [vR 179, vR 42, vR 167, vI ((i : Nat) : Int)] [vI ((o_keep (mkS n k sz ce h hs im len tx) (xs (i + 1))).1)] M2 (fun z _ => z = some (vI 1))
          refine WP.aload_n dL_law_815 rfl ?_
          refine WP.aload_n dL_law_816 rfl ?_
          refine WP.iload_n dL_law_817 rfl ?_
          refine WP.iconst dL_law_818 ?_
          refine WP.iadd dL_law_819 ?_
          refine WP.sld (y := (i + 1)) dL_law_820 (by omega) (by omega) ?_
          refine WP.callV (as := [vI (xs (i + 1))]) dL_law_821 mv_L_125 rfl (rfl) (by decide) rfl rfl (y_keep hM2 (hxs _)) rfl (Nat.le_of_ble_eq_true rfl) (by omega) (fun r9 M3 h9 => ?_)
          obtain ⟨rfl, hM3, hF3⟩ := h9
          have hX3 := hX2.fr hF3
          show WP (L, xs) 50 m_L_law 824 [vR 179, vR 42, vR 167, vI ((i : Nat) : Int)] [vI ((o_keep (mkS n k sz ce h hs im len tx) (xs (i + 1))).1), vI ((o_keep (mkS n k sz ce h hs im len tx) (xs (i + 1))).1)] M3 (fun z _ => z = some (vI 1))
          refine WP.icmp_same (tgt := 918) dL_law_824 (by decide) ?_
          refine WP.iinc (lt := [vR 179, vR 42, vR 167, vI (((i : Nat) : Int) + 5)]) dL_law_918 rfl (by decide) rfl ?_
          refine WP.goto (tgt := 18) dL_law_921 (by decide) ?_
          refine WP.fgt (lt := [vR 179, vR 42, vR 167, vI (((i + 5) : Nat) : Int)]) ⟨Or.inr rfl, Or.inr rfl, Or.inr rfl, Or.inr (congrArg vI (by omega)), trivial⟩ ?_
          exact ih18 (i + 5) ((o_keep (mkS n k sz ce h hs im len tx) (xs (i + 1))).2) (M3) (by omega) (hX3) (hM3) (by omega)
        by_cases h32_27 : (iA (xs i) 31) = 27
        · skip
          refine WP.tabIn (off := 797) (tgt := 829) dL_law_32 (iA_r) (by omega) (by omega) (by rw [h32_27]; rfl) (by decide) ?_
          refine WP.aload_n dL_law_829 rfl ?_
          refine WP.aload_n dL_law_830 rfl ?_
          refine WP.iload_n dL_law_831 rfl ?_
          refine WP.iconst dL_law_832 ?_
          refine WP.iadd dL_law_833 ?_
          refine WP.sld (y := (i + 1)) dL_law_834 (by omega) (by omega) ?_
          refine WP.callV (as := [vI (xs (i + 1))]) dL_law_835 mv_L_126 rfl (rfl) (by decide) rfl rfl (x_back hX9 (hxs _)) rfl (Nat.le_of_ble_eq_true rfl) (by omega) (fun r9 M2 h9 => ?_)
          obtain ⟨rfl, hX2, hF2⟩ := h9
          have hM2 : InvM M2 (mkS n k sz ce h hs im len tx) := hM9.fr hF2
          show WP (L, xs) 50 m_L_law 838 [vR 179, vR 42, vR 167, vI ((i : Nat) : Int)] [vI ((o_back (mkS n k sz ce h hs im len tx) (xs (i + 1))).1)] M2 (fun z _ => z = some (vI 1))
          refine WP.aload_n dL_law_838 rfl ?_
          refine WP.aload_n dL_law_839 rfl ?_
          refine WP.iload_n dL_law_840 rfl ?_
          refine WP.iconst dL_law_841 ?_
          refine WP.iadd dL_law_842 ?_
          refine WP.sld (y := (i + 1)) dL_law_843 (by omega) (by omega) ?_
          refine WP.callV (as := [vI (xs (i + 1))]) dL_law_844 mv_L_129 rfl (rfl) (by decide) rfl rfl (y_back hM2 (hxs _)) rfl (Nat.le_of_ble_eq_true rfl) (by omega) (fun r9 M3 h9 => ?_)
          obtain ⟨rfl, hM3, hF3⟩ := h9
          have hX3 := hX2.fr hF3
          show WP (L, xs) 50 m_L_law 847 [vR 179, vR 42, vR 167, vI ((i : Nat) : Int)] [vI ((o_back (mkS n k sz ce h hs im len tx) (xs (i + 1))).1), vI ((o_back (mkS n k sz ce h hs im len tx) (xs (i + 1))).1)] M3 (fun z _ => z = some (vI 1))
          refine WP.icmp_same (tgt := 918) dL_law_847 (by decide) ?_
          refine WP.iinc (lt := [vR 179, vR 42, vR 167, vI (((i : Nat) : Int) + 5)]) dL_law_918 rfl (by decide) rfl ?_
          refine WP.goto (tgt := 18) dL_law_921 (by decide) ?_
          refine WP.fgt (lt := [vR 179, vR 42, vR 167, vI (((i + 5) : Nat) : Int)]) ⟨Or.inr rfl, Or.inr rfl, Or.inr rfl, Or.inr (congrArg vI (by omega)), trivial⟩ ?_
          exact ih18 (i + 5) ((o_back (mkS n k sz ce h hs im len tx) (xs (i + 1))).2) (M3) (by omega) (hX3) (hM3) (by omega)
        by_cases h32_28 : (iA (xs i) 31) = 28
        · skip
          refine WP.tabIn (off := 820) (tgt := 852) dL_law_32 (iA_r) (by omega) (by omega) (by rw [h32_28]; rfl) (by decide) ?_
          refine WP.aload_n dL_law_852 rfl ?_
          refine WP.aload_n dL_law_853 rfl ?_
          refine WP.iload_n dL_law_854 rfl ?_
          refine WP.iconst dL_law_855 ?_
          refine WP.iadd dL_law_856 ?_
          refine WP.sld (y := (i + 1)) dL_law_857 (by omega) (by omega) ?_
          refine WP.callV (as := [vI (xs (i + 1))]) dL_law_858 mv_L_130 rfl (rfl) (by decide) rfl rfl (x_isIso hX9 (hxs _)) rfl (Nat.le_of_ble_eq_true rfl) (by omega) (fun r9 M2 h9 => ?_)
          obtain ⟨rfl, hX2, hF2⟩ := h9
          have hM2 : InvM M2 (mkS n k sz ce h hs im len tx) := hM9.fr hF2
          show WP (L, xs) 50 m_L_law 861 [vR 179, vR 42, vR 167, vI ((i : Nat) : Int)] [vI ((o_isIso (mkS n k sz ce h hs im len tx) (xs (i + 1))).1)] M2 (fun z _ => z = some (vI 1))
          refine WP.aload_n dL_law_861 rfl ?_
          refine WP.aload_n dL_law_862 rfl ?_
          refine WP.iload_n dL_law_863 rfl ?_
          refine WP.iconst dL_law_864 ?_
          refine WP.iadd dL_law_865 ?_
          refine WP.sld (y := (i + 1)) dL_law_866 (by omega) (by omega) ?_
          refine WP.callV (as := [vI (xs (i + 1))]) dL_law_867 mv_L_133 rfl (rfl) (by decide) rfl rfl (y_isIso hM2 (hxs _)) rfl (Nat.le_of_ble_eq_true rfl) (by omega) (fun r9 M3 h9 => ?_)
          obtain ⟨rfl, hM3, hF3⟩ := h9
          have hX3 := hX2.fr hF3
          show WP (L, xs) 50 m_L_law 870 [vR 179, vR 42, vR 167, vI ((i : Nat) : Int)] [vI ((o_isIso (mkS n k sz ce h hs im len tx) (xs (i + 1))).1), vI ((o_isIso (mkS n k sz ce h hs im len tx) (xs (i + 1))).1)] M3 (fun z _ => z = some (vI 1))
          refine WP.icmp_same (tgt := 918) dL_law_870 (by decide) ?_
          refine WP.iinc (lt := [vR 179, vR 42, vR 167, vI (((i : Nat) : Int) + 5)]) dL_law_918 rfl (by decide) rfl ?_
          refine WP.goto (tgt := 18) dL_law_921 (by decide) ?_
          refine WP.fgt (lt := [vR 179, vR 42, vR 167, vI (((i + 5) : Nat) : Int)]) ⟨Or.inr rfl, Or.inr rfl, Or.inr rfl, Or.inr (congrArg vI (by omega)), trivial⟩ ?_
          exact ih18 (i + 5) ((o_isIso (mkS n k sz ce h hs im len tx) (xs (i + 1))).2) (M3) (by omega) (hX3) (hM3) (by omega)
        by_cases h32_29 : (iA (xs i) 31) = 29
        · skip
          refine WP.tabIn (off := 843) (tgt := 875) dL_law_32 (iA_r) (by omega) (by omega) (by rw [h32_29]; rfl) (by decide) ?_
          refine WP.aload_n dL_law_875 rfl ?_
          refine WP.aload_n dL_law_876 rfl ?_
          refine WP.iload_n dL_law_877 rfl ?_
          refine WP.iconst dL_law_878 ?_
          refine WP.iadd dL_law_879 ?_
          refine WP.sld (y := (i + 1)) dL_law_880 (by omega) (by omega) ?_
          refine WP.aload_n dL_law_881 rfl ?_
          refine WP.iload_n dL_law_882 rfl ?_
          refine WP.iconst dL_law_883 ?_
          refine WP.iadd dL_law_884 ?_
          refine WP.sld (y := (i + 2)) dL_law_885 (by omega) (by omega) ?_
          refine WP.aload_n dL_law_886 rfl ?_
          refine WP.iload_n dL_law_887 rfl ?_
          refine WP.iconst dL_law_888 ?_
          refine WP.iadd dL_law_889 ?_
          refine WP.sld (y := (i + 3)) dL_law_890 (by omega) (by omega) ?_
          refine WP.callV (as := [vI (xs (i + 1)), vI (xs (i + 2)), vI (xs (i + 3))]) dL_law_891 mv_L_134 rfl (rfl) (by decide) rfl rfl (x_mapped hX9 (hxs _) (hxs _) (hxs _)) rfl (Nat.le_of_ble_eq_true rfl) (by omega) (fun r9 M2 h9 => ?_)
          obtain ⟨rfl, hX2, hF2⟩ := h9
          have hM2 : InvM M2 (mkS n k sz ce h hs im len tx) := hM9.fr hF2
          show WP (L, xs) 50 m_L_law 894 [vR 179, vR 42, vR 167, vI ((i : Nat) : Int)] [vI ((o_mapped (mkS n k sz ce h hs im len tx) (xs (i + 1)) (xs (i + 2)) (xs (i + 3))).1)] M2 (fun z _ => z = some (vI 1))
          refine WP.aload_n dL_law_894 rfl ?_
          refine WP.aload_n dL_law_895 rfl ?_
          refine WP.iload_n dL_law_896 rfl ?_
          refine WP.iconst dL_law_897 ?_
          refine WP.iadd dL_law_898 ?_
          refine WP.sld (y := (i + 1)) dL_law_899 (by omega) (by omega) ?_
          refine WP.aload_n dL_law_900 rfl ?_
          refine WP.iload_n dL_law_901 rfl ?_
          refine WP.iconst dL_law_902 ?_
          refine WP.iadd dL_law_903 ?_
          refine WP.sld (y := (i + 2)) dL_law_904 (by omega) (by omega) ?_
          refine WP.aload_n dL_law_905 rfl ?_
          refine WP.iload_n dL_law_906 rfl ?_
          refine WP.iconst dL_law_907 ?_
          refine WP.iadd dL_law_908 ?_
          refine WP.sld (y := (i + 3)) dL_law_909 (by omega) (by omega) ?_
          refine WP.callV (as := [vI (xs (i + 1)), vI (xs (i + 2)), vI (xs (i + 3))]) dL_law_910 mv_L_137 rfl (rfl) (by decide) rfl rfl (y_mapped hM2 (hxs _) (hxs _) (hxs _)) rfl (Nat.le_of_ble_eq_true rfl) (by omega) (fun r9 M3 h9 => ?_)
          obtain ⟨rfl, hM3, hF3⟩ := h9
          have hX3 := hX2.fr hF3
          show WP (L, xs) 50 m_L_law 913 [vR 179, vR 42, vR 167, vI ((i : Nat) : Int)] [vI ((o_mapped (mkS n k sz ce h hs im len tx) (xs (i + 1)) (xs (i + 2)) (xs (i + 3))).1), vI ((o_mapped (mkS n k sz ce h hs im len tx) (xs (i + 1)) (xs (i + 2)) (xs (i + 3))).1)] M3 (fun z _ => z = some (vI 1))
          refine WP.icmp_same (tgt := 918) dL_law_913 (by decide) ?_
          refine WP.iinc (lt := [vR 179, vR 42, vR 167, vI (((i : Nat) : Int) + 5)]) dL_law_918 rfl (by decide) rfl ?_
          refine WP.goto (tgt := 18) dL_law_921 (by decide) ?_
          refine WP.fgt (lt := [vR 179, vR 42, vR 167, vI (((i + 5) : Nat) : Int)]) ⟨Or.inr rfl, Or.inr rfl, Or.inr rfl, Or.inr (congrArg vI (by omega)), trivial⟩ ?_
          exact ih18 (i + 5) ((o_mapped (mkS n k sz ce h hs im len tx) (xs (i + 1)) (xs (i + 2)) (xs (i + 3))).2) (M3) (by omega) (hX3) (hM3) (by omega)
        refine WP.tabOut (tgt := 918) dL_law_32 (iA_r) (by omega) (by decide) ?_
        refine WP.iinc (lt := [vR 179, vR 42, vR 167, vI (((i : Nat) : Int) + 5)]) dL_law_918 rfl (by decide) rfl ?_
        refine WP.goto (tgt := 18) dL_law_921 (by decide) ?_
        refine WP.fgt (lt := [vR 179, vR 42, vR 167, vI (((i + 5) : Nat) : Int)]) ⟨Or.inr rfl, Or.inr rfl, Or.inr rfl, Or.inr (congrArg vI (by omega)), trivial⟩ ?_
        exact ih18 (i + 5) ((mkS n k sz ce h hs im len tx)) (M1) (by omega) (hX9) (hM9) (by omega)
  refine WP.fgt (lt := [vR 179, vR 42, vR 167, vI ((0 : Nat) : Int)]) ⟨Or.inr rfl, Or.inr rfl, Or.inr rfl, Or.inr (congrArg vI (by omega)), trivial⟩ ?_
  exact L18 _ (0) (S0) (M0) (Nat.zero_le _) (hX0) (hM0) (Nat.lt_succ_self _)
