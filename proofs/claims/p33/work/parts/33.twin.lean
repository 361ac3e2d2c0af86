/-! two benches: cells 0 to 166 are one's, 167 to 333 the other's, in the same order -/
theorem sw_sw (k : Nat) : sw (sw k) = k := by
  unfold sw
  by_cases h1 : k < 167
  · rw [if_pos h1, if_neg (by omega), if_pos (by omega)]; omega
  · rw [if_neg h1]
    by_cases h2 : k < 334
    · rw [if_pos h2, if_pos (by omega)]; omega
    · rw [if_neg h2, if_neg h1, if_neg h2]
theorem sw_lt {k : Nat} (h : k < 334) : sw k < 334 := by
  unfold sw
  by_cases h1 : k < 167
  · rw [if_pos h1]; omega
  · rw [if_neg h1, if_pos h]; omega
theorem sw_inj {i j : Nat} (h : sw i = sw j) : i = j := by rw [← sw_sw i, h, sw_sw]
theorem sw_lo {k : Nat} (h : k < 167) : sw k = k + 167 := by unfold sw; rw [if_pos h]
theorem sw_hi {k : Nat} (h : 167 ≤ k) (h2 : k < 334) : sw k = k - 167 := by unfold sw; rw [if_neg (by omega), if_pos h2]
theorem sw_shp : ∀ k : Nat, k < 334 → shp (sw k) = shp k := by decide +kernel
theorem srf_lo {k : Nat} (h : k < 167) (j : Nat) : srf k j = srfO k j := by
  unfold srf srfO
  rw [if_pos h]
theorem srf_hi {k : Nat} (h : 167 ≤ k) (j : Nat) : srf k j = sw (srfO (k - 167) j) := by
  unfold srf
  rw [if_neg (by omega), if_neg (by omega), if_neg (by omega), if_neg (by omega), if_neg (by omega), if_neg (by omega), if_neg (by omega), if_neg (by omega), if_neg (by omega), if_neg (by omega), if_neg (by omega)]
theorem sw_srf {k : Nat} (h : k < 334) (j : Nat) : sw (srf k j) = srf (sw k) j := by
  by_cases h1 : k < 167
  · rw [srf_lo h1, sw_lo h1, srf_hi (by omega), Nat.add_sub_cancel]
  · rw [srf_hi (by omega), sw_sw, sw_hi (by omega) h, srf_lo (by omega)]
theorem sw_rel {k : Nat} (h : k < 334) (x : Nat) : sw (rel k x) = rel (sw k) x := by
  unfold rel
  by_cases h1 : k < 167
  · rw [if_pos h1, sw_lo h1, if_neg (by omega)]
  · rw [if_neg h1, sw_sw, sw_hi (by omega) h, if_pos (by omega)]
def swV (v : V) : V := match v with
  | .inr (.inr (some k)) => vR (sw k)
  | v => v
theorem swV_I (x : Int) : swV (vI x) = vI x := rfl
theorem swV_swV (v : V) : swV (swV v) = v := by
  rcases v with x | x | x
  · rfl
  · rfl
  · cases x with
    | none => rfl
    | some k => show vR (sw (sw k)) = vR k; rw [sw_sw]
def msw (M : Mem) : Mem := fun a => M (sw a)
theorem msw_msw (M : Mem) : msw (msw M) = M := by
  funext a
  show M (sw (sw a)) = M a
  rw [sw_sw]
def swE (E : EN) : EN := (E.1, fun k => E.2.1 (sw k), E.2.2)
theorem rl_sw (E : EN) (v : V) : rl (swE E) v = rl E (swV v) := by
  rcases v with x | x | x
  · rfl
  · rfl
  · cases x <;> rfl
theorem fval_sw (E : EN) {k : Nat} (h : k < 334) (ci j : Nat) (x : Int) : fval (swE E) ci k j x = fval E ci (sw k) j x := by
  unfold fval
  by_cases h2 : ftp ci j = 2
  · rw [if_pos h2, if_pos h2]
    show Value.ref (E.2.1 (sw (srf k j))) = _
    rw [sw_srf h]
  · rw [if_neg h2, if_neg h2]
    by_cases h3 : ftp ci j = 3
    · rw [if_pos h3, if_pos h3]
      show Value.ref (E.2.1 (sw (rel k x.toNat))) = _
      rw [sw_rel h]
    · rw [if_neg h3, if_neg h3]
theorem sr_sw (E : EN) {k : Nat} (h : k < 334) : (fun j => some ((swE E).2.1 (srf k j))) = fun j => some (E.2.1 (srf (sw k) j)) := by
  funext j
  show some (E.2.1 (sw (srf k j))) = _
  rw [sw_srf h]
theorem cel_sw (E : EN) {k : Nat} (h : k < 334) (row : Nat → Int) : cel (swE E) k row = cel E (sw k) row := by
  have hf : ∀ ci, (List.range (nf ci)).map (fun j => fval (swE E) ci k j (row j)) = (List.range (nf ci)).map (fun j => fval E ci (sw k) j (row j)) := fun ci => by
    congr 1
    funext j
    exact fval_sw E h ci j (row j)
  have hr := sr_sw E h
  unfold cel
  rw [sw_shp k h]
  split
  · rfl
  · rfl
  · rfl
  · rw [hr]; rfl
  · rw [hr]; rfl
  · rw [hr]; rfl
  · rw [hf]
theorem vaP_sw1 {E : EN} {M : Mem} {H : Heap} (h : va_P E.1 cl9 (wld E M) H) : va_P E.1 cl9 (wld (swE E) (msw M)) H := by
  intro k x hx
  have hk : k < 334 := by
    have := (List.getElem?_eq_some_iff.mp hx).1
    simpa [wld] using this
  rw [wld_get (swE E) (msw M) hk] at hx
  have e1 : x = (E.2.1 (sw k), cel E (sw k) (M (sw k))) := by
    rw [← Option.some.inj hx, cel_sw E hk]
    rfl
  exact h (sw k) x (by rw [e1, wld_get E M (sw_lt hk)])
theorem swE_swE (E : EN) : swE (swE E) = E := by
  show (E.1, (fun k => E.2.1 (sw (sw k))), E.2.2) = E
  have : (fun k => E.2.1 (sw (sw k))) = E.2.1 := by funext k; rw [sw_sw]
  rw [this]
theorem vaP_sw {E : EN} {M : Mem} {H : Heap} : va_P E.1 cl9 (wld (swE E) (msw M)) H ↔ va_P E.1 cl9 (wld E M) H := by
  refine ⟨fun h => ?_, vaP_sw1⟩
  have h2 := vaP_sw1 (E := swE E) (M := msw M) h
  rw [swE_swE, msw_msw] at h2
  exact h2
theorem AE_sw (E : EN) : AE (swE E) = AE E := by
  funext q
  refine propext ⟨fun ⟨k, h1, h2⟩ => ⟨sw k, sw_lt h1, h2⟩, fun ⟨k, h1, h2⟩ => ⟨sw k, sw_lt h1, ?_⟩⟩
  show q = E.2.1 (sw (sw k))
  rw [sw_sw]
  exact h2
theorem Pc_sw (E : EN) (as : List V) (M : Mem) : PcE (swE E) as (msw M) = PcE E (as.map swV) M := by
  funext v U
  have e1 : as.map (rl (swE E)) = (as.map swV).map (rl E) := by
    rw [List.map_map]
    exact List.map_congr_left (fun v _ => rl_sw E v)
  unfold PcE
  rw [e1]
  refine propext ⟨fun ⟨a1, a2, a3, a4⟩ => ⟨a1, a2, vaP_sw.mp a3, a4⟩, fun ⟨a1, a2, a3, a4⟩ => ⟨a1, a2, vaP_sw.mpr a3, a4⟩⟩
theorem om_sw (E : EN) (r : Option V) : r.map (rl (swE E)) = (r.map swV).map (rl E) := by
  cases r with
  | none => rfl
  | some v => exact congrArg some (rl_sw E v)
theorem om_sw2 (r : Option V) : (r.map swV).map swV = r := by
  cases r with
  | none => rfl
  | some v => exact congrArg some (swV_swV v)
theorem Qc_sw (E : EN) (Q : Option V → Mem → Prop) : QcE (swE E) Q = QcE E (fun r M' => Q (r.map swV) (msw M')) := by
  funext a s o t
  unfold QcE
  rw [AE_sw]
  refine propext ⟨fun ⟨⟨r, M', a1, a2, a3⟩, a4⟩ => ⟨⟨r.map swV, msw M', by rw [← om_sw]; exact a1, by
    show Q ((r.map swV).map swV) (msw (msw M'))
    rw [om_sw2, msw_msw]
    exact a2, ?_⟩, a4⟩, fun ⟨⟨r, M', a1, a2, a3⟩, a4⟩ => ⟨⟨r.map swV, msw M', by rw [om_sw, om_sw2]; exact a1, a2, vaP_sw.mpr a3⟩, a4⟩⟩
  have h2 := vaP_sw (E := E) (M := msw M') (H := t.heap)
  rw [msw_msw] at h2
  exact h2.mp a3
/-- a contract over the other bench's cells -/
theorem CT.twin {d : Nat} {mt : Mth} {as : List V} {M : Mem} {Q : Option V → Mem → Prop} (h : CT d mt as (msw M) Q) : CT d mt (as.map swV) M (fun r M' => Q (r.map swV) (msw M')) := by
  intro l E hE
  have k := h l (swE E) (fun i j hi hj e => sw_inj (hE (sw i) (sw j) (sw_lt hi) (sw_lt hj) e))
  rw [AE_sw, Pc_sw, Qc_sw] at k
  exact k
/-! a static method that is given the script -/
def PcS (sc : Nat × (Nat → Int)) (E : EN) (as : List V) (M : Mem) : Array Value → State → Prop := fun v U => PcE E as M v U ∧ va_X (E.2.1 334) (sc.1 - 1) (fun j => Int32.ofInt (sc.2 j)) U U.heap ∧ E.2.1 334 < U.heap.size
def CTs (sc : Nat × (Nat → Int)) (d : Nat) (mt : Mth) (as : List V) (M : Mem) (Q : Option V → Mem → Prop) : Prop :=
  ∀ (l : Launch) (E : EN), (∀ i j : Nat, i < 334 → j < 334 → E.2.1 i = E.2.1 j → i = j) → ¬ AE E (E.2.1 334) → Met l mt.1 (wsO mt) (rmO d) (PcS sc E as M) (QcE E Q) 0 0 (AE E)
theorem CTs.ofWP {sc : Nat × (Nat → Int)} {d : Nat} {mt : Mth} {as : List V} {M : Mem} {Q : Option V → Mem → Prop} (hy : plainName mt.1.cls = true) (hlen : (ents as).length ≤ mt.2.2.1) (hL : sc.1 - 1 < 2147483648) (h : WP sc d mt 0 (ent mt.2.2.1 as) [] M Q) : CTs sc d mt as M Q := by
  intro l E hE hA0
  refine Met.ofW (cc := mt.2.1) (maxL := mt.2.2.1) (ret := mt.2.2.2) hy rfl ?_
  intro p e s m args below meth c s₁ B hml hv
  obtain ⟨⟨rfl, hK, hP, hN⟩, hX, hXl⟩ := hv
  have hts := atoms_spec (ws := wsO mt) B.pre
  rw [lg_entry_eq]
  have hl := lv_entry (as.map (rl E)) (n := mt.2.2.1) (by rw [ents_len]; exact hlen)
  have hl2 : lv_has ((lg_sl (as.map (rl E)) ++ List.replicate (mt.2.2.1 - (lg_sl (as.map (rl E))).length) Slot.unset).toArray) mt.2.2.1 (lsv E 0 (ent mt.2.2.1 as)) := ⟨hl.1, hl.2.1, fun q hq => hl.2.2 q (ents_args E _ as 0 q hq)⟩
  have hA : ∀ k : Nat, k < 334 → AE E (E.2.1 k) := fun k hk => ⟨k, hk, rfl⟩
  refine h p l e _ s m _ below meth c E (AE E) s.heap [] 0 0 _ _ ⟨B.exec, B.bytes, hml, findClass_of_methodNamed B.named, fun w hw => hts w (List.mem_cons_of_mem _ hw), hK, hE, hA, ⟨Nat.le_refl _, Nat.le_refl _, Nat.zero_le _, Nat.zero_le _, hN⟩, Or.inr ⟨hX, hXl, hA0, hL⟩⟩ hP va_S.rf hl2 ?_
  intro r M' H' locs' lsR' pc' hR hQ hP' hS'
  have hlocks := B.notSynchronized
  have hend : ∀ t : State, t.heap = H' → s.WarmedH t.vm → QcE E Q (as.map (rl E)).toArray s (.returned (r.map (rl E))) t := fun t ht _ => ⟨⟨r, M', rfl, hQ, by rw [ht]; exact hP'⟩, hS'.F ht⟩
  rcases hR with ⟨x, rfl, hd, hr⟩ | ⟨rfl, hd, hr⟩ | ⟨k, rfl, hd, n, hr⟩ | ⟨x, rfl, hd, hr⟩
  · rcases hr with hr | ⟨hr, hx⟩
    · exact W.iret B.exec B.bytes (B.returns.trans hr) hend hS'.2.2 hd
    · exact W.zret B.exec B.bytes (B.returns.trans hr) (nar_b hx) hend hS'.2.2 hd
  · exact W.vret B.exec B.bytes (B.returns.trans hr) hend hS'.2.2 hd
  · exact W.aret B.exec B.bytes (B.returns.trans hr) (Or.inl ⟨n, rfl⟩) (Or.inr ⟨_, rfl⟩) hend hS'.2.2 hd
  · exact W.lret B.exec B.bytes (B.returns.trans hr) hend hS'.2.2 hd
theorem PcS_blind (sc : Nat × (Nat → Int)) (E : EN) (as : List V) (M : Mem) : FrameBlind (PcS sc E as M) := fun a U g mk q => by
  obtain ⟨q1, q2, q3⟩ := q
  exact ⟨PcE_blind E as M a U g mk q1, va_X.moved (u := U) (U := U.calling g mk a) (Vm.Alike.refl U.vm) q2, q3⟩
theorem WP.callT {sc : Nat × (Nat → Int)} {d : Nat} {mt : Mth} {pc : Nat} {ls st : List V} {M : Mem} {Q : Option V → Mem → Prop} {d' index n : Nat} {mt' : Mth} {as st0 : List V} {Q1 : Option V → Mem → Prop} (hsc : sc.1 ≠ 0) (hd : decode mt.2.1 pc = .ok (.invokestatic index, 3)) (hm : MS mt.1.cls index mt' n) (hn : as.length = n) (hc1 : CTs sc d' mt' as M Q1) (hst : st0 = as.reverse ++ st) (hcat : (st.map cat).sum ≤ 8) (hdd : d' + 1 ≤ d)
    (k : ∀ r M', Q1 r M' → WP sc d mt (pc + 3) ls (r.toList ++ st) M' Q) : WP sc d mt pc ls st0 M Q := by
  intro p l e R s m args below meth c E A H locs cells slots Z lsR F hP hS hl hr
  subst hst
  obtain ⟨hx, hb, hml, hown, hts, hK, hE, hA, ⟨hR1, hR2, hR3, hR4, hNW⟩, hsc1⟩ := id F
  obtain ⟨h1, h2, h3, h4⟩ := hsc1.resolve_left hsc
  obtain ⟨⟨m1, m2, m3, m4, m5⟩, m6⟩ := hm
  have hG : GoodIn tbG (va_wsS mt.1.cls index mt'.1 (wsO mt')) := fun w hw => by
    rcases List.mem_append.mp hw with q | q
    · simp only [List.mem_cons, List.mem_nil_iff, or_false] at q
      rcases q with q | q | q <;> rw [q]
      · exact tb_good m1
      · exact tb_good m6
      · exact tb_good m2
    · exact wsO_good m3 w q
  have hW9 : (rmO d').frames + 1 ≤ R.frames ∧ 8 + (mt'.2.2.1 + 11) + (rmO d').locals ≤ R.locals := ⟨by show d' + 1 ≤ _; omega, by show 8 + (_ + 11) + 64 * d' ≤ _; omega⟩
  have hAE : ¬ AE E (E.2.1 334) := fun ⟨k, hk, hq⟩ => h3 (by rw [hq]; exact hA k hk)
  have hXH : va_X (E.2.1 334) (sc.1 - 1) (fun j => Int32.ofInt (sc.2 j)) s H := h1.kept (hS.2.1 _ h2 h3)
  have hXl : E.2.1 334 < H.size := Nat.lt_of_lt_of_le h2 hS.1
  have hrun := va_runS (e := e) (below := below) (meth := meth) (locs := locs) (g := F0 m pc lsR ((as.reverse ++ st).map (rl E))) (As := as.map (rl E)) (rest := st.map (rl E)) ⟨hx, hb, hml, hown, hts⟩ (hc1 l E hE hAE) (va_cwS (ws' := tbG) n hts hG rfl rfl rfl (rm := rmO d') ⟨m4.1, m4.2.1, m4.2.2⟩ hW9) ⟨PcS_blind sc E _ M, fun U hU hW => ⟨⟨rfl, va_K.moved hW.alike hK, by rw [hU]; exact hP, va_Nw.warmM hW hNW⟩, by rw [hU]; exact va_X.moved hW.alike hXH, by rw [hU]; exact hXl⟩⟩ rfl (by simpa using hn) (hl.1.trans rfl) (by simp [rl]) (lv_room (by rw [sum_cat]; exact hcat)) hd ⟨by omega, by omega⟩
  refine callX hrun hS hA (fun r M' H1 locs1 hq hP1 hS1 => ?_)
  have kk := k r M' hq p l e R s m args below meth c E A H1 locs1 cells slots Z lsR F hP1 hS1 hl hr
  rw [tl_map]
  exact kk
