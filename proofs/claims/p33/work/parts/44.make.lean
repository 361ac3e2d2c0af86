section RULESM
variable {d : Nat} {mt : Mth} {E : EN} {q pc n : Nat} {ls st : List V} {P : List (Nat × va_E)} {F : List Nat} {mc ms : Nat} {Q : Nat → List V → Nat → List (Nat × va_E) → List Nat → Prop}
/-- a class's constructor as the tables link it -/
def MI (own : String) (index : Nat) (mt' : Mth) : Prop := (Cond.methodLink own index mt'.1 ∈ tbG ∨ (own, index, mt'.1) ∈ nestL) ∧ Cond.initialized mt'.1.cls ∈ tbG ∧ Cond.code mt'.1 mt'.2.1 mt'.2.2.1 mt'.2.2.2 ∈ tbG ∧ Cond.instanceMethod mt'.1 ∈ tbG ∧ (mt'.1.cls ≠ "java/lang/invoke/MethodHandle" ∧ mt'.1.cls ≠ "java/lang/invoke/VarHandle" ∧ (parseMethodDescriptor mt'.1.desc).map (fun d => d.parameters.length) = some 0) ∧ mt'.2.2.1 ≤ 45 ∧ mt'.1.name = "<init>" ∧ mt'.2.2.2 = none
theorem pre_get {G G' : List Nat} {a : Nat} {h : Nat} {u : Nat → Nat} (hu : ∀ i id : Nat, G[i]? = some id → u id = h + i) (hs : G = G') : ∀ i id : Nat, G'[i]? = some id → u id = h + i := hs ▸ hu
/-- new, dup, <init> -/
theorem WK.make {d' ci index i2 N id0 mc' ms' : Nat} {C : String} {T : u_T} {ty : Nat → FieldType} {mt' : Mth} {ids : List Nat} (hB : CB ci C T N ty) (hd1 : decode mt.2.1 pc = .ok (.new index, 3)) (hd2 : decode mt.2.1 (pc + 3) = .ok (.dup, 1)) (hd3 : decode mt.2.1 (pc + 3 + 1) = .ok (.invokespecial i2, 3)) (hcl : Cond.classLink mt.1.cls index C ∈ tbG) (hm : MI mt.1.cls i2 mt') (hcc : CC d' mt' ci ids mc' ms') (hu : ∀ i id : Nat, ids[i]? = some id → E.2.1 id = q + n + i) (hid0 : ids[0]? = some id0) (hdd : d' + 1 ≤ d) (hcat : (st.map cat).sum ≤ 6)
    (kk : WK d mt E q (pc + 7) ls (vR id0 :: st) (n + ids.length) P (F ++ ids) mc ms Q) : WK d mt E q pc ls st n P F (1 + mc' + mc) (N + ms' + ms) Q := by
  intro p l e R s m args below meth c H locs cells slots Z lsR K hz hP hD hS hl hc hr
  obtain ⟨b1, b2, b3, b4, b5, b6, b7, b8⟩ := hB
  obtain ⟨hx, hb, hml, hown, hts, hK, hq, hR, hnm⟩ := (fun z => z : FK d mt E q p R s m args meth c → FK d mt E q p R s m args meth c) K
  obtain ⟨m1, m2, m3, m4, m5, m6, m7, m8⟩ := hm
  have hKn := hK.1.1 ci _ b1
  have hu0 : E.2.1 id0 = q + n := by have := hu 0 id0 hid0; omega
  have hlen : 0 < ids.length := (List.getElem?_eq_some_iff.mp hid0).1
  refine W.newcK hx hb hown (hts _ hcl) (hts _ b6) (hts _ b7) rfl hd1 (by omega) (by omega) hKn.2.1 hz fun H1 kC hkC e1 z1 o1 => ?_
  have hat : va_at E.1 cl9 (q + n, .inr (ci, dfl ci)) H1 := ⟨_, b1, (u_born ty hts b2 hKn hkC e1 b3).to b8⟩
  refine lv_dup hx hb hd2 rfl ?_
  have hG : GoodIn tbG (wsO mt') := wsO_good m3
  have hW9 : (rmK d' mc' ms').frames + 1 ≤ R.frames ∧ 8 + (mt'.2.2.1 + 11) + (rmK d' mc' ms').locals ≤ R.locals := ⟨by show d' + 1 ≤ _; omega, by show 8 + (_ + 11) + 64 * d' ≤ _; omega⟩
  have hpre : PreS s H1 (PcK E ci (q + n)) (Value.ref (q + n) :: []) := ⟨PcK_blind E ci (q + n), fun U hU hW => ⟨rfl, by rw [hU]; exact z1, hK.warm hW, by rw [hU]; exact hat⟩⟩
  have hroom : 2 * (F0 m (pc + 3 + 1) lsR (Value.ref (q + n) :: Value.ref (q + n) :: st.map (rl E))).monitorRoom + ((Value.ref (q + n) :: st.map (rl E)).map fun v => v.category).sum ≤ 8 := lv_room (by
    show (Value.ref (q + n)).category + ((st.map (rl E)).map fun v => v.category).sum ≤ 8
    rw [sum_cat]
    have : (Value.ref (q + n)).category = 1 := rfl
    omega)
  have hwe : wsO mt' = Cond.code mt'.1 mt'.2.1 mt'.2.2.1 none :: tbG := by show Cond.code _ _ _ _ :: tbG = _; rw [m8]
  have hrun : va_Run p l e R s m args below meth c H1 locs (cells + 1) (slots + N) mc' ms' (F0 m (pc + 3 + 1) lsR (Value.ref (q + n) :: Value.ref (q + n) :: st.map (rl E))) (Value.ref (q + n) :: st.map (rl E)) (QcK E ids (q + n) (Value.ref (q + n) :: []).toArray) (fun x => q + n ≤ x) := by
    rcases m1 with m1 | m1
    · have hcw := cwI (own := mt.1.cls) (index := i2) (y := mt'.1) (bytes := mt'.2.1) (maxL := mt'.2.2.1) (ws := wsO mt') (ws' := tbG) (rm := rmK d' mc' ms') (mc := mc') (ms := ms') 0 hts hG hwe rfl rfl (hts _ m2) (hts _ m1) (hts _ m4) m7 m5 hW9
      exact va_runI (cc := mt.2.1) (nL := mt.2.2.1) ⟨hx, hb, hml, hown, hts⟩ (hcc l E (q + n) hu) hcw hpre rfl rfl (hl.1.trans rfl) rfl hroom hd3 ⟨by omega, by omega⟩
    · have hcw := va_cnB (own := mt.1.cls) (host := RX7) (index := i2) (y := mt'.1) (bytes := mt'.2.1) (maxL := mt'.2.2.1) (ret := none) (ws := wsO mt') (ws' := tbG) (rm := rmK d' mc' ms') (mc := mc') (ms := ms') 0 hts hG hwe rfl rfl (hK.2.2.2.2 _ m1) (hts _ m2) m5 hW9
      exact va_runIN (cc := mt.2.1) (nL := mt.2.2.1) ⟨hx, hb, hml, hown, hts⟩ (hcc l E (q + n) hu) ⟨hcw, m7, hts _ m4⟩ hpre rfl rfl (hl.1.trans rfl) rfl hroom hd3 ⟨by omega, by omega⟩
  intro T9 hT9 X9
  obtain ⟨v, st₀, t, T', L, h0, X', hL, e1', e2', ⟨hv, hz1, hat1, hk1⟩, st9⟩ := hrun T9 hT9 X9
  cases hv
  have hk2 : ∀ x : Nat, x < q + n → T'.heap[x]? = H[x]? := fun x hx9 => by rw [e1', hk1 x hx9, h0, o1 x hx9]
  have hz2 : T'.heap.size = q + n + ids.length := by rw [e1', hz1]
  obtain ⟨g1, g2⟩ := wk_grow (G := ids) hP hD hz hk2 hu (fun i a h => by rw [e1']; exact hat1 i a h)
  rw [show cells + (1 + mc' + mc) = cells + 1 + mc' + mc by omega, show slots + (N + ms' + ms) = slots + N + ms' + ms by omega] at hr
  have k1 := kk p l e R s m args below meth c T'.heap (locs ++ L) (cells + 1 + mc') (slots + N + ms') Z lsR K (by omega) g1 g2 (vs_grow hS hz hk2 (by omega) (fun x hx9 => by have := hL x hx9; show q ≤ x.base; omega)) hl ⟨by omega, by omega⟩ hr
  obtain ⟨t2, a1, b1'⟩ := k1 T' rfl X'
  refine ⟨t2, st9 t2 ?_, b1'⟩
  rw [← hu0]
  exact a1
/-- a new array of tables -/
theorem WK.newq {id N index : Nat} (hd : decode mt.2.1 pc = .ok (.anewarray index, 3)) (hcl : Cond.classLink mt.1.cls index RX6 ∈ tbG) (hN : N ≤ 2088) (hu : E.2.1 id = q + n) (kk : WK d mt E q (pc + 3) ls (vR id :: st) (n + 1) (P ++ [(id, .inl (E.2.2 3, N, .inr (.inr (.inr (.inr (fun _ => none))))))]) F mc ms Q) : WK d mt E q pc ls (vI (N : Int) :: st) n P F (1 + mc) (N + ms) Q := by
  intro p l e R s m args below meth c H locs cells slots Z lsR K hz hP hD hS hl hc hr
  have hcl9 : (Int32.ofInt (N : Int)).toNatClampNeg = N := oi_cl (by omega)
  refine W.anew K.1 K.2.1 K.2.2.2.1 (K.2.2.2.2.1 _ hcl) (va_AO.use K.2.2.2.2.2.1.2.1) (g := F0 m pc lsR ((vI (N : Int) :: st).map (rl E))) (n := Int32.ofInt (N : Int)) (rest := st.map (rl E)) rfl hd rfl (by rw [oi_n]; exact nI_pos (by omega)) (by omega) (by omega) (by omega) fun cA kA comp f1 f2 f3 f4 => ?_
  obtain ⟨kA', comp', k1, k2, k3, k4⟩ := (K.2.2.2.2.2.1.1.2 3 _ rfl).2
  have hcA : cA = E.2.2 3 := Option.some.inj (f1.symm.trans k4)
  subst hcA
  rw [hcl9]
  generalize hH1 : H.push ({ cls := E.2.2 3, slots := Array.replicate N .null, vm := .none } : Cell) = H1
  have z1 : H1.size = q + n + 1 := by rw [← hH1, Array.size_push, hz]
  have e1 : H1[q + n]? = some (arrV (E.2.2 3) N (fun _ => .null)) := by rw [← hH1, ← hz, Array.getElem?_push_size, ← arrV_new]
  have o1 : ∀ x : Nat, x < q + n → H1[x]? = H[x]? := fun x hx => by rw [← hH1, Array.getElem?_push, if_neg (by omega)]
  have hlt : ∀ (k : Nat) (x : Nat × va_E), (wk E P F)[k]? = some x → x.1 < q + n := fun k x hx => by
    have := (hP k x hx).lt
    omega
  have hP1 : va_P E.1 cl9 (wk E P F ++ [(q + n, .inl (E.2.2 3, N, .inr (.inr (.inr (.inr (fun _ => none))))))]) H1 := (hP.kept fun k x hx => o1 x.1 (hlt k x hx)).app (fun k x hx => by
    have h1 : k < 1 := (List.getElem?_eq_some_iff.mp hx).1
    have h2 : k = 0 := by omega
    subst h2
    cases hx
    show H1[q + n]? = some (vp_cell _ _)
    rw [vp_cell_q]
    exact e1)
  have hD1 : va_D (fun x => q ≤ x) (wk E P F ++ [(q + n, .inl (E.2.2 3, N, .inr (.inr (.inr (.inr (fun _ => none))))))]) := hD.push hP (by omega) (by show q ≤ q + n; omega)
  have ew : wk E (P ++ [(id, .inl (E.2.2 3, N, .inr (.inr (.inr (.inr (fun _ => none))))))]) F = (P.map (fun p => (E.2.1 p.1, p.2)) ++ [(q + n, .inl (E.2.2 3, N, .inr (.inr (.inr (.inr (fun _ => none))))))]) ++ F.map (fun id => (E.2.1 id, C0 E id)) := by
    unfold wk
    rw [List.map_append, ← hu]
    rfl
  rw [show cells + (1 + mc) = cells + 1 + mc by omega, show slots + (N + ms) = slots + N + ms by omega] at hr
  have k1 := kk p l e R s m args below meth c H1 locs (cells + 1) (slots + N) Z lsR K (by omega) (by rw [ew]; exact va_P.swap hP1) (by rw [ew]; exact va_D.swap hD1) (vs_grow0 hS hz o1 (by omega)) hl ⟨by omega, by omega⟩ hr
  rw [hz, ← hu]
  exact k1
/-- an array of tables is filled -/
theorem WK.aast {ida idv N k : Nat} {x9 : Nat × va_E} {f f' : Nat → Option Nat} {vs : List Value} {P' : List (Nat × va_E)} (hd : decode mt.2.1 pc = .ok (.aastore, 1)) (hP9 : P = x9 :: (ida, .inl (E.2.2 3, N, .inr (.inr (.inr (.inr f))))) :: P') (hk9 : k < N) (hN : N ≤ 2088) (hv : idv ∈ F) (hcv : C0 E idv = .inr (6, vs)) (hf : va_up f k (some (E.2.1 idv)) = f')
    (kk : WK d mt E q (pc + 1) ls st n (x9 :: (ida, .inl (E.2.2 3, N, .inr (.inr (.inr (.inr f'))))) :: P') F mc ms Q) : WK d mt E q pc ls (vR idv :: vI (k : Int) :: vR ida :: st) n P F mc ms Q := by
  intro p l e R s m args below meth c H locs cells slots Z lsR K hz hP hD hS hl hc hr
  subst hP9
  subst hf
  obtain ⟨qk, hqk⟩ := wk_in (E := E) (P := x9 :: (ida, .inl (E.2.2 3, N, .inr (.inr (.inr (.inr f))))) :: P') hv
  rw [hcv] at hqk
  have hcl9 : (Int32.ofInt (k : Int)).toNatClampNeg = k := oi_cl (by omega)
  have hin : vp_in (Int32.ofInt (k : Int)) N := oi_in hk9 hN
  have h0 : ¬ Int32.ofInt (k : Int) < 0 := fun z => hin (Or.inl z)
  have ha : (wk E (x9 :: (ida, .inl (E.2.2 3, N, .inr (.inr (.inr (.inr f))))) :: P') F)[1]? = some (E.2.1 ida, .inl (E.2.2 3, N, .inr (.inr (.inr (.inr f))))) := rfl
  have hK := K.2.2.2.2.2.1.1
  obtain ⟨r', hr', cellV, g1, g2, g3, -⟩ := hP qk _ hqk
  have hcls := (hK.1 6 _ rfl).2
  obtain ⟨kA, comp, k1, k2, k3, -⟩ := (hK.2 3 _ rfl).2
  have hcomp : comp = E.1.1 6 := Option.some.inj (k3.symm.trans hcls.1)
  subst hcomp
  obtain ⟨kC, hkC, -⟩ := hcls.2
  refine W.aast K.1 K.2.1 (hP 1 _ ha) (fun q h => by cases h) (fun h => by cases h) k1 k2 rfl hkC ⟨h0, by show _ < (arrV _ _ _).slots.size; rw [arrV_size, hcl9]; exact hk9⟩ g1 (fun q h => by rw [g3] at h; cases h) (by rw [g2]; exact hkC) (by rw [g2]; exact va_assign hcls) rfl rfl hd fun H1 e z oq => ?_
  rw [hcl9] at e ⊢
  refine kk p l _ R s m args below meth c H1 _ cells slots Z lsR K (z.trans hz) (hP.set hD ha ?_ oq) (hD.set ha) (hS.put z oq (hD.2 1 _ ha)) hl hc hr
  show H1[E.2.1 ida]? = some (vp_cell _ _)
  rw [e]
  rw [vp_cell_q, vp_cell_q, arrV_store]
  congr 2
  funext j
  by_cases hj : j = k
  · subst hj
    simp [updV, va_up, va_rf]
  · simp [updV, va_up, hj]
/-- a 0 is written where a 0 stands -/
theorem WK.iast0 {id N : Nat} (hd : decode mt.2.1 pc = .ok (.iastore, 1)) (hid : id ∈ F) (hN : 0 < N) (hC : C0 E id = .inl (E.2.2 0, N, .inl (fun _ => 0))) (kk : WK d mt E q (pc + 1) ls st n P F mc ms Q) : WK d mt E q pc ls (vI 0 :: vI 0 :: vR id :: st) n P F mc ms Q := by
  intro p l e R s m args below meth c H locs cells slots Z lsR K hz hP hD hS hl hc hr
  obtain ⟨q0, hq0⟩ := wk_in (E := E) (P := P) hid
  have hat := hP q0 _ hq0
  rw [hC] at hat hq0
  have hK := K.2.2.2.2.2.1.1
  have hc0 : (Int32.ofInt 0).toNatClampNeg = 0 := rfl
  have hin : vp_in (Int32.ofInt ((0 : Nat) : Int)) N := by
    rw [oi_n]
    intro h
    rcases h with h | h
    · exact absurd h (by decide)
    · exact absurd h (by show ¬ N ≤ 0; omega)
  refine W.iast K.1 K.2.1 hat ((hK.2 0 _ rfl).1 N (fun j => .int 0)) (fun q => by cases q) (by show ¬ (Int32.ofInt 0 < 0 ∨ (arrV _ _ _).slots.size ≤ _); rw [arrV_size]; exact hin) rfl rfl hd fun H1 e z oq => ?_
  have hcell : H1[E.2.1 id]? = H[E.2.1 id]? := by
    rw [e]
    refine Eq.trans ?_ hat.symm
    show some (Cell.setSlot (vp_cell _ _) _ _) = some (vp_cell _ _)
    rw [vp_cell_i, arrV_store]
    congr 2
    funext j
    by_cases hj : j = (Int32.ofInt 0).toNatClampNeg
    · subst hj
      simp [updV]
    · simp [updV, hj]
  have hall : ∀ x : Nat, H1[x]? = H[x]? := fun x => by
    by_cases hx : x = E.2.1 id
    · rw [hx]; exact hcell
    · exact oq x hx
  exact kk p l _ R s m args below meth c H1 _ cells slots Z lsR K (z.trans hz) (hP.kept fun k x hx => hall x.1) hD (hS.put z oq (hD.2 q0 _ hq0)) hl hc hr
end RULESM
section GRID
variable {p : Program} {l : Launch} {e : Env} {R : Room} {s : State} {m : MethodId} {args : Array Value} {below : List Frame} {meth : Method} {c : Code} {H : Heap} {locs : List Loc} {cells slots : Nat} {Q : State → Prop}
variable {cc : ByteArray} {pc : Nat} {ls : Array Slot} {rest : List Value}
theorem oc_arr (c : ClassId) (N h0 : Nat) : ∀ i : Nat, Jvm.Free.Multi.outerC c N h0 i = arrV c N (fun j => va_rf (if j < i then some (h0 + 1 + j) else none))
  | 0 => by
    show ({ cls := c, slots := Array.replicate N .null, vm := .none } : Cell) = _
    rw [arrV_new]
    refine congrArg (arrV c N) (funext fun j => ?_)
    simp [va_rf]
  | i + 1 => by
    show (Jvm.Free.Multi.outerC c N h0 i).setSlot i (.ref (h0 + 1 + i)) = _
    rw [oc_arr c N h0 i, arrV_store]
    refine congrArg (arrV c N) (funext fun j => ?_)
    by_cases e : j = i
    · subst e
      simp [updV, va_rf]
    · by_cases h : j < i
      · simp [updV, e, h, Nat.lt_succ_of_lt h]
      · simp [updV, e, h, show ¬ j < i + 1 by omega]
/-- new T[n][k], with the addresses -/
theorem mnaD (hexec : p.tables.exec = Jvm.exec) (hb : c.code = cc) {own : String} {index : Nat} {ty : FieldType} {cy : ClassId} (hown : s.vm.findClass own = some m.cls) (hclink : (Cond.classLink own index ("[" ++ (FieldType.array ty).toString)).before args s = true) (hover : (Cond.arrayOver (.array ty)).before args s = true) (harr : (Cond.arrayClass ty).before args s = true) (hcy : s.vm.findClass (FieldType.array ty).toString = some cy)
    {n k : Int32} {N K h : Nat} {z : vp_A} (hn : ¬ n < 0) (hk : ¬ k < 0) (hN : n.toNatClampNeg = N) (hM : k.toNatClampNeg = K) (hh : H.size = h)
    (hb1 : N * 4 ≤ 536870912) (hb2 : K * componentBytes ty ≤ 536870912) (hb3 : K ≤ 536870912) (hdf : fits ty (defaultValue ty) = true) (hdd : (defaultValue ty).isDefault = true) (hcells : cells + (1 + N) ≤ R.cells) (hslots : slots + (N + N * K) ≤ R.slots) (hz : ∀ c : ClassId, Jvm.Free.Multi.innerC c K (defaultValue ty) = vp_cell c z) (hdg : decode cc pc = .ok (.multianewarray index 2, 4))
    (kk : ∀ (cA : ClassId) (H1 : Heap), s.vm.findClass ("[" ++ (FieldType.array ty).toString) = some cA → H1.size = h + 1 + N → (∀ x, x < h → H1[x]? = H[x]?) → H1[h]? = some (vp_cell cA (N, .inr (.inr (.inr (.inr (fun i => if i < N then some (h + 1 + i) else none)))))) → (∀ j : Nat, j < N → H1[h + 1 + j]? = some (vp_cell cy z)) →
      W p l e R s m args below meth c H1 locs (cells + 1 + N) (slots + N + N * K) Q (F0 m (pc + 4) ls (.ref h :: rest))) : W p l e R s m args below meth c H locs cells slots Q (F0 m pc ls (.int k :: .int n :: rest)) := by
  subst hN
  subst hM
  subst hh
  intro T hT Xs
  obtain ⟨vm₁, cA, comp, -, fA, fC, -, -, X', step⟩ := Xs.multianewarray2F hexec hown hclink hover harr (g := F0 m pc ls (.int k :: .int n :: rest)) rfl (by rw [hb]; exact hdg) rfl hn hk hb1 hb2 hb3 hdf hdd hcells hslots
  have ec : some cy = some comp := hcy.symm.trans fC
  cases ec
  generalize hF : Jvm.Free.Multi.fill (T.setVm vm₁) cA cy n.toNatClampNeg k.toNatClampNeg (defaultValue ty) n.toNatClampNeg = F at X' step
  have hTh : (T.setVm vm₁).heap = H := hT
  obtain ⟨f1, f2, -, -⟩ := Jvm.Free.Multi.fill_facts (T.setVm vm₁) cA cy n.toNatClampNeg k.toNatClampNeg (defaultValue ty) n.toNatClampNeg
  rw [hF, hTh] at f1 f2
  have hold : ∀ x : Nat, x < H.size → F.heap[x]? = H[x]? := fun x hx => by
    have := Jvm.Free.Multi.fill_old (T.setVm vm₁) cA cy n.toNatClampNeg k.toNatClampNeg (defaultValue ty) (a := x) (by rw [hTh]; exact hx) n.toNatClampNeg
    rw [hF, hTh] at this
    exact this
  have hrow : ∀ j : Nat, j < n.toNatClampNeg → F.heap[H.size + 1 + j]? = some (vp_cell cy z) := fun j hj => by
    have := Jvm.Free.Multi.fill_inner (T.setVm vm₁) cA cy n.toNatClampNeg k.toNatClampNeg (defaultValue ty) n.toNatClampNeg j hj
    rw [hF, hTh, hz] at this
    exact this
  rw [oc_arr] at f2
  obtain ⟨t, a1, b1⟩ := kk cA F.heap fA f1 hold (by rw [vp_cell_q]; exact f2) hrow F rfl X'
  refine ⟨t, step t ?_, b1⟩
  have e9 : T.heap.size = H.size := by rw [hT]
  rw [e9]
  exact a1
end GRID
section RULESN
variable {d : Nat} {mt : Mth} {E : EN} {q pc n : Nat} {ls st : List V} {P : List (Nat × va_E)} {F : List Nat} {mc ms : Nat} {Q : Nat → List V → Nat → List (Nat × va_E) → List Nat → Prop}
theorem arr_eq {c : ClassId} {N : Nat} {f g : Nat → Option Nat} (h : ∀ j, j < N → f j = g j) : vp_cell c (N, .inr (.inr (.inr (.inr f)))) = vp_cell c (N, .inr (.inr (.inr (.inr g)))) := by
  rw [vp_cell_q, vp_cell_q]
  unfold arrV
  congr 2
  funext j
  show va_rf (f j.1) = va_rf (g j.1)
  rw [h j.1 j.2]
theorem WK.mnaL {ido N K index : Nat} {ids : List Nat} (hd : decode mt.2.1 pc = .ok (.multianewarray index 2, 4)) (hcl : Cond.classLink mt.1.cls index ("[" ++ (FieldType.array .long).toString) ∈ tbG) (hN : N ≤ 2088) (hK9 : K ≤ 2088) (hlen : ids.length = N) (hu : ∀ i id : Nat, (ido :: ids)[i]? = some id → E.2.1 id = q + n + i)
    (hCo : C0 E ido = .inl (E.2.2 4, N, .inr (.inr (.inr (.inr (fun j => some (E.2.1 (srf ido j)))))))) (hsr : ∀ j id : Nat, ids[j]? = some id → srf ido j = id) (hCi : ∀ id ∈ ids, C0 E id = .inl (E.2.2 1, K, .inr (.inl (fun _ => 0))))
    (kk : WK d mt E q (pc + 4) ls (vR ido :: st) (n + (1 + N)) P (F ++ ido :: ids) mc ms Q) : WK d mt E q pc ls (vI (K : Int) :: vI (N : Int) :: st) n P F (1 + N + mc) (N + N * K + ms) Q := by
  intro p l e R s m args below meth c H locs cells slots Z lsR K9 hz hP hD hS hl hc hr
  have hcy : s.vm.findClass (FieldType.array .long).toString = some (E.2.2 1) := (K9.2.2.2.2.2.1.1.2 1 _ rfl).2
  have hu0 : E.2.1 ido = q + n := by have := hu 0 ido rfl; omega
  generalize hNK : N * K = NK at *
  have hr2 := hr
  rw [show cells + (1 + N + mc) = cells + 1 + N + mc by omega, show slots + (N + NK + ms) = slots + N + NK + ms by omega] at hr2
  refine mnaD (ty := .long) (z := (K, .inr (.inl (fun _ => 0)))) (N := N) (K := K) K9.1 K9.2.1 K9.2.2.2.1 (K9.2.2.2.2.1 _ hcl) K9.2.2.2.2.2.1.2.2.1 (K9.2.2.2.2.1 _ w_ac_long) hcy (by rw [oi_n]; exact nI_pos (by omega)) (by rw [oi_n]; exact nI_pos (by omega)) (oi_cl (by omega)) (oi_cl (by omega)) hz (by omega) (by rw [show componentBytes .long = 8 from rfl]; omega) (by omega) rfl rfl (by omega) (by rw [hNK]; omega) (fun c9 => by
    show ({ cls := c9, slots := Array.replicate K (.long 0), vm := .none } : Cell) = _
    rw [arrV_new]
    rfl) hd fun cA H1 fA z1 o1 e1 e2 => ?_
  have hcA : cA = E.2.2 4 := Option.some.inj (fA.symm.trans (K9.2.2.2.2.2.1.1.2 4 _ rfl).2)
  subst hcA
  obtain ⟨g1, g2⟩ := wk_grow (G := ido :: ids) hP hD hz o1 hu (fun i id h => by
    cases i with
    | zero =>
      cases h
      rw [hCo]
      refine e1.trans (congrArg some (arr_eq fun j hj => ?_))
      rw [if_pos hj]
      have hj2 : j < ids.length := by omega
      have h3 : ids[j]? = some ids[j] := List.getElem?_eq_getElem hj2
      have h4 := hu (j + 1) ids[j] (by simp [h3])
      rw [hsr j _ h3, h4]
      congr 1
      omega
    | succ i =>
      have h3 : ids[i]? = some id := by simpa using h
      have h4 : i < ids.length := (List.getElem?_eq_some_iff.mp h3).1
      rw [hCi id (List.mem_of_getElem? h3)]
      have := e2 i (by omega)
      rw [show q + n + (i + 1) = q + n + 1 + i by omega]
      exact this)
  have k1 := kk p l e R s m args below meth c H1 locs (cells + 1 + N) (slots + N + NK) Z lsR K9 (by omega) g1 g2 (vs_grow0 hS hz o1 (by omega)) hl ⟨by omega, by omega⟩ hr2
  rw [hNK, ← hu0]
  exact k1
theorem WK.mnaI {ido N K index : Nat} {ids : List Nat} (hd : decode mt.2.1 pc = .ok (.multianewarray index 2, 4)) (hcl : Cond.classLink mt.1.cls index ("[" ++ (FieldType.array .int).toString) ∈ tbG) (hN : N ≤ 2088) (hK9 : K ≤ 2088) (hlen : ids.length = N) (hu : ∀ i id : Nat, (ido :: ids)[i]? = some id → E.2.1 id = q + n + i)
    (hCo : C0 E ido = .inl (E.2.2 5, N, .inr (.inr (.inr (.inr (fun j => some (E.2.1 (srf ido j)))))))) (hsr : ∀ j id : Nat, ids[j]? = some id → srf ido j = id) (hCi : ∀ id ∈ ids, C0 E id = .inl (E.2.2 0, K, .inl (fun _ => 0)))
    (kk : WK d mt E q (pc + 4) ls (vR ido :: st) (n + (1 + N)) P (F ++ ido :: ids) mc ms Q) : WK d mt E q pc ls (vI (K : Int) :: vI (N : Int) :: st) n P F (1 + N + mc) (N + N * K + ms) Q := by
  intro p l e R s m args below meth c H locs cells slots Z lsR K9 hz hP hD hS hl hc hr
  have hcy : s.vm.findClass (FieldType.array .int).toString = some (E.2.2 0) := (K9.2.2.2.2.2.1.1.2 0 _ rfl).2
  have hu0 : E.2.1 ido = q + n := by have := hu 0 ido rfl; omega
  generalize hNK : N * K = NK at *
  have hr2 := hr
  rw [show cells + (1 + N + mc) = cells + 1 + N + mc by omega, show slots + (N + NK + ms) = slots + N + NK + ms by omega] at hr2
  refine mnaD (ty := .int) (z := (K, .inl (fun _ => 0))) (N := N) (K := K) K9.1 K9.2.1 K9.2.2.2.1 (K9.2.2.2.2.1 _ hcl) K9.2.2.2.2.2.1.2.2.2.1 (K9.2.2.2.2.1 _ w_ac_int) hcy (by rw [oi_n]; exact nI_pos (by omega)) (by rw [oi_n]; exact nI_pos (by omega)) (oi_cl (by omega)) (oi_cl (by omega)) hz (by omega) (by rw [show componentBytes .int = 4 from rfl]; omega) (by omega) rfl rfl (by omega) (by rw [hNK]; omega) (fun c9 => by
    show ({ cls := c9, slots := Array.replicate K (.int 0), vm := .none } : Cell) = _
    rw [arrV_new]
    rfl) hd fun cA H1 fA z1 o1 e1 e2 => ?_
  have hcA : cA = E.2.2 5 := Option.some.inj (fA.symm.trans (K9.2.2.2.2.2.1.1.2 5 _ rfl).2)
  subst hcA
  obtain ⟨g1, g2⟩ := wk_grow (G := ido :: ids) hP hD hz o1 hu (fun i id h => by
    cases i with
    | zero =>
      cases h
      rw [hCo]
      refine e1.trans (congrArg some (arr_eq fun j hj => ?_))
      rw [if_pos hj]
      have hj2 : j < ids.length := by omega
      have h3 : ids[j]? = some ids[j] := List.getElem?_eq_getElem hj2
      have h4 := hu (j + 1) ids[j] (by simp [h3])
      rw [hsr j _ h3, h4]
      congr 1
      omega
    | succ i =>
      have h3 : ids[i]? = some id := by simpa using h
      have h4 : i < ids.length := (List.getElem?_eq_some_iff.mp h3).1
      rw [hCi id (List.mem_of_getElem? h3)]
      have := e2 i (by omega)
      rw [show q + n + (i + 1) = q + n + 1 + i by omega]
      exact this)
  have k1 := kk p l e R s m args below meth c H1 locs (cells + 1 + N) (slots + N + NK) Z lsR K9 (by omega) g1 g2 (vs_grow0 hS hz o1 (by omega)) hl ⟨by omega, by omega⟩ hr2
  rw [hNK, ← hu0]
  exact k1
end RULESN
