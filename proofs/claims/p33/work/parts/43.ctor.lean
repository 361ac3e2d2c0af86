theorem w_cl_L_10 : .classLink RL 10 RX7 ∈ tbG := tb_in 30 (by decide +kernel) rfl
theorem w_in_X7 : .instantiable RX7 12 ∈ tbG := tb_in 31 (by decide +kernel) rfl
theorem w_cd_object : .code objectInit ⟨#[0xb1]⟩ 1 none ∈ tbG := tb_in 37 (by decide +kernel) rfl
theorem w_cl_X7_7 : .classLink RX7 7 RX6 ∈ tbG := tb_in 38 (by decide +kernel) rfl
theorem w_in_X6 : .instantiable RX6 4 ∈ tbG := tb_in 39 (by decide +kernel) rfl
theorem w_ac_int : .arrayClass .int ∈ tbG := tb_in 65 (by decide +kernel) rfl
theorem w_cl_X7_16 : .classLink RX7 16 RX2 ∈ tbG := tb_in 66 (by decide +kernel) rfl
theorem w_in_X2 : .instantiable RX2 3 ∈ tbG := tb_in 67 (by decide +kernel) rfl
theorem w_cl_X2_18 : .classLink RX2 18 RX6 ∈ tbG := tb_in 72 (by decide +kernel) rfl
theorem w_cl_X7_31 : .classLink RX7 31 RX4 ∈ tbG := tb_in 86 (by decide +kernel) rfl
theorem w_in_X4 : .instantiable RX4 2 ∈ tbG := tb_in 87 (by decide +kernel) rfl
theorem w_ac_boolean : .arrayClass .boolean ∈ tbG := tb_in 100 (by decide +kernel) rfl
theorem w_cl_X7_38 : .classLink RX7 38 RX0 ∈ tbG := tb_in 101 (by decide +kernel) rfl
theorem w_in_X0 : .instantiable RX0 2 ∈ tbG := tb_in 102 (by decide +kernel) rfl
theorem w_cl_X7_45 : .classLink RX7 45 RX1 ∈ tbG := tb_in 114 (by decide +kernel) rfl
theorem w_in_X1 : .instantiable RX1 6 ∈ tbG := tb_in 115 (by decide +kernel) rfl
theorem w_cl_X1_15 : .classLink RX1 15 RX6 ∈ tbG := tb_in 120 (by decide +kernel) rfl
theorem w_cl_X1_29 : .classLink RX1 29 ("[" ++ (FieldType.array .int).toString) ∈ tbG := tb_in 122 (by decide +kernel) rfl
theorem w_cl_X7_52 : .classLink RX7 52 RX3 ∈ tbG := tb_in 144 (by decide +kernel) rfl
theorem w_in_X3 : .instantiable RX3 5 ∈ tbG := tb_in 145 (by decide +kernel) rfl
theorem w_cl_X3_18 : .classLink RX3 18 RX5 ∈ tbG := tb_in 150 (by decide +kernel) rfl
theorem w_in_X5 : .instantiable RX5 8 ∈ tbG := tb_in 151 (by decide +kernel) rfl
theorem w_cl_X5_9 : .classLink RX5 9 RX6 ∈ tbG := tb_in 156 (by decide +kernel) rfl
theorem w_cl_X5_28 : .classLink RX5 28 ("[" ++ (FieldType.array .long).toString) ∈ tbG := tb_in 158 (by decide +kernel) rfl
theorem w_ac_long : .arrayClass .long ∈ tbG := tb_in 185 (by decide +kernel) rfl
/-! constructors: cells that are made lie one behind another, so the address of each is known: q + its place -/
def M0o : Mem := fun id j => if id = 103 then (if j = 0 then 33 else 0) else if id = 135 then (if j = 0 then 36 else 0) else if id = 52 then (if j = 1 then 39 else 0) else if id = 42 then (if j = 10 then -1 else 0) else 0
/-- the first contents, alike in both benches -/
def M0 : Mem := fun id j => if id < 167 then M0o id j else M0o (id - 167) j
theorem M0_z {id : Nat} (h : id ≠ 103 ∧ id ≠ 135 ∧ id ≠ 52 ∧ id ≠ 42 ∧ id < 167) (j : Nat) : M0 id j = 0 := by
  unfold M0 M0o
  rw [if_pos h.2.2.2.2, if_neg h.1, if_neg h.2.1, if_neg h.2.2.1, if_neg h.2.2.2.1]
theorem M0_sw {id : Nat} (h : id < 334) : M0 (sw id) = M0 id := by
  funext j
  unfold M0
  by_cases e : id < 167
  · rw [sw_lo e, if_neg (by omega), if_pos e, Nat.add_sub_cancel]
  · rw [sw_hi (by omega) h, if_neg e, if_pos (by omega)]
abbrev C0 (E : EN) (id : Nat) : va_E := cel E id (M0 id)
def wk (E : EN) (P : List (Nat × va_E)) (F : List Nat) : va_W := P.map (fun p => (E.2.1 p.1, p.2)) ++ F.map (fun id => (E.2.1 id, C0 E id))
/-- constructors of private classes, as the tables link them -/
def nestL : List (String × Nat × MethodName) := [(RX7, 9, yX6_init), (RX2, 24, yX6_init), (RX7, 33, yX4_init), (RX7, 40, yX0_init), (RX7, 47, yX1_init), (RX1, 17, yX6_init), (RX7, 54, yX3_init), (RX3, 20, yX5_init), (RX5, 11, yX6_init)]
def KX (E : EN) (U : State) : Prop := va_K E.1 cl9 (tysE E) U ∧ va_AO RX6 U ∧ (Cond.arrayOver (.array .long)).before #[] U = true ∧ (Cond.arrayOver (.array .int)).before #[] U = true ∧ ∀ t ∈ nestL, va_Nw (.methodLinkNest t.1 t.2.1 t.2.2 RX7) U
theorem KX.same {E : EN} {u U : State} (hvm : u.vm = U.vm) (h : KX E u) : KX E U := by
  have ha : u.vm.Alike U.vm := by rw [hvm]; exact Vm.Alike.refl U.vm
  exact ⟨h.1.moved ha, h.2.1.moved ha, over_moved ha h.2.2.1, over_moved ha h.2.2.2.1, fun t ht => va_Nw.same rfl hvm (h.2.2.2.2 t ht)⟩
theorem KX.warm {E : EN} {u U : State} (hW : u.WarmedH U.vm) (h : KX E u) : KX E U := ⟨h.1.moved hW.alike, h.2.1.moved hW.alike, over_moved hW.alike h.2.2.1, over_moved hW.alike h.2.2.2.1, fun t ht => va_Nw.warmM hW (h.2.2.2.2 t ht)⟩
def FK (d : Nat) (mt : Mth) (E : EN) (q : Nat) (p : Program) (R : Room) (s : State) (m : MethodId) (args : Array Value) (meth : Method) (c : Code) : Prop :=
  p.tables.exec = Jvm.exec ∧ c.code = mt.2.1 ∧ c.maxLocals = mt.2.2.1 ∧ s.vm.findClass mt.1.cls = some m.cls ∧ (∀ w ∈ tbG, w.before args s = true) ∧ KX E s ∧ q ≤ s.heap.size ∧ (d ≤ R.frames ∧ 64 * d ≤ R.locals) ∧ (mt.1.name = "<init>" → meth.name = "<init>")
def WK (d : Nat) (mt : Mth) (E : EN) (q : Nat) (pc : Nat) (ls st : List V) (n : Nat) (P : List (Nat × va_E)) (F : List Nat) (mc ms : Nat) (Q : Nat → List V → Nat → List (Nat × va_E) → List Nat → Prop) : Prop :=
  ∀ (p : Program) (l : Launch) (e : Env) (R : Room) (s : State) (m : MethodId) (args : Array Value) (below : List Frame) (meth : Method) (c : Code) (H : Heap) (locs : List Loc) (cells slots : Nat) (Z : State → Prop) (lsR : Array Slot),
    FK d mt E q p R s m args meth c → H.size = q + n → va_P E.1 cl9 (wk E P F) H → va_D (fun x => q ≤ x) (wk E P F) → va_S (fun x => q ≤ x) s.heap H locs → lv_has lsR mt.2.2.1 (lsv E 0 ls) → (cells + mc ≤ R.cells ∧ slots + ms ≤ R.slots) →
    (∀ (pc' : Nat) (ls' : List V) (n' : Nat) (P' : List (Nat × va_E)) (F' : List Nat) (H' : Heap) (locs' : List Loc) (lsR' : Array Slot), Q pc' ls' n' P' F' → H'.size = q + n' → va_P E.1 cl9 (wk E P' F') H' → va_D (fun x => q ≤ x) (wk E P' F') → va_S (fun x => q ≤ x) s.heap H' locs' → lv_has lsR' mt.2.2.1 (lsv E 0 ls') →
      W p l e R s m args below meth c H' locs' (cells + mc) (slots + ms) Z (F0 m pc' lsR' [])) →
    W p l e R s m args below meth c H locs cells slots Z (F0 m pc lsR (st.map (rl E)))
theorem vs_grow {A : Nat → Prop} {H0 H H1 : Heap} {locs L : List Loc} {h : Nat} (hS : va_S A H0 H locs) (hz : H.size = h) (hk : ∀ x, x < h → H1[x]? = H[x]?) (h1 : h ≤ H1.size) (hL : ∀ x ∈ L, A x.base) : va_S A H0 H1 (locs ++ L) := by
  subst hz
  refine ⟨Nat.le_trans hS.1 h1, fun x a b => ?_, fun x hx => ?_⟩
  · rw [hk x (Nat.lt_of_lt_of_le a hS.1)]
    exact hS.2.1 x a b
  · rcases List.mem_append.mp hx with h | h
    · exact hS.2.2 x h
    · exact hL x h
theorem vs_grow0 {A : Nat → Prop} {H0 H H1 : Heap} {locs : List Loc} {h : Nat} (hS : va_S A H0 H locs) (hz : H.size = h) (hk : ∀ x, x < h → H1[x]? = H[x]?) (h1 : h ≤ H1.size) : va_S A H0 H1 locs := by
  have := vs_grow (L := []) hS hz hk h1 (fun x hx => by cases hx)
  rwa [List.append_nil] at this
theorem wk_app (E : EN) (P : List (Nat × va_E)) (F G : List Nat) : wk E P (F ++ G) = wk E P F ++ G.map (fun id => (E.2.1 id, C0 E id)) := by
  unfold wk
  rw [List.map_append, List.append_assoc]
theorem g_get {E : EN} {G : List Nat} {k : Nat} {x : Nat × va_E} (h : (G.map (fun id => ((E.2.1 id, C0 E id) : Nat × va_E)))[k]? = some x) : ∃ id, G[k]? = some id ∧ x = (E.2.1 id, C0 E id) := by
  rw [List.getElem?_map] at h
  cases hg : G[k]? with
  | none => rw [hg] at h; cases h
  | some id => rw [hg] at h; exact ⟨id, rfl, (Option.some.inj h).symm⟩
theorem wk_grow {E : EN} {q n : Nat} {P : List (Nat × va_E)} {F G : List Nat} {H H1 : Heap} (hP : va_P E.1 cl9 (wk E P F) H) (hD : va_D (fun x => q ≤ x) (wk E P F)) (hz : H.size = q + n) (hk : ∀ x, x < q + n → H1[x]? = H[x]?) (hu : ∀ i id : Nat, G[i]? = some id → E.2.1 id = q + n + i) (hat : ∀ i id : Nat, G[i]? = some id → va_at E.1 cl9 (q + n + i, C0 E id) H1) : va_P E.1 cl9 (wk E P (F ++ G)) H1 ∧ va_D (fun x => q ≤ x) (wk E P (F ++ G)) := by
  rw [wk_app]
  have hlt : ∀ (k : Nat) (x : Nat × va_E), (wk E P F)[k]? = some x → x.1 < q + n := fun k x hx => by
    have := (hP k x hx).lt
    omega
  refine ⟨va_P.app (hP.kept fun k x hx => hk x.1 (hlt k x hx)) (fun k x hx => ?_), va_D.app hD ⟨fun i j x y hx hy hxy => ?_, fun k x hx => ?_⟩ (fun i j x y hx hy hxy => ?_)⟩
  · obtain ⟨id, h1, rfl⟩ := g_get hx
    have := hat k id h1
    rw [← hu k id h1] at this
    exact this
  · obtain ⟨a, h1, rfl⟩ := g_get hx
    obtain ⟨b, h2, rfl⟩ := g_get hy
    have e1 := hu i a h1
    have e2 := hu j b h2
    have e3 : E.2.1 a = E.2.1 b := hxy
    omega
  · obtain ⟨id, h1, rfl⟩ := g_get hx
    have e1 := hu k id h1
    show q ≤ E.2.1 id
    omega
  · obtain ⟨b, h2, rfl⟩ := g_get hy
    have e1 := hlt i x hx
    have e2 := hu j b h2
    have e3 : x.1 = E.2.1 b := hxy
    omega
theorem wk_in {E : EN} {P : List (Nat × va_E)} {F : List Nat} {id : Nat} (h : id ∈ F) : ∃ k : Nat, (wk E P F)[k]? = some (E.2.1 id, C0 E id) := by
  have : ((E.2.1 id, C0 E id) : Nat × va_E) ∈ wk E P F := List.mem_append.mpr (Or.inr (List.mem_map.mpr ⟨id, h, rfl⟩))
  exact List.getElem?_of_mem this
theorem wk_inP {E : EN} {P : List (Nat × va_E)} {F : List Nat} {id : Nat} {e : va_E} (h : (id, e) ∈ P) : ∃ k : Nat, (wk E P F)[k]? = some (E.2.1 id, e) := by
  have : ((E.2.1 id, e) : Nat × va_E) ∈ wk E P F := List.mem_append.mpr (Or.inl (List.mem_map.mpr ⟨(id, e), h, rfl⟩))
  exact List.getElem?_of_mem this
/-- a constructor's contract -/
def dfl (ci : Nat) : List Value := match ci with
  | 0 => [.null, .null]
  | 1 => [.null, .null, .int 0, .null, .null, .null]
  | 2 => [.int 0, .int 0, .null]
  | 3 => [.null, .null, .null, .null, .null]
  | 4 => [.int 0, .null]
  | 5 => [.null, .null, .null, .null, .null, .null, .null, .null]
  | 6 => [.int 0, .int 0, .null, .null]
  | 7 => [.null, .null, .null, .null, .null, .null, .null, .null, .int 0, .int 0, .int 0, .int 0]
  | _ => [.null, .null, .int 0, .null, .int 0, .null, .int 0, .null, .int 0, .int 0, .null, .null, .null, .null, .null, .null]
def rmK (d mc ms : Nat) : Room := { frames := d, cells := mc, slots := ms, locals := 64 * d }
def PcK (E : EN) (ci q : Nat) : Array Value → State → Prop := fun v U => v = #[.ref q] ∧ U.heap.size = q + 1 ∧ KX E U ∧ va_at E.1 cl9 (q, .inr (ci, dfl ci)) U.heap
def QcK (E : EN) (ids : List Nat) (q : Nat) : Array Value → State → Outcome → State → Prop := fun _ st oc t => oc = .returned none ∧ t.heap.size = q + ids.length ∧ (∀ i id : Nat, ids[i]? = some id → va_at E.1 cl9 (q + i, C0 E id) t.heap) ∧ ∀ x : Nat, x < q → t.heap[x]? = st.heap[x]?
def CC (d : Nat) (mt : Mth) (ci : Nat) (ids : List Nat) (mc ms : Nat) : Prop :=
  ∀ (l : Launch) (E : EN) (q : Nat), (∀ i id : Nat, ids[i]? = some id → E.2.1 id = q + i) → Met l mt.1 (wsO mt) (rmK d mc ms) (PcK E ci q) (QcK E ids q) mc ms (fun x => q ≤ x)
theorem PcK_blind (E : EN) (ci q : Nat) : FrameBlind (PcK E ci q) := fun a U g mk h => by
  obtain ⟨h1, h2, h3, h4⟩ := h
  exact ⟨h1, h2, KX.same (u := U) (U := U.calling g mk a) rfl h3, h4⟩
def QE (mt : Mth) (E : EN) (ids : List Nat) : Nat → List V → Nat → List (Nat × va_E) → List Nat → Prop := fun pc _ n P F => decode mt.2.1 pc = .ok (.return_, 1) ∧ n = ids.length ∧ ∀ id ∈ ids, id ∈ F ∨ ∃ e, (id, e) ∈ P ∧ ∀ H : Heap, va_at E.1 cl9 (E.2.1 id, e) H → va_at E.1 cl9 (E.2.1 id, C0 E id) H
theorem CC.ofWK {d : Nat} {mt : Mth} {ci id0 mc ms : Nat} {ids : List Nat} (hy : plainName mt.1.cls = true) (hlen : (ents [vR id0]).length ≤ mt.2.2.1) (hret : mt.2.2.2 = none) (h0 : ids[0]? = some id0)
    (h : ∀ (E : EN) (q : Nat), (∀ i id : Nat, ids[i]? = some id → E.2.1 id = q + i) → WK d mt E q 0 (ent mt.2.2.1 [vR id0]) [] 1 [(id0, .inr (ci, dfl ci))] [] mc ms (QE mt E ids)) : CC d mt ci ids mc ms := by
  intro l E q hu
  have hq : E.2.1 id0 = q := by have := hu 0 id0 h0; omega
  refine Met.ofW (cc := mt.2.1) (maxL := mt.2.2.1) (ret := mt.2.2.2) hy rfl ?_
  intro p e s m args below meth c s₁ B hml hv
  obtain ⟨rfl, hz, hK, hP⟩ := hv
  have hts := atoms_spec (ws := wsO mt) B.pre
  have hv0 : (#[Value.ref q] : Array Value) = (([vR id0] : List V).map (rl E)).toArray := by
    show _ = (#[Value.ref (E.2.1 id0)] : Array Value)
    rw [hq]
  rw [hv0, lg_entry_eq]
  have hl := lv_entry (([vR id0] : List V).map (rl E)) (n := mt.2.2.1) (by rw [ents_len]; exact hlen)
  have hl2 : lv_has ((lg_sl (([vR id0] : List V).map (rl E)) ++ List.replicate (mt.2.2.1 - (lg_sl (([vR id0] : List V).map (rl E))).length) Slot.unset).toArray) mt.2.2.1 (lsv E 0 (ent mt.2.2.1 [vR id0])) := ⟨hl.1, hl.2.1, fun q hq => hl.2.2 q (ents_args E _ [vR id0] 0 q hq)⟩
  have hnm : mt.1.name = "<init>" → meth.name = "<init>" := fun h => by rw [(name_of_methodNamed B.named B.method).1]; exact h
  have hlocks := B.notSynchronized
  rw [← hv0]
  refine h E q hu p l e _ s m _ below meth c s.heap [] 0 0 _ _ ⟨B.exec, B.bytes, hml, findClass_of_methodNamed B.named, fun w hw => hts w (List.mem_cons_of_mem _ hw), hK, by omega, ⟨Nat.le_refl _, Nat.le_refl _⟩, hnm⟩ hz ?_ ?_ va_S.rf hl2 ⟨by show 0 + mc ≤ mc; omega, by show 0 + ms ≤ ms; omega⟩ ?_
  · intro k x hx
    have hx1 : k < 1 := (List.getElem?_eq_some_iff.mp hx).1
    have hx2 : k = 0 := by omega
    subst hx2
    cases hx
    show va_at E.1 cl9 (E.2.1 id0, _) s.heap
    rw [hq]
    exact hP
  · refine ⟨fun i j x y hx hy _ => ?_, fun k x hx => ?_⟩
    · have h1 : i < 1 := (List.getElem?_eq_some_iff.mp hx).1
      have h2 : j < 1 := (List.getElem?_eq_some_iff.mp hy).1
      omega
    · have hx1 : k < 1 := (List.getElem?_eq_some_iff.mp hx).1
      have hx2 : k = 0 := by omega
      subst hx2
      cases hx
      show q ≤ E.2.1 id0
      omega
  · intro pc' ls' n' P' F' H' locs' lsR' hQ hz' hP' hD' hS' hl'
    obtain ⟨hd, hn, hall⟩ := hQ
    rw [Nat.zero_add, Nat.zero_add]
    refine W.vret B.exec B.bytes (B.returns.trans hret) (fun t ht hW => ⟨rfl, by rw [ht, hz', hn], fun i id hi => ?_, fun x hx => ?_⟩) hS'.2.2 hd
    · rw [ht, ← hu i id hi]
      rcases hall id (List.mem_of_getElem? hi) with h1 | ⟨e9, h1, h2⟩
      · obtain ⟨k, hk⟩ := wk_in (E := E) (P := P') h1
        exact hP' k _ hk
      · obtain ⟨k, hk⟩ := wk_inP (E := E) (F := F') h1
        exact h2 H' (hP' k _ hk)
    · rw [ht]
      exact hS'.2.1 x (by omega) (by omega)
section RULESK
variable {d : Nat} {mt : Mth} {E : EN} {q pc n : Nat} {ls st : List V} {P : List (Nat × va_E)} {F : List Nat} {mc ms : Nat} {Q : Nat → List V → Nat → List (Nat × va_E) → List Nat → Prop}
theorem WK.done (h : Q pc ls n P F) : WK d mt E q pc ls [] n P F 0 0 Q := by
  intro p l e R s m args below meth c H locs cells slots Z lsR K hz hP hD hS hl hc hr
  exact hr pc ls n P F H locs lsR h hz hP hD hS hl
theorem WK.iconst {k : Int} (hd : decode mt.2.1 pc = .ok (.iconst k, 1)) (kk : WK d mt E q (pc + 1) ls (vI k :: st) n P F mc ms Q) : WK d mt E q pc ls st n P F mc ms Q := by
  intro p l e R s m args below meth c H locs cells slots Z lsR K hz hP hD hS hl hc hr
  have k1 := kk p l e R s m args below meth c H locs cells slots Z lsR K hz hP hD hS hl hc hr
  exact lv_iconst K.1 K.2.1 hd rfl k1
theorem WK.bipush {k : Int} (hd : decode mt.2.1 pc = .ok (.bipush k, 2)) (hv : (Int8.ofInt k).toInt32 = Int32.ofInt k) (kk : WK d mt E q (pc + 2) ls (vI k :: st) n P F mc ms Q) : WK d mt E q pc ls st n P F mc ms Q := by
  intro p l e R s m args below meth c H locs cells slots Z lsR K hz hP hD hS hl hc hr
  have k1 := kk p l e R s m args below meth c H locs cells slots Z lsR K hz hP hD hS hl hc hr
  exact lv_bipush K.1 K.2.1 hd hv k1
theorem WK.sipush {k : Int} (hd : decode mt.2.1 pc = .ok (.sipush k, 3)) (hv : (Int16.ofInt k).toInt32 = Int32.ofInt k) (kk : WK d mt E q (pc + 3) ls (vI k :: st) n P F mc ms Q) : WK d mt E q pc ls st n P F mc ms Q := by
  intro p l e R s m args below meth c H locs cells slots Z lsR K hz hP hD hS hl hc hr
  have k1 := kk p l e R s m args below meth c H locs cells slots Z lsR K hz hP hD hS hl hc hr
  exact lv_sipush K.1 K.2.1 hd hv k1
theorem WK.aload_n {i : Fin 4} {x : Nat} (hd : decode mt.2.1 pc = .ok (.aload_n i, 1)) (hl9 : ls[(i : Nat)]? = some (vR x)) (kk : WK d mt E q (pc + 1) ls (vR x :: st) n P F mc ms Q) : WK d mt E q pc ls st n P F mc ms Q := by
  intro p l e R s m args below meth c H locs cells slots Z lsR K hz hP hD hS hl hc hr
  have k1 := kk p l e R s m args below meth c H locs cells slots Z lsR K hz hP hD hS hl hc hr
  exact lv_aload_n K.1 K.2.1 hd rfl (lsv_at hl hl9 (by intro z; cases z)) k1
theorem WK.iload_n {i : Fin 4} {x : Int} (hd : decode mt.2.1 pc = .ok (.iload_n i, 1)) (hl9 : ls[(i : Nat)]? = some (vI x)) (kk : WK d mt E q (pc + 1) ls (vI x :: st) n P F mc ms Q) : WK d mt E q pc ls st n P F mc ms Q := by
  intro p l e R s m args below meth c H locs cells slots Z lsR K hz hP hD hS hl hc hr
  have k1 := kk p l e R s m args below meth c H locs cells slots Z lsR K hz hP hD hS hl hc hr
  exact lv_iload_n K.1 K.2.1 hd rfl (lsv_at hl hl9 (by intro z; cases z)) k1
theorem WK.istore_n {i : Fin 4} {x : Int} {lt : List V} (hd : decode mt.2.1 pc = .ok (.istore_n i, 1)) (hn : (i : Nat) < mt.2.2.1) (hs : sto1 ls (i : Nat) (vI x) = lt) (kk : WK d mt E q (pc + 1) lt st n P F mc ms Q) : WK d mt E q pc ls (vI x :: st) n P F mc ms Q := by
  intro p l e R s m args below meth c H locs cells slots Z lsR K hz hP hD hS hl hc hr
  subst hs
  refine lv_istore_n K.1 K.2.1 hd rfl hl hn rfl (fun ls9 h9 => ?_)
  exact kk p l e R s m args below meth c H locs cells slots Z ls9 K hz hP hD hS (has_sto1 h9) hc hr
theorem WK.astore_n {i : Fin 4} {x : Nat} {lt : List V} (hd : decode mt.2.1 pc = .ok (.astore_n i, 1)) (hn : (i : Nat) < mt.2.2.1) (hs : sto1 ls (i : Nat) (vR x) = lt) (kk : WK d mt E q (pc + 1) lt st n P F mc ms Q) : WK d mt E q pc ls (vR x :: st) n P F mc ms Q := by
  intro p l e R s m args below meth c H locs cells slots Z lsR K hz hP hD hS hl hc hr
  subst hs
  refine lv_astore_n K.1 K.2.1 hd rfl hl hn rfl (fun ls9 h9 => ?_)
  exact kk p l e R s m args below meth c H locs cells slots Z ls9 K hz hP hD hS (has_sto1 h9) hc hr
theorem WK.goto {off : Int} {tgt : Nat} (hd : decode mt.2.1 pc = .ok (.goto off, 3)) (ht : (pc : Int) + off = (tgt : Int)) (kk : WK d mt E q tgt ls st n P F mc ms Q) : WK d mt E q pc ls st n P F mc ms Q := by
  intro p l e R s m args below meth c H locs cells slots Z lsR K hz hP hD hS hl hc hr
  have k1 := kk p l e R s m args below meth c H locs cells slots Z lsR K hz hP hD hS hl hc hr
  exact lv_goto K.1 K.2.1 hd ht k1
theorem WK.iinc {i : Nat} {k x : Int} {lt : List V} (hd : decode mt.2.1 pc = .ok (.iinc i k, 3)) (hi : ls[i]? = some (vI x)) (hn : i < mt.2.2.1) (hs : sto1 ls i (vI (x + k)) = lt) (kk : WK d mt E q (pc + 3) lt st n P F mc ms Q) : WK d mt E q pc ls st n P F mc ms Q := by
  intro p l e R s m args below meth c H locs cells slots Z lsR K hz hP hD hS hl hc hr
  subst hs
  obtain ⟨k9, hk9⟩ := has_inc hl hi
  refine lv_iinc (v := Int32.ofInt (x + k)) K.1 K.2.1 hd hl hk9 (Int32.ofInt_add x k).symm hn rfl (fun ls9 h9 => ?_)
  exact kk p l e R s m args below meth c H locs cells slots Z ls9 K hz hP hD hS (has_sto1 h9) hc hr
theorem WK.ge_t {x y off : Int} {tgt : Nat} (hd : decode mt.2.1 pc = .ok (.if_icmp .ge off, 3)) (ht : (pc : Int) + off = (tgt : Int)) (hx : -2147483648 ≤ x ∧ x < 2147483648) (hy : -2147483648 ≤ y ∧ y < 2147483648) (h : y ≤ x) (kk : WK d mt E q tgt ls st n P F mc ms Q) : WK d mt E q pc ls (vI y :: vI x :: st) n P F mc ms Q := by
  intro p l e R s m args below meth c H locs cells slots Z lsR K hz hP hD hS hl hc hr
  exact lv_icmp_ge K.1 K.2.1 hd ht (fun h9 => kk p l e R s m args below meth c H locs cells slots Z lsR K hz hP hD hS hl hc hr) (fun h9 => absurd ((oi_le hy hx).mpr h) h9)
theorem WK.ge_f {x y off : Int} {tgt : Nat} (hd : decode mt.2.1 pc = .ok (.if_icmp .ge off, 3)) (ht : (pc : Int) + off = (tgt : Int)) (hx : -2147483648 ≤ x ∧ x < 2147483648) (hy : -2147483648 ≤ y ∧ y < 2147483648) (h : x < y) (kk : WK d mt E q (pc + 3) ls st n P F mc ms Q) : WK d mt E q pc ls (vI y :: vI x :: st) n P F mc ms Q := by
  intro p l e R s m args below meth c H locs cells slots Z lsR K hz hP hD hS hl hc hr
  exact lv_icmp_ge K.1 K.2.1 hd ht (fun h9 => absurd ((oi_le hy hx).mp h9) (by omega)) (fun h9 => kk p l e R s m args below meth c H locs cells slots Z lsR K hz hP hD hS hl hc hr)
theorem WK.objInit {idx id : Nat} (hd : decode mt.2.1 pc = .ok (.invokespecial idx, 3)) (hw : Cond.methodLink mt.1.cls idx objectInit ∈ tbG) (h1 : 1 ≤ d) (kk : WK d mt E q (pc + 3) ls [] n P F mc ms Q) : WK d mt E q pc ls [vR id] n P F mc ms Q := by
  intro p l e R s m args below meth c H locs cells slots Z lsR K hz hP hD hS hl hc hr
  have k1 := kk p l e R s m args below meth c H locs cells slots Z lsR K hz hP hD hS hl hc hr
  have hR := K.2.2.2.2.2.2.2.1
  have h8 := lv_room (m := m) (pc := pc) (ls := lsR) (rest := [Value.ref (E.2.1 id)]) (st := []) (by decide)
  refine W.objInit K.1 K.2.1 K.2.2.2.1 (K.2.2.2.2.1 _ hw) (K.2.2.2.2.1 _ w_im_object) (K.2.2.2.2.1 _ w_cd_object) (g := F0 m pc lsR [Value.ref (E.2.1 id)]) rfl (hl.1.trans K.2.2.1.symm) rfl hd (by omega) ?_ k1
  have : (2 * (F0 m pc lsR [Value.ref (E.2.1 id)]).monitorRoom + (([] : List Value).map fun v => v.category).sum) ≤ 8 := h8
  omega
/-- a new array of zeros -/
theorem WK.newI {id N : Nat} (hd : decode mt.2.1 pc = .ok (.newarray .int, 2)) (hN : N ≤ 2088) (hu : E.2.1 id = q + n) (hC : C0 E id = .inl (E.2.2 0, N, .inl (fun _ => 0))) (kk : WK d mt E q (pc + 2) ls (vR id :: st) (n + 1) P (F ++ [id]) mc ms Q) : WK d mt E q pc ls (vI (N : Int) :: st) n P F (1 + mc) (N + ms) Q := by
  intro p l e R s m args below meth c H locs cells slots Z lsR K hz hP hD hS hl hc hr
  refine va_newaK (atype := .int) K.1 K.2.1 (K.2.2.2.2.1 _ w_ac_int) (g := F0 m pc lsR ((vI (N : Int) :: st).map (rl E))) (n := Int32.ofInt (N : Int)) (rest := st.map (rl E)) (N := N) rfl hd rfl (by rw [oi_n]; exact nI_pos (by omega)) (oi_cl (by omega)) (by show N * componentBytes .int ≤ _; rw [show componentBytes .int = 4 from rfl]; omega) (by omega) (by omega) hz fun H1 cA e1 z1 o1 _ hNm => ?_
  have hcA : cA = E.2.2 0 := Option.some.inj (hNm.symm.trans ((K.2.2.2.2.2.1.1.2 0 _ rfl).2))
  subst hcA
  obtain ⟨g1, g2⟩ := wk_grow (G := [id]) hP hD hz o1 (fun i a h => by
    have h1 : i < 1 := (List.getElem?_eq_some_iff.mp h).1
    have h2 : i = 0 := by omega
    subst h2
    cases h
    exact hu) (fun i a h => by
    have h1 : i < 1 := (List.getElem?_eq_some_iff.mp h).1
    have h2 : i = 0 := by omega
    subst h2
    cases h
    rw [hC]
    exact e1)
  rw [show cells + (1 + mc) = cells + 1 + mc by omega, show slots + (N + ms) = slots + N + ms by omega] at hr
  have := kk p l e R s m args below meth c H1 locs (cells + 1) (slots + N) Z lsR K (by omega) g1 g2 (vs_grow0 hS hz o1 (by omega)) hl ⟨by omega, by omega⟩ hr
  rw [← hu]
  exact this
theorem WK.newZ {id N : Nat} (hd : decode mt.2.1 pc = .ok (.newarray .boolean, 2)) (hN : N ≤ 2088) (hu : E.2.1 id = q + n) (hC : C0 E id = .inl (E.2.2 2, N, .inl (fun _ => 0))) (kk : WK d mt E q (pc + 2) ls (vR id :: st) (n + 1) P (F ++ [id]) mc ms Q) : WK d mt E q pc ls (vI (N : Int) :: st) n P F (1 + mc) (N + ms) Q := by
  intro p l e R s m args below meth c H locs cells slots Z lsR K hz hP hD hS hl hc hr
  refine va_newaK (atype := .boolean) K.1 K.2.1 (K.2.2.2.2.1 _ w_ac_boolean) (g := F0 m pc lsR ((vI (N : Int) :: st).map (rl E))) (n := Int32.ofInt (N : Int)) (rest := st.map (rl E)) (N := N) rfl hd rfl (by rw [oi_n]; exact nI_pos (by omega)) (oi_cl (by omega)) (by show N * componentBytes .boolean ≤ _; rw [show componentBytes .boolean = 1 from rfl]; omega) (by omega) (by omega) hz fun H1 cA e1 z1 o1 _ hNm => ?_
  have hcA : cA = E.2.2 2 := Option.some.inj (hNm.symm.trans ((K.2.2.2.2.2.1.1.2 2 _ rfl).2))
  subst hcA
  obtain ⟨g1, g2⟩ := wk_grow (G := [id]) hP hD hz o1 (fun i a h => by
    have h1 : i < 1 := (List.getElem?_eq_some_iff.mp h).1
    have h2 : i = 0 := by omega
    subst h2
    cases h
    exact hu) (fun i a h => by
    have h1 : i < 1 := (List.getElem?_eq_some_iff.mp h).1
    have h2 : i = 0 := by omega
    subst h2
    cases h
    rw [hC]
    exact e1)
  rw [show cells + (1 + mc) = cells + 1 + mc by omega, show slots + (N + ms) = slots + N + ms by omega] at hr
  have := kk p l e R s m args below meth c H1 locs (cells + 1) (slots + N) Z lsR K (by omega) g1 g2 (vs_grow0 hS hz o1 (by omega)) hl ⟨by omega, by omega⟩ hr
  rw [← hu]
  exact this
/-- what the tables say of a class that is made -/
def CB (ci : Nat) (C : String) (T : u_T) (N : Nat) (ty : Nat → FieldType) : Prop := cl9[ci]? = some (C, T, N) ∧ (∀ w ∈ u_ws C T N, w ∈ tbG) ∧ (∀ k, k < N → parseFieldDescriptor (T k).2.2.1 = some (ty k)) ∧ (∀ a, a < N → ∀ b, b < N → a ≠ b → (T a).2.1 ≠ (T b).2.1) ∧ (∀ k, k < N → (T k).1 = C) ∧ Cond.instantiable C N ∈ tbG ∧ Cond.initialized C ∈ tbG ∧ ∀ j, j < N → defaultValue (ty j) = vp_V (dfl ci) j
theorem WK.put {index ci j id N : Nat} {C : String} {T : u_T} {ty : Nat → FieldType} {v : V} {fs fs' : List Value} (hB : CB ci C T N ty) (hd : decode mt.2.1 pc = .ok (.putfield index, 3)) (hcls : mt.1.cls = C) (hin : mt.1.name = "<init>") (hj : j < N) (hlink : Cond.fieldLink mt.1.cls index C (T j).2.1 (T j).2.2.1 ∈ tbG) (hfl : j < fs.length) (hfs : fs.set j (rl E v) = fs') (hn : narrow (ty j) (rl E v) = rl E v) (hfit : fits (ty j) (rl E v) = true)
    (kk : WK d mt E q (pc + 3) ls st n ((id, .inr (ci, fs')) :: P) F mc ms Q) : WK d mt E q pc ls (v :: vR id :: st) n ((id, .inr (ci, fs)) :: P) F mc ms Q := by
  intro p l e R s m args below meth c H locs cells slots Z lsR K hz hP hD hS hl hc hr
  subst hfs
  obtain ⟨b1, b2, b3, b4, b5, b6, b7, b8⟩ := hB
  obtain ⟨hx, hb, hml, hown, hts, hK, hq, hR, hnm⟩ := (fun z => z : FK d mt E q p R s m args meth c → FK d mt E q p R s m args meth c) K
  have fin : ∀ (H1 : Heap) (locs1 : List Loc), va_P E.1 cl9 ((wk E ((id, .inr (ci, fs)) :: P) F).set 0 (E.2.1 id, .inr (ci, fs.set j (rl E v)))) H1 → va_D (fun x => q ≤ x) ((wk E ((id, .inr (ci, fs)) :: P) F).set 0 (E.2.1 id, .inr (ci, fs.set j (rl E v)))) → va_S (fun x => q ≤ x) s.heap H1 locs1 → H1.size = q + n → W p l e R s m args below meth c H1 locs1 cells slots Z (F0 m (pc + 3) lsR (st.map (rl E))) := fun H1 locs1 hP1 hD1 hS1 hz1 => kk p l e R s m args below meth c H1 locs1 cells slots Z lsR K hz1 hP1 hD1 hS1 hl hc hr
  have he : (wk E ((id, .inr (ci, fs)) :: P) F)[0]? = some (E.2.1 id, .inr (ci, fs)) := rfl
  have hap := va_apart (own := mt.1.cls) hts b2 ty b3 b4 hK.1 b1
  obtain ⟨r, h1, cell, q1, q2, q3, q4⟩ := hP 0 _ he
  have hr9 : r = (C, T, N) := Option.some.inj (h1.symm.trans b1)
  subst hr9
  obtain ⟨hS9, hfc, kC, hkC, hkind⟩ := hK.1.1 ci _ b1
  obtain ⟨cf, kf, fi, f, hi, hsl⟩ := hS9 j hj
  have hi2 : s.fieldFound? C (T j).2.1 (T j).2.2.1 = some (cf, kf, fi, f) := by rw [← b5 j hj]; exact hi
  have hst := (u_facts hfc hkC (u_lays hts b2 hj) hi).1
  have hlay := hts _ (b2 _ (u_in_lay hj))
  unfold u_lay at hlay
  have fin2 : ∀ (H1 : Heap) (i9 : Nat), i9 = E.1.2 ci j → H1[E.2.1 id]? = some (cell.setSlot i9 (rl E v)) → H1.size = H.size → (∀ x : Nat, x ≠ E.2.1 id → H1[x]? = H[x]?) → W p l e R s m args below meth c H1 (locs ++ [⟨E.2.1 id, i9⟩]) cells slots Z (F0 m (pc + 3) lsR (st.map (rl E))) := fun H1 i9 hi9 e1 e2 e3 => by
    subst hi9
    exact fin H1 _ (hP.set hD he ⟨_, b1, t_OB.to (V := updV (vp_V fs) j (rl E v)) ⟨_, e1, q2, q3, t_set q4 hap hj (rl E v)⟩ (fun j9 _ => vp_updV_set hfl (rl E v) j9)⟩ e3) (hD.set he) (hS.put e2 e3 (hD.2 0 _ he)) (e2.trans hz)
  by_cases hfin : (T j).2.2.2 = true
  · rw [if_pos hfin] at hlay
    have hcf : m.cls = cf := by
      obtain ⟨_, _, c', _, _, _, -, -, hf', -, -, -, hown2, -⟩ := Cond.laysFinal_spec hlay
      have e1 : c' = cf := by have := hi.symm.trans hf'; simp at this; exact this.1.symm
      rw [b5 j hj, ← hcls] at hown2
      rw [← e1]; exact Option.some.inj (hown.symm.trans hown2)
    have h6 := u_fits hfc hkC hkind (Or.inr hlay) hi (b3 j hj) hn hfit
    exact W.putFinK hx hb hown (hts _ hlink) hi2 hst hcf (hnm hin) (by rw [q2]; exact h6) q1 q3 (by rw [hsl]; exact k2_hasslot (q4 j hj)) rfl rfl hd fun H1 e1 e2 e3 => fin2 H1 _ hsl e1 e2 e3
  · rw [if_neg hfin] at hlay
    have h6 := u_store hfc hkC hkind hlay hi (b3 j hj) hn hfit
    exact W.putK hx hb (f := f) ⟨hown, hts _ hlink, ⟨_, _, _, hi2⟩, hst⟩ (by rw [q2]; exact h6) q1 q3 (by rw [hsl]; exact k2_hasslot (q4 j hj)) rfl rfl hd fun H1 e1 e2 e3 => fin2 H1 _ hsl e1 e2 e3
theorem WK.get {index ci j id N : Nat} {C : String} {T : u_T} {ty : Nat → FieldType} {v : V} {fs : List Value} (hB : CB ci C T N ty) (hd : decode mt.2.1 pc = .ok (.getfield index, 3)) (hj : j < N) (hlink : Cond.fieldLink mt.1.cls index C (T j).2.1 (T j).2.2.1 ∈ tbG) (hv : fs[j]? = some (rl E v))
    (kk : WK d mt E q (pc + 3) ls (v :: st) n ((id, .inr (ci, fs)) :: P) F mc ms Q) : WK d mt E q pc ls (vR id :: st) n ((id, .inr (ci, fs)) :: P) F mc ms Q := by
  intro p l e R s m args below meth c H locs cells slots Z lsR K hz hP hD hS hl hc hr
  have k1 := kk p l e R s m args below meth c H locs cells slots Z lsR K hz hP hD hS hl hc hr
  obtain ⟨b1, b2, b3, b4, b5, b6, b7, b8⟩ := hB
  exact va_get (D := E.1) (ci := ci) K.1 K.2.1 K.2.2.2.2.1 b2 K.2.2.2.1 K.2.2.2.2.2.1.1 hP 0 rfl b1 j hj (K.2.2.2.2.1 _ hlink) (fun _ h9 => by rw [b5 j hj] at h9; exact h9) hv hd k1
end RULESK

