/-! the judgement: from here the method comes to a return with Q -/
/-- one of the words on nested classes -/
def nwW : Cond := .methodLinkNest RX7 9 yX6_init RX7
def FX (sc : Nat × (Nat → Int)) (d : Nat) (mt : Mth) (p : Program) (R : Room) (s : State) (m : MethodId) (args : Array Value) (c : Code) (E : EN) (A : Nat → Prop) (cells slots : Nat) : Prop :=
  p.tables.exec = Jvm.exec ∧ c.code = mt.2.1 ∧ c.maxLocals = mt.2.2.1 ∧ s.vm.findClass mt.1.cls = some m.cls ∧ (∀ w ∈ tbG, w.before args s = true) ∧ va_K E.1 cl9 (tysE E) s ∧
  (∀ i j : Nat, i < 334 → j < 334 → E.2.1 i = E.2.1 j → i = j) ∧ (∀ k : Nat, k < 334 → A (E.2.1 k)) ∧ (d ≤ R.frames ∧ 64 * d ≤ R.locals ∧ cells ≤ R.cells ∧ slots ≤ R.slots ∧ va_Nw nwW s) ∧
  (sc.1 = 0 ∨ (va_X (E.2.1 334) (sc.1 - 1) (fun j => Int32.ofInt (sc.2 j)) s s.heap ∧ E.2.1 334 < s.heap.size ∧ ¬ A (E.2.1 334) ∧ sc.1 - 1 < 2147483648))
def RT (mt : Mth) (pc : Nat) (r : Option V) : Prop :=
  (∃ x : Int, r = some (vI x) ∧ decode mt.2.1 pc = .ok (.ireturn, 1) ∧ (mt.2.2.2 = some .int ∨ (mt.2.2.2 = some .boolean ∧ (x = 0 ∨ x = 1)))) ∨
  (r = none ∧ decode mt.2.1 pc = .ok (.return_, 1) ∧ mt.2.2.2 = none) ∨
  (∃ k : Nat, r = some (vR k) ∧ decode mt.2.1 pc = .ok (.areturn, 1) ∧ ∃ n, mt.2.2.2 = some (.object n)) ∨
  (∃ x : Int64, r = some (vL x) ∧ decode mt.2.1 pc = .ok (.lreturn, 1) ∧ mt.2.2.2 = some .long)
def WP (sc : Nat × (Nat → Int)) (d : Nat) (mt : Mth) (pc : Nat) (ls st : List V) (M : Mem) (Q : Option V → Mem → Prop) : Prop :=
  ∀ (p : Program) (l : Launch) (e : Env) (R : Room) (s : State) (m : MethodId) (args : Array Value) (below : List Frame) (meth : Method) (c : Code) (E : EN) (A : Nat → Prop) (H : Heap) (locs : List Loc) (cells slots : Nat) (Z : State → Prop) (lsR : Array Slot),
    FX sc d mt p R s m args c E A cells slots → va_P E.1 cl9 (wld E M) H → va_S A s.heap H locs → lv_has lsR mt.2.2.1 (lsv E 0 ls) →
    (∀ (r : Option V) (M' : Mem) (H' : Heap) (locs' : List Loc) (lsR' : Array Slot) (pc' : Nat), RT mt pc' r → Q r M' → va_P E.1 cl9 (wld E M') H' → va_S A s.heap H' locs' → W p l e R s m args below meth c H' locs' cells slots Z (F0 m pc' lsR' ((r.map (rl E)).toList))) →
    W p l e R s m args below meth c H locs cells slots Z (F0 m pc lsR (st.map (rl E)))
abbrev sc0 : Nat × (Nat → Int) := (0, fun _ => 0)
/-- a method's contract -/
def wsO (mt : Mth) : List Cond := Cond.code mt.1 mt.2.1 mt.2.2.1 mt.2.2.2 :: tbG
def rmO (d : Nat) : Room := { frames := d, cells := 0, slots := 0, locals := 64 * d }
def AE (E : EN) : Nat → Prop := fun q => ∃ k, k < 334 ∧ q = E.2.1 k
def PcE (E : EN) (as : List V) (M : Mem) : Array Value → State → Prop := fun v U => v = (as.map (rl E)).toArray ∧ va_K E.1 cl9 (tysE E) U ∧ va_P E.1 cl9 (wld E M) U.heap ∧ va_Nw nwW U
def QcE (E : EN) (Q : Option V → Mem → Prop) : Array Value → State → Outcome → State → Prop := fun _ st oc t => (∃ (r : Option V) (M' : Mem), oc = .returned (r.map (rl E)) ∧ Q r M' ∧ va_P E.1 cl9 (wld E M') t.heap) ∧ va_F (AE E) st t
def CT (d : Nat) (mt : Mth) (as : List V) (M : Mem) (Q : Option V → Mem → Prop) : Prop :=
  ∀ (l : Launch) (E : EN), (∀ i j : Nat, i < 334 → j < 334 → E.2.1 i = E.2.1 j → i = j) → Met l mt.1 (wsO mt) (rmO d) (PcE E as M) (QcE E Q) 0 0 (AE E)
def ents : List V → List V
  | [] => []
  | .inr (.inl x) :: t => vL x :: vU :: ents t
  | v :: t => v :: ents t
def ent (n : Nat) (as : List V) : List V := ents as ++ List.replicate (n - (ents as).length) vU
theorem ents_len (E : EN) : ∀ as : List V, (lg_sl (as.map (rl E))).length = (ents as).length
  | [] => rfl
  | a :: t => by
    have ih := ents_len E t
    have hc : lg_sl ((a :: t).map (rl E)) = (if (rl E a).category = 2 then [Slot.val (rl E a), Slot.second] else [Slot.val (rl E a)]) ++ lg_sl (t.map (rl E)) := rfl
    rw [hc, List.length_append, ih, cat_rl]
    rcases a with x | x | x
    · show 1 + _ = _ + 1; omega
    · show 2 + _ = _ + 1 + 1; omega
    · show 1 + _ = _ + 1; omega
theorem lsv_rep (E : EN) : ∀ (n i : Nat), lsv E i (List.replicate n vU) = []
  | 0, _ => rfl
  | n + 1, i => by
    rw [List.replicate_succ]
    exact lsv_rep E n (i + 1)
theorem ents_args (E : EN) (n : Nat) : ∀ (as : List V) (i : Nat), ∀ q ∈ lsv E i (ents as ++ List.replicate n vU), q ∈ lv_args i (as.map (rl E))
  | [], i, q, h => by
    rw [show ents [] ++ List.replicate n vU = List.replicate n vU from rfl, lsv_rep] at h
    cases h
  | a :: t, i, q, h => by
    have hc : lv_args i ((a :: t).map (rl E)) = (i, rl E a) :: lv_args (if (rl E a).category = 2 then i + 2 else i + 1) (t.map (rl E)) := rfl
    rw [hc, cat_rl]
    rcases a with x | x | x
    · rcases List.mem_cons.mp h with h | h
      · exact h ▸ List.mem_cons_self
      · exact List.mem_cons_of_mem _ (ents_args E n t (i + 1) q h)
    · rcases List.mem_cons.mp h with h | h
      · exact h ▸ List.mem_cons_self
      · exact List.mem_cons_of_mem _ (ents_args E n t (i + 2) q h)
    · cases x with
      | none => exact List.mem_cons_of_mem _ (ents_args E n t (i + 1) q h)
      | some x =>
        rcases List.mem_cons.mp h with h | h
        · exact h ▸ List.mem_cons_self
        · exact List.mem_cons_of_mem _ (ents_args E n t (i + 1) q h)
theorem nar_b {x : Int} (h : x = 0 ∨ x = 1) : narrow .boolean (.int (Int32.ofInt x)) = .int (Int32.ofInt x) := by
  rcases h with h | h <;> subst h <;> decide +kernel
theorem CT.ofWP {d : Nat} {mt : Mth} {as : List V} {M : Mem} {Q : Option V → Mem → Prop} (hy : plainName mt.1.cls = true) (hlen : (ents as).length ≤ mt.2.2.1) (h : WP sc0 d mt 0 (ent mt.2.2.1 as) [] M Q) : CT d mt as M Q := by
  intro l E hE
  refine Met.ofW (cc := mt.2.1) (maxL := mt.2.2.1) (ret := mt.2.2.2) hy rfl ?_
  intro p e s m args below meth c s₁ B hml hv
  obtain ⟨rfl, hK, hP, hN⟩ := hv
  have hts := atoms_spec (ws := wsO mt) B.pre
  rw [lg_entry_eq]
  have hl := lv_entry (as.map (rl E)) (n := mt.2.2.1) (by rw [ents_len]; exact hlen)
  have hl2 : lv_has ((lg_sl (as.map (rl E)) ++ List.replicate (mt.2.2.1 - (lg_sl (as.map (rl E))).length) Slot.unset).toArray) mt.2.2.1 (lsv E 0 (ent mt.2.2.1 as)) := ⟨hl.1, hl.2.1, fun q hq => hl.2.2 q (ents_args E _ as 0 q hq)⟩
  have hA : ∀ k : Nat, k < 334 → AE E (E.2.1 k) := fun k hk => ⟨k, hk, rfl⟩
  refine h p l e _ s m _ below meth c E (AE E) s.heap [] 0 0 _ _ ⟨B.exec, B.bytes, hml, findClass_of_methodNamed B.named, fun w hw => hts w (List.mem_cons_of_mem _ hw), hK, hE, hA, ⟨Nat.le_refl _, Nat.le_refl _, Nat.zero_le _, Nat.zero_le _, hN⟩, Or.inl rfl⟩ hP va_S.rf hl2 ?_
  intro r M' H' locs' lsR' pc' hR hQ hP' hS'
  have hlocks := B.notSynchronized
  have hend : ∀ t : State, t.heap = H' → s.WarmedH t.vm → QcE E Q (as.map (rl E)).toArray s (.returned (r.map (rl E))) t := fun t ht _ => ⟨⟨r, M', rfl, hQ, by rw [ht]; exact hP'⟩, hS'.F ht⟩
  rcases hR with ⟨x, rfl, hd, hr⟩ | ⟨rfl, hd, hr⟩ | ⟨k, rfl, hd, n, hr⟩ | ⟨x, rfl, hd, hr⟩
  · rcases hr with hr | ⟨hr, hx⟩
    · exact W.iret B.exec B.bytes (B.returns.trans hr) hend hS'.2.2 hd
    · exact W.zret B.exec B.bytes (B.returns.trans hr) (nar_b hx) hend hS'.2.2 hd
  · exact W.vret B.exec B.bytes (B.returns.trans hr) hend hS'.2.2 hd
  · exact W.aret B.exec B.bytes (B.returns.trans hr) (Or.inl ⟨n, rfl⟩) (Or.inr ⟨_, rfl⟩) hend hS'.2.2 hd
  · exact W.lret B.exec B.bytes (B.returns.trans hr) hend hS'.2.2 hd
section RULES
variable {sc : Nat × (Nat → Int)} {d : Nat} {mt : Mth} {pc : Nat} {ls st : List V} {M : Mem} {Q : Option V → Mem → Prop}
theorem WP.fgt {lt : List V} (hf : fgt ls lt) (k : WP sc d mt pc lt st M Q) : WP sc d mt pc ls st M Q := by
  intro p l e R s m args below meth c E A H locs cells slots Z lsR F hP hS hl hr
  exact k p l e R s m args below meth c E A H locs cells slots Z lsR F hP hS (has_fgt hf hl) hr
theorem WP.mono {Q' : Option V → Mem → Prop} (hq : ∀ r M', Q' r M' → Q r M') (k : WP sc d mt pc ls st M Q') : WP sc d mt pc ls st M Q := by
  intro p l e R s m args below meth c E A H locs cells slots Z lsR F hP hS hl hr
  exact k p l e R s m args below meth c E A H locs cells slots Z lsR F hP hS hl (fun r M' H' l' s' p' hR hQ => hr r M' H' l' s' p' hR (hq r M' hQ))
theorem CT.mono {as : List V} {Q' : Option V → Mem → Prop} (hq : ∀ r M', Q' r M' → Q r M') (k : CT d mt as M Q') : CT d mt as M Q := by
  intro l E hE p e h1 h2 h3 s m args below h4 h5 h6 h7
  obtain ⟨n, o, g1, g2, g3, ⟨⟨⟨r, M', q1, q2, q3⟩, q4⟩, q5⟩⟩ := k l E hE p e h1 h2 h3 s m args below h4 h5 h6 h7
  exact ⟨n, o, g1, g2, g3, ⟨⟨⟨r, M', q1, hq _ _ q2, q3⟩, q4⟩, q5⟩⟩
theorem WP.eqs {ls' st' : List V} (h1 : ls = ls') (h2 : st = st') (k : WP sc d mt pc ls' st' M Q) : WP sc d mt pc ls st M Q := by
  subst h1; subst h2; exact k
theorem WP.eqM {M' : Mem} (h1 : M = M') (k : WP sc d mt pc ls st M' Q) : WP sc d mt pc ls st M Q := by
  subst h1; exact k
theorem WP.iret {x : Int} (hd : decode mt.2.1 pc = .ok (.ireturn, 1)) (hr : mt.2.2.2 = some .int) (hq : Q (some (vI x)) M) : WP sc d mt pc ls [vI x] M Q := by
  intro p l e R s m args below meth c E A H locs cells slots Z lsR F hP hS hl hr'
  exact hr' (some (vI x)) M H locs lsR pc (Or.inl ⟨x, rfl, hd, Or.inl hr⟩) hq hP hS
theorem WP.zret {x : Int} (hd : decode mt.2.1 pc = .ok (.ireturn, 1)) (hr : mt.2.2.2 = some .boolean) (hx : x = 0 ∨ x = 1) (hq : Q (some (vI x)) M) : WP sc d mt pc ls [vI x] M Q := by
  intro p l e R s m args below meth c E A H locs cells slots Z lsR F hP hS hl hr'
  exact hr' (some (vI x)) M H locs lsR pc (Or.inl ⟨x, rfl, hd, Or.inr ⟨hr, hx⟩⟩) hq hP hS
theorem WP.vret (hd : decode mt.2.1 pc = .ok (.return_, 1)) (hr : mt.2.2.2 = none) (hq : Q none M) : WP sc d mt pc ls [] M Q := by
  intro p l e R s m args below meth c E A H locs cells slots Z lsR F hP hS hl hr'
  exact hr' none M H locs lsR pc (Or.inr (Or.inl ⟨rfl, hd, hr⟩)) hq hP hS
theorem WP.aret {k : Nat} {n : String} (hd : decode mt.2.1 pc = .ok (.areturn, 1)) (hr : mt.2.2.2 = some (.object n)) (hq : Q (some (vR k)) M) : WP sc d mt pc ls [vR k] M Q := by
  intro p l e R s m args below meth c E A H locs cells slots Z lsR F hP hS hl hr'
  exact hr' (some (vR k)) M H locs lsR pc (Or.inr (Or.inr (Or.inl ⟨k, rfl, hd, n, hr⟩))) hq hP hS
theorem WP.lret {x : Int64} (hd : decode mt.2.1 pc = .ok (.lreturn, 1)) (hr : mt.2.2.2 = some .long) (hq : Q (some (vL x)) M) : WP sc d mt pc ls [vL x] M Q := by
  intro p l e R s m args below meth c E A H locs cells slots Z lsR F hP hS hl hr'
  exact hr' (some (vL x)) M H locs lsR pc (Or.inr (Or.inr (Or.inr ⟨x, rfl, hd, hr⟩))) hq hP hS
theorem WP.iconst {n : Int} (hd : decode mt.2.1 pc = .ok (.iconst n, 1)) (k : WP sc d mt (pc + 1) ls (vI n :: st) M Q) : WP sc d mt pc ls (st) M Q := by
  intro p l e R s m args below meth c E A H locs cells slots Z lsR F hP hS hl hr
  have kk := k p l e R s m args below meth c E A H locs cells slots Z lsR F hP hS hl hr
  exact lv_iconst F.1 F.2.1 hd rfl kk
theorem WP.bipush {n : Int} (hd : decode mt.2.1 pc = .ok (.bipush n, 2)) (hv : (Int8.ofInt n).toInt32 = Int32.ofInt n) (k : WP sc d mt (pc + 2) ls (vI n :: st) M Q) : WP sc d mt pc ls (st) M Q := by
  intro p l e R s m args below meth c E A H locs cells slots Z lsR F hP hS hl hr
  have kk := k p l e R s m args below meth c E A H locs cells slots Z lsR F hP hS hl hr
  exact lv_bipush F.1 F.2.1 hd hv kk
theorem WP.sipush {n : Int} (hd : decode mt.2.1 pc = .ok (.sipush n, 3)) (hv : (Int16.ofInt n).toInt32 = Int32.ofInt n) (k : WP sc d mt (pc + 3) ls (vI n :: st) M Q) : WP sc d mt pc ls (st) M Q := by
  intro p l e R s m args below meth c E A H locs cells slots Z lsR F hP hS hl hr
  have kk := k p l e R s m args below meth c E A H locs cells slots Z lsR F hP hS hl hr
  exact lv_sipush F.1 F.2.1 hd hv kk
theorem WP.lconst {n : Fin 2} {v : Int64} (hd : decode mt.2.1 pc = .ok (.lconst n, 1)) (hv : Int64.ofNat (n : Nat) = v) (k : WP sc d mt (pc + 1) ls (vL v :: st) M Q) : WP sc d mt pc ls (st) M Q := by
  intro p l e R s m args below meth c E A H locs cells slots Z lsR F hP hS hl hr
  have kk := k p l e R s m args below meth c E A H locs cells slots Z lsR F hP hS hl hr
  exact lv_lconst F.1 F.2.1 hd hv kk
theorem WP.ldc {i : Nat} {v : Int32} {x : Int} (hd : decode mt.2.1 pc = .ok (.ldc i, 2)) (hw : Cond.constant mt.1.cls i v ∈ tbG) (hv : v = Int32.ofInt x) (k : WP sc d mt (pc + 2) ls (vI x :: st) M Q) : WP sc d mt pc ls (st) M Q := by
  intro p l e R s m args below meth c E A H locs cells slots Z lsR F hP hS hl hr
  have kk := k p l e R s m args below meth c E A H locs cells slots Z lsR F hP hS hl hr
  subst hv
  exact lv_ldc F.1 F.2.1 F.2.2.2.1 (F.2.2.2.2.1 _ hw) hd kk
theorem WP.ldcw {i : Nat} {v : Int32} {x : Int} (hd : decode mt.2.1 pc = .ok (.ldc_w i, 3)) (hw : Cond.constant mt.1.cls i v ∈ tbG) (hv : v = Int32.ofInt x) (k : WP sc d mt (pc + 3) ls (vI x :: st) M Q) : WP sc d mt pc ls (st) M Q := by
  intro p l e R s m args below meth c E A H locs cells slots Z lsR F hP hS hl hr
  have kk := k p l e R s m args below meth c E A H locs cells slots Z lsR F hP hS hl hr
  subst hv
  exact lv_ldcw F.1 F.2.1 F.2.2.2.1 (F.2.2.2.2.1 _ hw) hd kk
theorem WP.ldc2 {i : Nat} {v : Int64} (hd : decode mt.2.1 pc = .ok (.ldc2_w i, 3)) (hw : Cond.constantLong mt.1.cls i v ∈ tbG) (k : WP sc d mt (pc + 3) ls (vL v :: st) M Q) : WP sc d mt pc ls (st) M Q := by
  intro p l e R s m args below meth c E A H locs cells slots Z lsR F hP hS hl hr
  have kk := k p l e R s m args below meth c E A H locs cells slots Z lsR F hP hS hl hr
  exact lv_ldc2 F.1 F.2.1 F.2.2.2.1 (F.2.2.2.2.1 _ hw) hd kk
theorem WP.iload_n {i : Fin 4} {x : Int} (hd : decode mt.2.1 pc = .ok (.iload_n i, 1)) (hl9 : ls[(i : Nat)]? = some (vI x)) (k : WP sc d mt (pc + 1) ls (vI x :: st) M Q) : WP sc d mt pc ls (st) M Q := by
  intro p l e R s m args below meth c E A H locs cells slots Z lsR F hP hS hl hr
  have kk := k p l e R s m args below meth c E A H locs cells slots Z lsR F hP hS hl hr
  exact lv_iload_n F.1 F.2.1 hd rfl (lsv_at hl hl9 (by intro z; cases z)) kk
theorem WP.iload {i : Nat} {x : Int} (hd : decode mt.2.1 pc = .ok (.iload i, 2)) (hl9 : ls[i]? = some (vI x)) (k : WP sc d mt (pc + 2) ls (vI x :: st) M Q) : WP sc d mt pc ls (st) M Q := by
  intro p l e R s m args below meth c E A H locs cells slots Z lsR F hP hS hl hr
  have kk := k p l e R s m args below meth c E A H locs cells slots Z lsR F hP hS hl hr
  exact lv_iload F.1 F.2.1 hd (lsv_at hl hl9 (by intro z; cases z)) kk
theorem WP.lload_n {i : Fin 4} {x : Int64} (hd : decode mt.2.1 pc = .ok (.lload_n i, 1)) (hl9 : ls[(i : Nat)]? = some (vL x)) (k : WP sc d mt (pc + 1) ls (vL x :: st) M Q) : WP sc d mt pc ls (st) M Q := by
  intro p l e R s m args below meth c E A H locs cells slots Z lsR F hP hS hl hr
  have kk := k p l e R s m args below meth c E A H locs cells slots Z lsR F hP hS hl hr
  exact lv_lload_n F.1 F.2.1 hd rfl (lsv_at hl hl9 (by intro z; cases z)) kk
theorem WP.lload {i : Nat} {x : Int64} (hd : decode mt.2.1 pc = .ok (.lload i, 2)) (hl9 : ls[i]? = some (vL x)) (k : WP sc d mt (pc + 2) ls (vL x :: st) M Q) : WP sc d mt pc ls (st) M Q := by
  intro p l e R s m args below meth c E A H locs cells slots Z lsR F hP hS hl hr
  have kk := k p l e R s m args below meth c E A H locs cells slots Z lsR F hP hS hl hr
  exact lv_lload F.1 F.2.1 hd (lsv_at hl hl9 (by intro z; cases z)) kk
theorem WP.aload_n {i : Fin 4} {x : Nat} (hd : decode mt.2.1 pc = .ok (.aload_n i, 1)) (hl9 : ls[(i : Nat)]? = some (vR x)) (k : WP sc d mt (pc + 1) ls (vR x :: st) M Q) : WP sc d mt pc ls (st) M Q := by
  intro p l e R s m args below meth c E A H locs cells slots Z lsR F hP hS hl hr
  have kk := k p l e R s m args below meth c E A H locs cells slots Z lsR F hP hS hl hr
  exact lv_aload_n F.1 F.2.1 hd rfl (lsv_at hl hl9 (by intro z; cases z)) kk
theorem WP.aload {i : Nat} {x : Nat} (hd : decode mt.2.1 pc = .ok (.aload i, 2)) (hl9 : ls[i]? = some (vR x)) (k : WP sc d mt (pc + 2) ls (vR x :: st) M Q) : WP sc d mt pc ls (st) M Q := by
  intro p l e R s m args below meth c E A H locs cells slots Z lsR F hP hS hl hr
  have kk := k p l e R s m args below meth c E A H locs cells slots Z lsR F hP hS hl hr
  exact lv_aload F.1 F.2.1 hd (lsv_at hl hl9 (by intro z; cases z)) kk
theorem WP.istore_n {i : Fin 4} {x : Int} (hd : decode mt.2.1 pc = .ok (.istore_n i, 1)) {lt : List V} (hn : (i : Nat) < mt.2.2.1) (hs : sto1 ls (i : Nat) (vI x) = lt) (k : WP sc d mt (pc + 1) lt st M Q) : WP sc d mt pc ls (vI x :: st) M Q := by
  intro p l e R s m args below meth c E A H locs cells slots Z lsR F hP hS hl hr
  subst hs
  refine lv_istore_n F.1 F.2.1 hd rfl hl hn rfl (fun ls9 h9 => ?_)
  exact k p l e R s m args below meth c E A H locs cells slots Z ls9 F hP hS (has_sto1 h9) hr
theorem WP.istore {i : Nat} {x : Int} (hd : decode mt.2.1 pc = .ok (.istore i, 2)) {lt : List V} (hn : (i : Nat) < mt.2.2.1) (hs : sto1 ls i (vI x) = lt) (k : WP sc d mt (pc + 2) lt st M Q) : WP sc d mt pc ls (vI x :: st) M Q := by
  intro p l e R s m args below meth c E A H locs cells slots Z lsR F hP hS hl hr
  subst hs
  refine lv_istore F.1 F.2.1 hd hl hn rfl (fun ls9 h9 => ?_)
  exact k p l e R s m args below meth c E A H locs cells slots Z ls9 F hP hS (has_sto1 h9) hr
theorem WP.lstore_n {i : Fin 4} {x : Int64} (hd : decode mt.2.1 pc = .ok (.lstore_n i, 1)) {lt : List V} (hn : (i : Nat) + 1 < mt.2.2.1) (hs : sto2 ls (i : Nat) (vL x) = lt) (k : WP sc d mt (pc + 1) lt st M Q) : WP sc d mt pc ls (vL x :: st) M Q := by
  intro p l e R s m args below meth c E A H locs cells slots Z lsR F hP hS hl hr
  subst hs
  refine lv_lstore_n F.1 F.2.1 hd rfl hl hn rfl (fun ls9 h9 => ?_)
  exact k p l e R s m args below meth c E A H locs cells slots Z ls9 F hP hS (has_sto2 h9) hr
theorem WP.lstore {i : Nat} {x : Int64} (hd : decode mt.2.1 pc = .ok (.lstore i, 2)) {lt : List V} (hn : (i : Nat) + 1 < mt.2.2.1) (hs : sto2 ls i (vL x) = lt) (k : WP sc d mt (pc + 2) lt st M Q) : WP sc d mt pc ls (vL x :: st) M Q := by
  intro p l e R s m args below meth c E A H locs cells slots Z lsR F hP hS hl hr
  subst hs
  refine lv_lstore F.1 F.2.1 hd hl hn rfl (fun ls9 h9 => ?_)
  exact k p l e R s m args below meth c E A H locs cells slots Z ls9 F hP hS (has_sto2 h9) hr
theorem WP.astore_n {i : Fin 4} {x : Nat} (hd : decode mt.2.1 pc = .ok (.astore_n i, 1)) {lt : List V} (hn : (i : Nat) < mt.2.2.1) (hs : sto1 ls (i : Nat) (vR x) = lt) (k : WP sc d mt (pc + 1) lt st M Q) : WP sc d mt pc ls (vR x :: st) M Q := by
  intro p l e R s m args below meth c E A H locs cells slots Z lsR F hP hS hl hr
  subst hs
  refine lv_astore_n F.1 F.2.1 hd rfl hl hn rfl (fun ls9 h9 => ?_)
  exact k p l e R s m args below meth c E A H locs cells slots Z ls9 F hP hS (has_sto1 h9) hr
theorem WP.astore {i : Nat} {x : Nat} (hd : decode mt.2.1 pc = .ok (.astore i, 2)) {lt : List V} (hn : (i : Nat) < mt.2.2.1) (hs : sto1 ls i (vR x) = lt) (k : WP sc d mt (pc + 2) lt st M Q) : WP sc d mt pc ls (vR x :: st) M Q := by
  intro p l e R s m args below meth c E A H locs cells slots Z lsR F hP hS hl hr
  subst hs
  refine lv_astore F.1 F.2.1 hd hl hn rfl (fun ls9 h9 => ?_)
  exact k p l e R s m args below meth c E A H locs cells slots Z ls9 F hP hS (has_sto1 h9) hr
theorem has_inc {E : EN} {lsR : Array Slot} {n i : Nat} {ls : List V} {x : Int} (h : lv_has lsR n (lsv E 0 ls)) (hi : ls[i]? = some (vI x)) : ∃ k : Nat, (lsv E 0 ls)[k]? = some (i, Value.int (Int32.ofInt x)) := by
  have := lsv_in (E := E) ls 0 i _ hi (by intro z; cases z)
  rw [Nat.zero_add] at this
  exact List.getElem?_of_mem this
theorem WP.iinc {i : Nat} {n x : Int} {lt : List V} (hd : decode mt.2.1 pc = .ok (.iinc i n, 3)) (hi : ls[i]? = some (vI x)) (hn : i < mt.2.2.1) (hs : sto1 ls i (vI (x + n)) = lt) (k : WP sc d mt (pc + 3) lt st M Q) : WP sc d mt pc ls st M Q := by
  intro p l e R s m args below meth c E A H locs cells slots Z lsR F hP hS hl hr
  subst hs
  obtain ⟨k9, hk9⟩ := has_inc hl hi
  refine lv_iinc (v := Int32.ofInt (x + n)) F.1 F.2.1 hd hl hk9 (Int32.ofInt_add x n).symm hn rfl (fun ls9 h9 => ?_)
  exact k p l e R s m args below meth c E A H locs cells slots Z ls9 F hP hS (has_sto1 h9) hr
theorem WP.iadd {x y : Int} (hd : decode mt.2.1 pc = .ok (.iadd, 1)) (k : WP sc d mt (pc + 1) ls (vI (x + y) :: st) M Q) : WP sc d mt pc ls (vI y :: vI x :: st) M Q := by
  intro p l e R s m args below meth c E A H locs cells slots Z lsR F hP hS hl hr
  have kk := k p l e R s m args below meth c E A H locs cells slots Z lsR F hP hS hl hr
  refine lv_iadd F.1 F.2.1 hd ?_
  rw [← Int32.ofInt_add]
  exact kk
theorem WP.isub {x y : Int} (hd : decode mt.2.1 pc = .ok (.isub, 1)) (k : WP sc d mt (pc + 1) ls (vI (x - y) :: st) M Q) : WP sc d mt pc ls (vI y :: vI x :: st) M Q := by
  intro p l e R s m args below meth c E A H locs cells slots Z lsR F hP hS hl hr
  have kk := k p l e R s m args below meth c E A H locs cells slots Z lsR F hP hS hl hr
  refine lv_isub F.1 F.2.1 hd ?_
  rw [← Int32.ofInt_sub]
  exact kk
theorem WP.imul {x y : Int} (hd : decode mt.2.1 pc = .ok (.imul, 1)) (k : WP sc d mt (pc + 1) ls (vI (x * y) :: st) M Q) : WP sc d mt pc ls (vI y :: vI x :: st) M Q := by
  intro p l e R s m args below meth c E A H locs cells slots Z lsR F hP hS hl hr
  have kk := k p l e R s m args below meth c E A H locs cells slots Z lsR F hP hS hl hr
  refine lv_imul F.1 F.2.1 hd ?_
  rw [← Int32.ofInt_mul]
  exact kk
theorem WP.ladd {x y : Int64} (hd : decode mt.2.1 pc = .ok (.ladd, 1)) (k : WP sc d mt (pc + 1) ls (vL (x + y) :: st) M Q) : WP sc d mt pc ls (vL y :: vL x :: st) M Q := by
  intro p l e R s m args below meth c E A H locs cells slots Z lsR F hP hS hl hr
  have kk := k p l e R s m args below meth c E A H locs cells slots Z lsR F hP hS hl hr
  exact lv_ladd F.1 F.2.1 hd kk
theorem WP.lsub {x y : Int64} (hd : decode mt.2.1 pc = .ok (.lsub, 1)) (k : WP sc d mt (pc + 1) ls (vL (x - y) :: st) M Q) : WP sc d mt pc ls (vL y :: vL x :: st) M Q := by
  intro p l e R s m args below meth c E A H locs cells slots Z lsR F hP hS hl hr
  have kk := k p l e R s m args below meth c E A H locs cells slots Z lsR F hP hS hl hr
  exact lv_lsub F.1 F.2.1 hd kk
theorem WP.lmul {x y : Int64} (hd : decode mt.2.1 pc = .ok (.lmul, 1)) (k : WP sc d mt (pc + 1) ls (vL (x * y) :: st) M Q) : WP sc d mt pc ls (vL y :: vL x :: st) M Q := by
  intro p l e R s m args below meth c E A H locs cells slots Z lsR F hP hS hl hr
  have kk := k p l e R s m args below meth c E A H locs cells slots Z lsR F hP hS hl hr
  exact lv_lmul F.1 F.2.1 hd kk
theorem WP.land {x y : Int64} (hd : decode mt.2.1 pc = .ok (.land, 1)) (k : WP sc d mt (pc + 1) ls (vL (x &&& y) :: st) M Q) : WP sc d mt pc ls (vL y :: vL x :: st) M Q := by
  intro p l e R s m args below meth c E A H locs cells slots Z lsR F hP hS hl hr
  have kk := k p l e R s m args below meth c E A H locs cells slots Z lsR F hP hS hl hr
  exact lv_land F.1 F.2.1 hd kk
theorem WP.lor {x y : Int64} (hd : decode mt.2.1 pc = .ok (.lor, 1)) (k : WP sc d mt (pc + 1) ls (vL (x ||| y) :: st) M Q) : WP sc d mt pc ls (vL y :: vL x :: st) M Q := by
  intro p l e R s m args below meth c E A H locs cells slots Z lsR F hP hS hl hr
  have kk := k p l e R s m args below meth c E A H locs cells slots Z lsR F hP hS hl hr
  exact lv_lor F.1 F.2.1 hd kk
theorem WP.lxor {x y : Int64} (hd : decode mt.2.1 pc = .ok (.lxor, 1)) (k : WP sc d mt (pc + 1) ls (vL (x ^^^ y) :: st) M Q) : WP sc d mt pc ls (vL y :: vL x :: st) M Q := by
  intro p l e R s m args below meth c E A H locs cells slots Z lsR F hP hS hl hr
  have kk := k p l e R s m args below meth c E A H locs cells slots Z lsR F hP hS hl hr
  exact lv_lxor F.1 F.2.1 hd kk
theorem WP.iand {x y z : Int} (hd : decode mt.2.1 pc = .ok (.iand, 1)) (hv : Int32.ofInt x &&& Int32.ofInt y = Int32.ofInt z) (k : WP sc d mt (pc + 1) ls (vI z :: st) M Q) : WP sc d mt pc ls (vI y :: vI x :: st) M Q := by
  intro p l e R s m args below meth c E A H locs cells slots Z lsR F hP hS hl hr
  have kk := k p l e R s m args below meth c E A H locs cells slots Z lsR F hP hS hl hr
  refine lv_iand F.1 F.2.1 hd ?_
  rw [hv]
  exact kk
theorem WP.ior {x y z : Int} (hd : decode mt.2.1 pc = .ok (.ior, 1)) (hv : Int32.ofInt x ||| Int32.ofInt y = Int32.ofInt z) (k : WP sc d mt (pc + 1) ls (vI z :: st) M Q) : WP sc d mt pc ls (vI y :: vI x :: st) M Q := by
  intro p l e R s m args below meth c E A H locs cells slots Z lsR F hP hS hl hr
  have kk := k p l e R s m args below meth c E A H locs cells slots Z lsR F hP hS hl hr
  refine lv_ior F.1 F.2.1 hd ?_
  rw [hv]
  exact kk
theorem WP.ixor {x y z : Int} (hd : decode mt.2.1 pc = .ok (.ixor, 1)) (hv : Int32.ofInt x ^^^ Int32.ofInt y = Int32.ofInt z) (k : WP sc d mt (pc + 1) ls (vI z :: st) M Q) : WP sc d mt pc ls (vI y :: vI x :: st) M Q := by
  intro p l e R s m args below meth c E A H locs cells slots Z lsR F hP hS hl hr
  have kk := k p l e R s m args below meth c E A H locs cells slots Z lsR F hP hS hl hr
  refine lv_ixor F.1 F.2.1 hd ?_
  rw [hv]
  exact kk
theorem WP.ishl {x y z : Int} (hd : decode mt.2.1 pc = .ok (.ishl, 1)) (hv : Int32.ofInt x <<< (Int32.ofInt y &&& 31) = Int32.ofInt z) (k : WP sc d mt (pc + 1) ls (vI z :: st) M Q) : WP sc d mt pc ls (vI y :: vI x :: st) M Q := by
  intro p l e R s m args below meth c E A H locs cells slots Z lsR F hP hS hl hr
  have kk := k p l e R s m args below meth c E A H locs cells slots Z lsR F hP hS hl hr
  refine lv_ishl F.1 F.2.1 hd ?_
  rw [hv]
  exact kk
theorem WP.ishr {x y z : Int} (hd : decode mt.2.1 pc = .ok (.ishr, 1)) (hv : Int32.ofInt x >>> (Int32.ofInt y &&& 31) = Int32.ofInt z) (k : WP sc d mt (pc + 1) ls (vI z :: st) M Q) : WP sc d mt pc ls (vI y :: vI x :: st) M Q := by
  intro p l e R s m args below meth c E A H locs cells slots Z lsR F hP hS hl hr
  have kk := k p l e R s m args below meth c E A H locs cells slots Z lsR F hP hS hl hr
  refine lv_ishr F.1 F.2.1 hd ?_
  rw [hv]
  exact kk
theorem WP.iushr {x y z : Int} (hd : decode mt.2.1 pc = .ok (.iushr, 1)) (hv : ((Int32.ofInt x).toUInt32 >>> ((Int32.ofInt y).toUInt32 &&& Int32.toUInt32 31)).toInt32 = Int32.ofInt z) (k : WP sc d mt (pc + 1) ls (vI z :: st) M Q) : WP sc d mt pc ls (vI y :: vI x :: st) M Q := by
  intro p l e R s m args below meth c E A H locs cells slots Z lsR F hP hS hl hr
  have kk := k p l e R s m args below meth c E A H locs cells slots Z lsR F hP hS hl hr
  exact lv_iushr F.1 F.2.1 hd hv kk
theorem WP.lushr {x z : Int64} {y : Int} (hd : decode mt.2.1 pc = .ok (.lushr, 1)) (hv : (x.toUInt64 >>> ((Int32.ofInt y).toInt64.toUInt64 &&& Int64.toUInt64 63)).toInt64 = z) (k : WP sc d mt (pc + 1) ls (vL z :: st) M Q) : WP sc d mt pc ls (vI y :: vL x :: st) M Q := by
  intro p l e R s m args below meth c E A H locs cells slots Z lsR F hP hS hl hr
  have kk := k p l e R s m args below meth c E A H locs cells slots Z lsR F hP hS hl hr
  exact lv_lushr F.1 F.2.1 hd hv kk
theorem WP.lshl {x z : Int64} {y : Int} (hd : decode mt.2.1 pc = .ok (.lshl, 1)) (hv : x <<< ((Int32.ofInt y).toInt64 &&& 63) = z) (k : WP sc d mt (pc + 1) ls (vL z :: st) M Q) : WP sc d mt pc ls (vI y :: vL x :: st) M Q := by
  intro p l e R s m args below meth c E A H locs cells slots Z lsR F hP hS hl hr
  have kk := k p l e R s m args below meth c E A H locs cells slots Z lsR F hP hS hl hr
  exact lv_lshl F.1 F.2.1 hd hv kk
theorem WP.lshr {x z : Int64} {y : Int} (hd : decode mt.2.1 pc = .ok (.lshr, 1)) (hv : x >>> ((Int32.ofInt y).toInt64 &&& 63) = z) (k : WP sc d mt (pc + 1) ls (vL z :: st) M Q) : WP sc d mt pc ls (vI y :: vL x :: st) M Q := by
  intro p l e R s m args below meth c E A H locs cells slots Z lsR F hP hS hl hr
  have kk := k p l e R s m args below meth c E A H locs cells slots Z lsR F hP hS hl hr
  exact lv_lshr F.1 F.2.1 hd hv kk
theorem WP.i2l {x : Int} {z : Int64} (hd : decode mt.2.1 pc = .ok (.i2l, 1)) (hv : (Int32.ofInt x).toInt64 = z) (k : WP sc d mt (pc + 1) ls (vL z :: st) M Q) : WP sc d mt pc ls (vI x :: st) M Q := by
  intro p l e R s m args below meth c E A H locs cells slots Z lsR F hP hS hl hr
  have kk := k p l e R s m args below meth c E A H locs cells slots Z lsR F hP hS hl hr
  exact lv_i2l F.1 F.2.1 hd hv kk
theorem WP.l2i {x : Int64} {z : Int} (hd : decode mt.2.1 pc = .ok (.l2i, 1)) (hv : x.toInt32 = Int32.ofInt z) (k : WP sc d mt (pc + 1) ls (vI z :: st) M Q) : WP sc d mt pc ls (vL x :: st) M Q := by
  intro p l e R s m args below meth c E A H locs cells slots Z lsR F hP hS hl hr
  have kk := k p l e R s m args below meth c E A H locs cells slots Z lsR F hP hS hl hr
  exact lv_l2i F.1 F.2.1 hd hv kk
def lcI (x y : Int64) : Int := if x > y then 1 else if x = y then 0 else -1
theorem lcI_cmp (x y : Int64) : Int32.ofInt (lcI x y) = lg_cmp x y := by
  unfold lcI lg_cmp
  split
  · rfl
  · split <;> rfl
theorem WP.lcmp {x y : Int64} (hd : decode mt.2.1 pc = .ok (.lcmp, 1)) (k : WP sc d mt (pc + 1) ls (vI (lcI x y) :: st) M Q) : WP sc d mt pc ls (vL y :: vL x :: st) M Q := by
  intro p l e R s m args below meth c E A H locs cells slots Z lsR F hP hS hl hr
  have kk := k p l e R s m args below meth c E A H locs cells slots Z lsR F hP hS hl hr
  refine W.lcmp F.1 F.2.1 hd ?_
  rw [← lcI_cmp]
  exact kk
theorem oi_div {x y : Int} (hx : 0 ≤ x ∧ x < 2147483648) (hy : 0 < y ∧ y < 2147483648) : Int32.ofInt x / Int32.ofInt y = Int32.ofInt (x / y) := by
  obtain ⟨a, rfl⟩ : ∃ a : Nat, x = a := ⟨x.toNat, by omega⟩
  obtain ⟨b, rfl⟩ : ∃ b : Nat, y = b := ⟨y.toNat, by omega⟩
  rw [← Int.natCast_ediv, oi_n, oi_n, oi_n]
  exact pk_div (by omega) (by omega) (by omega)
theorem oi_rem {x y : Int} (hx : 0 ≤ x ∧ x < 2147483648) (hy : 0 < y ∧ y < 2147483648) : Int32.ofInt x - Int32.ofInt x / Int32.ofInt y * Int32.ofInt y = Int32.ofInt (x % y) := by
  obtain ⟨a, rfl⟩ : ∃ a : Nat, x = a := ⟨x.toNat, by omega⟩
  obtain ⟨b, rfl⟩ : ∃ b : Nat, y = b := ⟨y.toNat, by omega⟩
  rw [← Int.natCast_emod, oi_n, oi_n, oi_n]
  exact pk_rem (by omega) (by omega) (by omega)
theorem oi_ne0 {y : Int} (hy : 0 < y ∧ y < 2147483648) : ¬ Int32.ofInt y = 0 := by
  intro h
  have := (oi_eq (x := y) (y := 0) (by omega) (by omega)).mp h
  omega
theorem WP.idiv {x y : Int} (hd : decode mt.2.1 pc = .ok (.idiv, 1)) (hx : 0 ≤ x ∧ x < 2147483648) (hy : 0 < y ∧ y < 2147483648) (k : WP sc d mt (pc + 1) ls (vI (x / y) :: st) M Q) : WP sc d mt pc ls (vI y :: vI x :: st) M Q := by
  intro p l e R s m args below meth c E A H locs cells slots Z lsR F hP hS hl hr
  have kk := k p l e R s m args below meth c E A H locs cells slots Z lsR F hP hS hl hr
  refine lv_idiv F.1 F.2.1 hd (oi_ne0 hy) ?_
  rw [oi_div hx hy]
  exact kk
theorem WP.irem {x y : Int} (hd : decode mt.2.1 pc = .ok (.irem, 1)) (hx : 0 ≤ x ∧ x < 2147483648) (hy : 0 < y ∧ y < 2147483648) (k : WP sc d mt (pc + 1) ls (vI (x % y) :: st) M Q) : WP sc d mt pc ls (vI y :: vI x :: st) M Q := by
  intro p l e R s m args below meth c E A H locs cells slots Z lsR F hP hS hl hr
  have kk := k p l e R s m args below meth c E A H locs cells slots Z lsR F hP hS hl hr
  refine lv_irem F.1 F.2.1 hd (oi_ne0 hy) ?_
  rw [oi_rem hx hy]
  exact kk
theorem WP.pop {v : V} (hd : decode mt.2.1 pc = .ok (.pop, 1)) (hc : cat v = 1) (k : WP sc d mt (pc + 1) ls (st) M Q) : WP sc d mt pc ls (v :: st) M Q := by
  intro p l e R s m args below meth c E A H locs cells slots Z lsR F hP hS hl hr
  have kk := k p l e R s m args below meth c E A H locs cells slots Z lsR F hP hS hl hr
  exact lv_pop F.1 F.2.1 hd (by rw [cat_rl]; exact hc) kk
theorem WP.dup {v : V} (hd : decode mt.2.1 pc = .ok (.dup, 1)) (hc : cat v = 1) (k : WP sc d mt (pc + 1) ls (v :: v :: st) M Q) : WP sc d mt pc ls (v :: st) M Q := by
  intro p l e R s m args below meth c E A H locs cells slots Z lsR F hP hS hl hr
  have kk := k p l e R s m args below meth c E A H locs cells slots Z lsR F hP hS hl hr
  exact lv_dup F.1 F.2.1 hd (by rw [cat_rl]; exact hc) kk
theorem WP.dup2 {v w : V} (hd : decode mt.2.1 pc = .ok (.dup2, 1)) (hc : cat v = 1) (hc2 : cat w = 1) (k : WP sc d mt (pc + 1) ls (v :: w :: v :: w :: st) M Q) : WP sc d mt pc ls (v :: w :: st) M Q := by
  intro p l e R s m args below meth c E A H locs cells slots Z lsR F hP hS hl hr
  have kk := k p l e R s m args below meth c E A H locs cells slots Z lsR F hP hS hl hr
  exact lv_dup2_11 F.1 F.2.1 hd (by rw [cat_rl]; exact hc) (by rw [cat_rl]; exact hc2) kk
theorem WP.goto {off : Int} {tgt : Nat} (hd : decode mt.2.1 pc = .ok (.goto off, 3)) (ht : (pc : Int) + off = (tgt : Int)) (k : WP sc d mt tgt ls st M Q) : WP sc d mt pc ls st M Q := by
  intro p l e R s m args below meth c E A H locs cells slots Z lsR F hP hS hl hr
  exact lv_goto F.1 F.2.1 hd ht (k p l e R s m args below meth c E A H locs cells slots Z lsR F hP hS hl hr)
theorem WP.icmp_eq {x y off : Int} {tgt : Nat} (hd : decode mt.2.1 pc = .ok (.if_icmp .eq off, 3)) (ht : (pc : Int) + off = (tgt : Int)) (hx : -2147483648 ≤ x ∧ x < 2147483648) (hy : -2147483648 ≤ y ∧ y < 2147483648) (kt : x = y → WP sc d mt tgt ls st M Q) (kf : x ≠ y → WP sc d mt (pc + 3) ls st M Q) : WP sc d mt pc ls (vI y :: vI x :: st) M Q := by
  intro p l e R s m args below meth c E A H locs cells slots Z lsR F hP hS hl hr
  exact lv_icmp_eq F.1 F.2.1 hd ht (fun h9 => kt ((oi_eq hx hy).mp h9) p l e R s m args below meth c E A H locs cells slots Z lsR F hP hS hl hr) (fun h9 => kf (fun z => h9 ((oi_eq hx hy).mpr z)) p l e R s m args below meth c E A H locs cells slots Z lsR F hP hS hl hr)
theorem WP.if_eq {x off : Int} {tgt : Nat} (hd : decode mt.2.1 pc = .ok (.ifCond .eq off, 3)) (ht : (pc : Int) + off = (tgt : Int)) (hx : -2147483648 ≤ x ∧ x < 2147483648) (kt : x = 0 → WP sc d mt tgt ls st M Q) (kf : x ≠ 0 → WP sc d mt (pc + 3) ls st M Q) : WP sc d mt pc ls (vI x :: st) M Q := by
  intro p l e R s m args below meth c E A H locs cells slots Z lsR F hP hS hl hr
  have oi_z : -2147483648 ≤ (0 : Int) ∧ (0 : Int) < 2147483648 := by omega
  exact lv_if_eq F.1 F.2.1 hd ht (fun h9 => kt ((oi_eq hx oi_z).mp h9) p l e R s m args below meth c E A H locs cells slots Z lsR F hP hS hl hr) (fun h9 => kf (fun z => h9 ((oi_eq hx oi_z).mpr z)) p l e R s m args below meth c E A H locs cells slots Z lsR F hP hS hl hr)
theorem WP.icmp_ne {x y off : Int} {tgt : Nat} (hd : decode mt.2.1 pc = .ok (.if_icmp .ne off, 3)) (ht : (pc : Int) + off = (tgt : Int)) (hx : -2147483648 ≤ x ∧ x < 2147483648) (hy : -2147483648 ≤ y ∧ y < 2147483648) (kt : x ≠ y → WP sc d mt tgt ls st M Q) (kf : x = y → WP sc d mt (pc + 3) ls st M Q) : WP sc d mt pc ls (vI y :: vI x :: st) M Q := by
  intro p l e R s m args below meth c E A H locs cells slots Z lsR F hP hS hl hr
  exact lv_icmp_ne F.1 F.2.1 hd ht (fun h9 => kt (fun z => h9 ((oi_eq hx hy).mpr z)) p l e R s m args below meth c E A H locs cells slots Z lsR F hP hS hl hr) (fun h9 => kf ((oi_eq hx hy).mp h9) p l e R s m args below meth c E A H locs cells slots Z lsR F hP hS hl hr)
theorem WP.if_ne {x off : Int} {tgt : Nat} (hd : decode mt.2.1 pc = .ok (.ifCond .ne off, 3)) (ht : (pc : Int) + off = (tgt : Int)) (hx : -2147483648 ≤ x ∧ x < 2147483648) (kt : x ≠ 0 → WP sc d mt tgt ls st M Q) (kf : x = 0 → WP sc d mt (pc + 3) ls st M Q) : WP sc d mt pc ls (vI x :: st) M Q := by
  intro p l e R s m args below meth c E A H locs cells slots Z lsR F hP hS hl hr
  have oi_z : -2147483648 ≤ (0 : Int) ∧ (0 : Int) < 2147483648 := by omega
  exact lv_if_ne F.1 F.2.1 hd ht (fun h9 => kt (fun z => h9 ((oi_eq hx oi_z).mpr z)) p l e R s m args below meth c E A H locs cells slots Z lsR F hP hS hl hr) (fun h9 => kf ((oi_eq hx oi_z).mp h9) p l e R s m args below meth c E A H locs cells slots Z lsR F hP hS hl hr)
theorem WP.icmp_lt {x y off : Int} {tgt : Nat} (hd : decode mt.2.1 pc = .ok (.if_icmp .lt off, 3)) (ht : (pc : Int) + off = (tgt : Int)) (hx : -2147483648 ≤ x ∧ x < 2147483648) (hy : -2147483648 ≤ y ∧ y < 2147483648) (kt : x < y → WP sc d mt tgt ls st M Q) (kf : y ≤ x → WP sc d mt (pc + 3) ls st M Q) : WP sc d mt pc ls (vI y :: vI x :: st) M Q := by
  intro p l e R s m args below meth c E A H locs cells slots Z lsR F hP hS hl hr
  exact lv_icmp_lt F.1 F.2.1 hd ht (fun h9 => kt ((oi_lt hx hy).mp h9) p l e R s m args below meth c E A H locs cells slots Z lsR F hP hS hl hr) (fun h9 => kf (Int.not_lt.mp (fun z => h9 ((oi_lt hx hy).mpr z))) p l e R s m args below meth c E A H locs cells slots Z lsR F hP hS hl hr)
theorem WP.if_lt {x off : Int} {tgt : Nat} (hd : decode mt.2.1 pc = .ok (.ifCond .lt off, 3)) (ht : (pc : Int) + off = (tgt : Int)) (hx : -2147483648 ≤ x ∧ x < 2147483648) (kt : x < 0 → WP sc d mt tgt ls st M Q) (kf : 0 ≤ x → WP sc d mt (pc + 3) ls st M Q) : WP sc d mt pc ls (vI x :: st) M Q := by
  intro p l e R s m args below meth c E A H locs cells slots Z lsR F hP hS hl hr
  have oi_z : -2147483648 ≤ (0 : Int) ∧ (0 : Int) < 2147483648 := by omega
  exact lv_if_lt F.1 F.2.1 hd ht (fun h9 => kt ((oi_lt hx oi_z).mp h9) p l e R s m args below meth c E A H locs cells slots Z lsR F hP hS hl hr) (fun h9 => kf (Int.not_lt.mp (fun z => h9 ((oi_lt hx oi_z).mpr z))) p l e R s m args below meth c E A H locs cells slots Z lsR F hP hS hl hr)
theorem WP.icmp_ge {x y off : Int} {tgt : Nat} (hd : decode mt.2.1 pc = .ok (.if_icmp .ge off, 3)) (ht : (pc : Int) + off = (tgt : Int)) (hx : -2147483648 ≤ x ∧ x < 2147483648) (hy : -2147483648 ≤ y ∧ y < 2147483648) (kt : y ≤ x → WP sc d mt tgt ls st M Q) (kf : x < y → WP sc d mt (pc + 3) ls st M Q) : WP sc d mt pc ls (vI y :: vI x :: st) M Q := by
  intro p l e R s m args below meth c E A H locs cells slots Z lsR F hP hS hl hr
  exact lv_icmp_ge F.1 F.2.1 hd ht (fun h9 => kt ((oi_le hy hx).mp h9) p l e R s m args below meth c E A H locs cells slots Z lsR F hP hS hl hr) (fun h9 => kf (Int.not_le.mp (fun z => h9 ((oi_le hy hx).mpr z))) p l e R s m args below meth c E A H locs cells slots Z lsR F hP hS hl hr)
theorem WP.if_ge {x off : Int} {tgt : Nat} (hd : decode mt.2.1 pc = .ok (.ifCond .ge off, 3)) (ht : (pc : Int) + off = (tgt : Int)) (hx : -2147483648 ≤ x ∧ x < 2147483648) (kt : 0 ≤ x → WP sc d mt tgt ls st M Q) (kf : x < 0 → WP sc d mt (pc + 3) ls st M Q) : WP sc d mt pc ls (vI x :: st) M Q := by
  intro p l e R s m args below meth c E A H locs cells slots Z lsR F hP hS hl hr
  have oi_z : -2147483648 ≤ (0 : Int) ∧ (0 : Int) < 2147483648 := by omega
  exact lv_if_ge F.1 F.2.1 hd ht (fun h9 => kt ((oi_le oi_z hx).mp h9) p l e R s m args below meth c E A H locs cells slots Z lsR F hP hS hl hr) (fun h9 => kf (Int.not_le.mp (fun z => h9 ((oi_le oi_z hx).mpr z))) p l e R s m args below meth c E A H locs cells slots Z lsR F hP hS hl hr)
theorem WP.icmp_gt {x y off : Int} {tgt : Nat} (hd : decode mt.2.1 pc = .ok (.if_icmp .gt off, 3)) (ht : (pc : Int) + off = (tgt : Int)) (hx : -2147483648 ≤ x ∧ x < 2147483648) (hy : -2147483648 ≤ y ∧ y < 2147483648) (kt : y < x → WP sc d mt tgt ls st M Q) (kf : x ≤ y → WP sc d mt (pc + 3) ls st M Q) : WP sc d mt pc ls (vI y :: vI x :: st) M Q := by
  intro p l e R s m args below meth c E A H locs cells slots Z lsR F hP hS hl hr
  exact lv_icmp_gt F.1 F.2.1 hd ht (fun h9 => kt ((oi_lt hy hx).mp h9) p l e R s m args below meth c E A H locs cells slots Z lsR F hP hS hl hr) (fun h9 => kf (Int.not_lt.mp (fun z => h9 ((oi_lt hy hx).mpr z))) p l e R s m args below meth c E A H locs cells slots Z lsR F hP hS hl hr)
theorem WP.if_gt {x off : Int} {tgt : Nat} (hd : decode mt.2.1 pc = .ok (.ifCond .gt off, 3)) (ht : (pc : Int) + off = (tgt : Int)) (hx : -2147483648 ≤ x ∧ x < 2147483648) (kt : 0 < x → WP sc d mt tgt ls st M Q) (kf : x ≤ 0 → WP sc d mt (pc + 3) ls st M Q) : WP sc d mt pc ls (vI x :: st) M Q := by
  intro p l e R s m args below meth c E A H locs cells slots Z lsR F hP hS hl hr
  have oi_z : -2147483648 ≤ (0 : Int) ∧ (0 : Int) < 2147483648 := by omega
  exact lv_if_gt F.1 F.2.1 hd ht (fun h9 => kt ((oi_lt oi_z hx).mp h9) p l e R s m args below meth c E A H locs cells slots Z lsR F hP hS hl hr) (fun h9 => kf (Int.not_lt.mp (fun z => h9 ((oi_lt oi_z hx).mpr z))) p l e R s m args below meth c E A H locs cells slots Z lsR F hP hS hl hr)
theorem WP.icmp_le {x y off : Int} {tgt : Nat} (hd : decode mt.2.1 pc = .ok (.if_icmp .le off, 3)) (ht : (pc : Int) + off = (tgt : Int)) (hx : -2147483648 ≤ x ∧ x < 2147483648) (hy : -2147483648 ≤ y ∧ y < 2147483648) (kt : x ≤ y → WP sc d mt tgt ls st M Q) (kf : y < x → WP sc d mt (pc + 3) ls st M Q) : WP sc d mt pc ls (vI y :: vI x :: st) M Q := by
  intro p l e R s m args below meth c E A H locs cells slots Z lsR F hP hS hl hr
  exact lv_icmp_le F.1 F.2.1 hd ht (fun h9 => kt ((oi_le hx hy).mp h9) p l e R s m args below meth c E A H locs cells slots Z lsR F hP hS hl hr) (fun h9 => kf (Int.not_le.mp (fun z => h9 ((oi_le hx hy).mpr z))) p l e R s m args below meth c E A H locs cells slots Z lsR F hP hS hl hr)
theorem WP.if_le {x off : Int} {tgt : Nat} (hd : decode mt.2.1 pc = .ok (.ifCond .le off, 3)) (ht : (pc : Int) + off = (tgt : Int)) (hx : -2147483648 ≤ x ∧ x < 2147483648) (kt : x ≤ 0 → WP sc d mt tgt ls st M Q) (kf : 0 < x → WP sc d mt (pc + 3) ls st M Q) : WP sc d mt pc ls (vI x :: st) M Q := by
  intro p l e R s m args below meth c E A H locs cells slots Z lsR F hP hS hl hr
  have oi_z : -2147483648 ≤ (0 : Int) ∧ (0 : Int) < 2147483648 := by omega
  exact lv_if_le F.1 F.2.1 hd ht (fun h9 => kt ((oi_le hx oi_z).mp h9) p l e R s m args below meth c E A H locs cells slots Z lsR F hP hS hl hr) (fun h9 => kf (Int.not_le.mp (fun z => h9 ((oi_le hx oi_z).mpr z))) p l e R s m args below meth c E A H locs cells slots Z lsR F hP hS hl hr)
theorem WP.tabIn {x dflt lo hi off : Int} {offs : Array Int} {len tgt : Nat} (hd : decode mt.2.1 pc = .ok (.tableswitch dflt lo hi offs, len)) (hx : -2147483648 ≤ x ∧ x < 2147483648) (h1 : lo ≤ x) (h2 : x ≤ hi) (ho : offs[(x - lo).toNat]? = some off) (ht : (pc : Int) + off = (tgt : Int)) (k : WP sc d mt tgt ls st M Q) : WP sc d mt pc ls (vI x :: st) M Q := by
  intro p l e R s m args below meth c E A H locs cells slots Z lsR F hP hS hl hr
  have hi := oi_t hx
  exact lv_tableIn (x := Int32.ofInt x) F.1 F.2.1 hd (by rw [hi]; omega) (by rw [hi]; omega) (by rw [hi]; exact ho) ht (k p l e R s m args below meth c E A H locs cells slots Z lsR F hP hS hl hr)
theorem WP.tabOut {x dflt lo hi : Int} {offs : Array Int} {len tgt : Nat} (hd : decode mt.2.1 pc = .ok (.tableswitch dflt lo hi offs, len)) (hx : -2147483648 ≤ x ∧ x < 2147483648) (h : x < lo ∨ hi < x) (ht : (pc : Int) + dflt = (tgt : Int)) (k : WP sc d mt tgt ls st M Q) : WP sc d mt pc ls (vI x :: st) M Q := by
  intro p l e R s m args below meth c E A H locs cells slots Z lsR F hP hS hl hr
  have hi := oi_t hx
  exact lv_tableOut (x := Int32.ofInt x) F.1 F.2.1 hd (by rw [hi]; exact h) ht (k p l e R s m args below meth c E A H locs cells slots Z lsR F hP hS hl hr)
/-! fields -/
def ftyOk (c : Nat) (ty : FieldType) (fin : Bool) : Prop := (c = 0 → ty = .int ∧ fin = false) ∧ (c = 1 → ty = .boolean ∧ fin = false) ∧ (c = 3 → (∃ C, ty = .object C) ∧ fin = false)
def FL (own : String) (index ci j : Nat) : Prop := ∃ (C : String) (T : u_T) (N : Nat), cl9[ci]? = some (C, T, N) ∧ ci < 10 ∧ N = nf ci ∧ j < N ∧ (∀ w ∈ u_ws C T N, w ∈ tbG) ∧ Cond.fieldLink own index C (T j).2.1 (T j).2.2.1 ∈ tbG ∧ (T j).1 = C ∧
  ∃ ty : Nat → FieldType, (∀ k, k < N → parseFieldDescriptor (T k).2.2.1 = some (ty k)) ∧ (∀ a, a < N → ∀ b, b < N → a ≠ b → (T a).2.1 ≠ (T b).2.1) ∧ ftyOk (ftp ci j) (ty j) (T j).2.2.2
theorem cel_obj {E : EN} {id ci n : Nat} {row : Nat → Int} (hs : shp id = (ci, n)) (hc : ci < 10) : cel E id row = .inr (ci, (List.range (nf ci)).map (fun j => fval E ci id j (row j))) := by
  have h1 : (shp id).1 = ci := by rw [hs]
  unfold cel
  rw [h1]
  match ci, hc with
  | 0, _ => rfl
  | 1, _ => rfl
  | 2, _ => rfl
  | 3, _ => rfl
  | 4, _ => rfl
  | 5, _ => rfl
  | 6, _ => rfl
  | 7, _ => rfl
  | 8, _ => rfl
  | 9, _ => rfl
  | n + 10, h => omega
theorem cel_fs {E : EN} {id ci j : Nat} {row : Nat → Int} (hj : j < nf ci) : ((List.range (nf ci)).map (fun j => fval E ci id j (row j)))[j]? = some (fval E ci id j (row j)) := by
  simp [List.getElem?_map, List.getElem?_range hj]
theorem cel_set {E : EN} {id ci j : Nat} {row : Nat → Int} {x : Int} (hj : j < nf ci) : ((List.range (nf ci)).map (fun j => fval E ci id j (row j))).set j (fval E ci id j x) = (List.range (nf ci)).map (fun k => fval E ci id k (if k = j then x else row k)) := by
  apply List.ext_getElem?
  intro k
  by_cases hk : k = j
  · subst hk
    rw [List.getElem?_set_self (by simpa using hj)]
    simp [List.getElem?_map, List.getElem?_range hj]
  · rw [List.getElem?_set_ne (Ne.symm hk)]
    by_cases h9 : k < nf ci
    · simp [List.getElem?_map, List.getElem?_range h9, hk]
    · rw [List.getElem?_eq_none (by simpa using h9), List.getElem?_eq_none (by simpa using h9)]
theorem WP.getV {index ci j id n : Nat} {v : V} (hd : decode mt.2.1 pc = .ok (.getfield index, 3)) (hf : FL mt.1.cls index ci j) (hs : shp id = (ci, n)) (hv : ∀ E, fval E ci id j (M id j) = rl E v) (k : WP sc d mt (pc + 3) ls (v :: st) M Q) : WP sc d mt pc ls (vR id :: st) M Q := by
  intro p l e R s m args below meth c E A H locs cells slots Z lsR F hP hS hl hr
  have kk := k p l e R s m args below meth c E A H locs cells slots Z lsR F hP hS hl hr
  obtain ⟨C, T, N, hc, hci, hN, hj, hin, hlink, hown, -⟩ := hf
  subst hN
  have hid : id < 334 := shp_lt hs (by omega)
  exact va_get (D := E.1) (ci := ci) F.1 F.2.1 F.2.2.2.2.1 hin F.2.2.2.1 F.2.2.2.2.2.1 hP id ((wld_get E M hid).trans (by rw [cel_obj hs hci])) hc j hj (F.2.2.2.2.1 _ hlink) (fun _ h9 => by rw [hown] at h9; exact h9) (v := rl E v) (by rw [cel_fs hj, hv]) hd kk
/-- an int or a boolean field -/
theorem WP.getI {index ci j id n : Nat} {x : Int} (hd : decode mt.2.1 pc = .ok (.getfield index, 3)) (hf : FL mt.1.cls index ci j) (hs : shp id = (ci, n)) (ht : ftp ci j < 2) (hM : M id j = x) (k : WP sc d mt (pc + 3) ls (vI x :: st) M Q) : WP sc d mt pc ls (vR id :: st) M Q :=
  WP.getV hd hf hs (fun E => by unfold fval; rw [if_neg (by omega), if_neg (by omega), hM]; rfl) k
/-- a reference that stays -/
theorem WP.getR {index ci j id n y : Nat} (hd : decode mt.2.1 pc = .ok (.getfield index, 3)) (hf : FL mt.1.cls index ci j) (hs : shp id = (ci, n)) (ht : ftp ci j = 2) (hy : srf id j = y) (k : WP sc d mt (pc + 3) ls (vR y :: st) M Q) : WP sc d mt pc ls (vR id :: st) M Q :=
  WP.getV hd hf hs (fun E => by unfold fval; rw [if_pos ht, hy]; rfl) k
/-- a reference that changes -/
theorem WP.getM {index ci j id n y : Nat} (hd : decode mt.2.1 pc = .ok (.getfield index, 3)) (hf : FL mt.1.cls index ci j) (hs : shp id = (ci, n)) (ht : ftp ci j = 3) (hM : M id j = (y : Int)) (hrl : rel id y = y) (k : WP sc d mt (pc + 3) ls (vR y :: st) M Q) : WP sc d mt pc ls (vR id :: st) M Q :=
  WP.getV hd hf hs (fun E => by unfold fval; rw [if_neg (by omega), if_pos ht, hM, Int.toNat_natCast, hrl]; rfl) k
theorem WP.putV {index ci j id n : Nat} {x : Int} {v : V} {M' : Mem} (hd : decode mt.2.1 pc = .ok (.putfield index, 3)) (hf : FL mt.1.cls index ci j) (hs : shp id = (ci, n)) (ht : ftp ci j ≠ 2) (hv : ∀ E, fval E ci id j x = rl E v) (hty : ∀ E (ty : FieldType) (fin : Bool), ftyOk (ftp ci j) ty fin → narrow ty (rl E v) = rl E v ∧ fits ty (rl E v) = true ∧ fin = false) (hM : mset M id j x = M') (k : WP sc d mt (pc + 3) ls st M' Q) : WP sc d mt pc ls (v :: vR id :: st) M Q := by
  intro p l e R s m args below meth c E A H locs cells slots Z lsR F hP hS hl hr
  subst hM
  obtain ⟨C, T, N, hc, hci, hN, hj, hin, hlink, hown, ty, hty0, hnm, hok⟩ := hf
  subst hN
  have hid : id < 334 := shp_lt hs (by omega)
  obtain ⟨t1, t2, t3⟩ := hty E _ _ hok
  have hD := wld_D F.2.2.2.2.2.2.1 F.2.2.2.2.2.2.2.1 M
  refine va_put (D := E.1) (ci := ci) F.1 F.2.1 F.2.2.2.2.1 hin ty hty0 hnm F.2.2.2.1 F.2.2.2.2.2.1 hP hD hS id ((wld_get E M hid).trans (by rw [cel_obj hs hci])) hc j hj (F.2.2.2.2.1 _ hlink) (fun _ h9 => by rw [hown] at h9; exact h9) t3 (hty0 j hj) t1 t2 (by simpa using hj) hd (fun H1 locs1 hP1 hD1 hS1 => ?_)
  refine k p l e R s m args below meth c E A H1 locs1 cells slots Z lsR F ?_ hS1 hl hr
  have e1 : (wld E M).set id (E.2.1 id, (.inr (ci, ((List.range (nf ci)).map (fun j => fval E ci id j (M id j))).set j (rl E v)) : va_E)) = wld E (mset M id j x) := by
    rw [← wld_upd (M' := mset M id j x) hid (fun a ha => mset_o a ha), cel_obj hs hci, ← hv, cel_set hj]
    simp [mset]
  rw [← e1]
  exact hP1
theorem WP.putI {index ci j id n : Nat} {x : Int} {M' : Mem} (hd : decode mt.2.1 pc = .ok (.putfield index, 3)) (hf : FL mt.1.cls index ci j) (hs : shp id = (ci, n)) (ht : ftp ci j = 0) (hM : mset M id j x = M') (k : WP sc d mt (pc + 3) ls st M' Q) : WP sc d mt pc ls (vI x :: vR id :: st) M Q :=
  WP.putV hd hf hs (by omega) (fun E => by unfold fval; rw [if_neg (by omega), if_neg (by omega)]; rfl) (fun E ty fin h => by
    obtain ⟨rfl, rfl⟩ := h.1 ht
    exact ⟨rfl, rfl, rfl⟩) hM k
theorem WP.putZ {index ci j id n : Nat} {x : Int} {M' : Mem} (hd : decode mt.2.1 pc = .ok (.putfield index, 3)) (hf : FL mt.1.cls index ci j) (hs : shp id = (ci, n)) (ht : ftp ci j = 1) (hx : x = 0 ∨ x = 1) (hM : mset M id j x = M') (k : WP sc d mt (pc + 3) ls st M' Q) : WP sc d mt pc ls (vI x :: vR id :: st) M Q :=
  WP.putV hd hf hs (by omega) (fun E => by unfold fval; rw [if_neg (by omega), if_neg (by omega)]; rfl) (fun E ty fin h => by
    obtain ⟨rfl, rfl⟩ := h.2.1 ht
    refine ⟨nar_b hx, ?_, rfl⟩
    rcases hx with h | h <;> subst h <;> rfl) hM k
theorem WP.putM {index ci j id n y : Nat} {M' : Mem} (hd : decode mt.2.1 pc = .ok (.putfield index, 3)) (hf : FL mt.1.cls index ci j) (hs : shp id = (ci, n)) (ht : ftp ci j = 3) (hrl : rel id y = y) (hM : mset M id j (y : Int) = M') (k : WP sc d mt (pc + 3) ls st M' Q) : WP sc d mt pc ls (vR y :: vR id :: st) M Q :=
  WP.putV (v := vR y) hd hf hs (by omega) (fun E => by unfold fval; rw [if_neg (by omega), if_pos ht, Int.toNat_natCast, hrl]; rfl) (fun E ty fin h => by
    obtain ⟨⟨C, rfl⟩, rfl⟩ := h.2.2 ht
    exact ⟨rfl, rfl, rfl⟩) hM k
/-! arrays -/
theorem cel_10 {E : EN} {id n : Nat} {row : Nat → Int} (hs : shp id = (10, n)) : cel E id row = .inl (E.2.2 0, n, .inl (fun j => Int32.ofInt (row j))) := by
  unfold cel; rw [hs]; rfl
theorem cel_11 {E : EN} {id n : Nat} {row : Nat → Int} (hs : shp id = (11, n)) : cel E id row = .inl (E.2.2 1, n, .inr (.inl (fun j => Int64.ofInt (row j)))) := by
  unfold cel; rw [hs]; rfl
theorem cel_12 {E : EN} {id n : Nat} {row : Nat → Int} (hs : shp id = (12, n)) : cel E id row = .inl (E.2.2 2, n, .inl (fun j => Int32.ofInt (row j))) := by
  unfold cel; rw [hs]; rfl
theorem cel_13 {E : EN} {id n : Nat} {row : Nat → Int} (hs : shp id = (13, n)) : cel E id row = .inl (E.2.2 3, n, .inr (.inr (.inr (.inr (fun j => some (E.2.1 (srf id j))))))) := by
  unfold cel; rw [hs]; rfl
theorem cel_14 {E : EN} {id n : Nat} {row : Nat → Int} (hs : shp id = (14, n)) : cel E id row = .inl (E.2.2 4, n, .inr (.inr (.inr (.inr (fun j => some (E.2.1 (srf id j))))))) := by
  unfold cel; rw [hs]; rfl
theorem cel_15 {E : EN} {id n : Nat} {row : Nat → Int} (hs : shp id = (15, n)) : cel E id row = .inl (E.2.2 5, n, .inr (.inr (.inr (.inr (fun j => some (E.2.1 (srf id j))))))) := by
  unfold cel; rw [hs]; rfl
theorem WP.iaload {id n y : Nat} {i x : Int} (hd : decode mt.2.1 pc = .ok (.iaload, 1)) (hs : shp id = (10, n)) (hi : i = (y : Int)) (hy : y < n) (hM : M id y = x) (k : WP sc d mt (pc + 1) ls (vI x :: st) M Q) : WP sc d mt pc ls (vI i :: vR id :: st) M Q := by
  intro p l e R s m args below meth c E A H locs cells slots Z lsR F hP hS hl hr
  subst hi; subst hM
  have hn := shp_len hs (by omega)
  refine va_iald F.1 F.2.1 F.2.2.2.2.2.1 hP id 0 ((wld_get E M (shp_lt hs (by omega))).trans (by rw [cel_10 hs])) rfl (oi_in hy hn) hd ?_
  have kk := k p l e R s m args below meth c E A H locs cells slots Z lsR F hP hS hl hr
  rw [oi_cl (by omega)]
  exact kk
theorem WP.laload {id n y : Nat} {i : Int} {x : Int64} (hd : decode mt.2.1 pc = .ok (.laload, 1)) (hs : shp id = (11, n)) (hi : i = (y : Int)) (hy : y < n) (hM : Int64.ofInt (M id y) = x) (k : WP sc d mt (pc + 1) ls (vL x :: st) M Q) : WP sc d mt pc ls (vI i :: vR id :: st) M Q := by
  intro p l e R s m args below meth c E A H locs cells slots Z lsR F hP hS hl hr
  subst hi; subst hM
  have hn := shp_len hs (by omega)
  refine va_lald F.1 F.2.1 F.2.2.2.2.2.1 hP id 1 ((wld_get E M (shp_lt hs (by omega))).trans (by rw [cel_11 hs])) rfl (oi_in hy hn) hd ?_
  have kk := k p l e R s m args below meth c E A H locs cells slots Z lsR F hP hS hl hr
  rw [oi_cl (by omega)]
  exact kk
theorem WP.baload {id n y : Nat} {i x : Int} (hd : decode mt.2.1 pc = .ok (.baload, 1)) (hs : shp id = (12, n)) (hi : i = (y : Int)) (hy : y < n) (hM : M id y = x) (k : WP sc d mt (pc + 1) ls (vI x :: st) M Q) : WP sc d mt pc ls (vI i :: vR id :: st) M Q := by
  intro p l e R s m args below meth c E A H locs cells slots Z lsR F hP hS hl hr
  subst hi; subst hM
  have hn := shp_len hs (by omega)
  refine va_zald F.1 F.2.1 F.2.2.2.2.2.1 hP id 2 ((wld_get E M (shp_lt hs (by omega))).trans (by rw [cel_12 hs])) rfl (oi_in hy hn) hd ?_
  have kk := k p l e R s m args below meth c E A H locs cells slots Z lsR F hP hS hl hr
  rw [oi_cl (by omega)]
  exact kk
theorem WP.aaload {id n y z : Nat} {i : Int} (hd : decode mt.2.1 pc = .ok (.aaload, 1)) (hs : shp id = (13, n)) (hi : i = (y : Int)) (hy : y < n) (hz : srf id y = z) (k : WP sc d mt (pc + 1) ls (vR z :: st) M Q) : WP sc d mt pc ls (vI i :: vR id :: st) M Q := by
  intro p l e R s m args below meth c E A H locs cells slots Z lsR F hP hS hl hr
  subst hi; subst hz
  have hn := shp_len hs (by omega)
  refine va_aldq F.1 F.2.1 F.2.2.2.2.2.1 hP id 3 ((wld_get E M (shp_lt hs (by omega))).trans (by rw [cel_13 hs])) rfl (oi_in hy hn) hd ?_
  have kk := k p l e R s m args below meth c E A H locs cells slots Z lsR F hP hS hl hr
  rw [oi_cl (by omega)]
  exact kk
theorem aldA {p : Program} {l : Launch} {e : Env} {R : Room} {s : State} {m : MethodId} {args : Array Value} {below : List Frame} {meth : Method} {c : Code} {H : Heap} {locs : List Loc} {cells slots : Nat} {Q : State → Prop} {cc : ByteArray} {pc : Nat} {ls : Array Slot} {rest : List Value} {D : va_G} {cl : List vw_C} {a : Nat} {tys : List (ClassId × FieldType)} {ws : va_W} (hexec : p.tables.exec = Jvm.exec) (hb : c.code = cc) (hK : va_K D cl tys s) (hP : va_P D cl ws H) (q0 t0 : Nat) {cA : ClassId} {t : FieldType} {n : Nat} {f : Nat → Option Nat} (ha : ws[q0]? = some (a, .inl (cA, n, .inr (.inr (.inr (.inr f)))))) (ht : tys[t0]? = some (cA, .array t)) {i : Int32} (hin : vp_in i n) (hdg : decode cc pc = .ok (.aaload, 1))
    (kk : W p l e R s m args below meth c H locs cells slots Q (F0 m (pc + 1) ls (va_rf (f i.toNatClampNeg) :: rest))) : W p l e R s m args below meth c H locs cells slots Q (F0 m pc ls (.int i :: .ref a :: rest)) := by
  have hlt : i.toNatClampNeg < n := Nat.not_le.mp fun q => hin (Or.inr q)
  exact W.aald (v := va_rf (f i.toNatClampNeg)) (ty := .array t) hexec hb (hP q0 _ ha) ((hK.2 t0 _ ht).1 n (fun j => va_rf (f j))) rfl (fun q => by cases q) (by show ¬ (i < 0 ∨ (arrV _ _ _).slots.size ≤ _); rw [arrV_size]; exact hin) (by show (arrV _ _ _).slots[_]? = _; rw [arrV_read _ _ hlt]) rfl rfl hdg kk
theorem WP.aaloadL {id n y z : Nat} {i : Int} (hd : decode mt.2.1 pc = .ok (.aaload, 1)) (hs : shp id = (14, n)) (hi : i = (y : Int)) (hy : y < n) (hz : srf id y = z) (k : WP sc d mt (pc + 1) ls (vR z :: st) M Q) : WP sc d mt pc ls (vI i :: vR id :: st) M Q := by
  intro p l e R s m args below meth c E A H locs cells slots Z lsR F hP hS hl hr
  subst hi; subst hz
  have hn := shp_len hs (by omega)
  refine aldA F.1 F.2.1 F.2.2.2.2.2.1 hP id 4 ((wld_get E M (shp_lt hs (by omega))).trans (by rw [cel_14 hs])) rfl (oi_in hy hn) hd ?_
  have kk := k p l e R s m args below meth c E A H locs cells slots Z lsR F hP hS hl hr
  rw [oi_cl (by omega)]
  exact kk
theorem WP.aaloadI {id n y z : Nat} {i : Int} (hd : decode mt.2.1 pc = .ok (.aaload, 1)) (hs : shp id = (15, n)) (hi : i = (y : Int)) (hy : y < n) (hz : srf id y = z) (k : WP sc d mt (pc + 1) ls (vR z :: st) M Q) : WP sc d mt pc ls (vI i :: vR id :: st) M Q := by
  intro p l e R s m args below meth c E A H locs cells slots Z lsR F hP hS hl hr
  subst hi; subst hz
  have hn := shp_len hs (by omega)
  refine aldA F.1 F.2.1 F.2.2.2.2.2.1 hP id 5 ((wld_get E M (shp_lt hs (by omega))).trans (by rw [cel_15 hs])) rfl (oi_in hy hn) hd ?_
  have kk := k p l e R s m args below meth c E A H locs cells slots Z lsR F hP hS hl hr
  rw [oi_cl (by omega)]
  exact kk
theorem wld_ups {E : EN} {M M' : Mem} {id : Nat} {x : va_E} (h : id < 334) (ho : ∀ a, a ≠ id → M' a = M a) (hx : x = cel E id (M' id)) : (wld E M).set id (E.2.1 id, x) = wld E M' := by
  rw [hx]
  exact wld_upd h ho
theorem WP.iastore {id n y : Nat} {i x : Int} {M' : Mem} (hd : decode mt.2.1 pc = .ok (.iastore, 1)) (hs : shp id = (10, n)) (hi : i = (y : Int)) (hy : y < n) (hM : mset M id y x = M') (k : WP sc d mt (pc + 1) ls st M' Q) : WP sc d mt pc ls (vI x :: vI i :: vR id :: st) M Q := by
  intro p l e R s m args below meth c E A H locs cells slots Z lsR F hP hS hl hr
  subst hi; subst hM
  have hn := shp_len hs (by omega)
  have hD := wld_D F.2.2.2.2.2.2.1 F.2.2.2.2.2.2.2.1 M
  refine va_iast F.1 F.2.1 F.2.2.2.2.2.1 hP hD hS id 0 ((wld_get E M (shp_lt hs (by omega))).trans (by rw [cel_10 hs])) rfl (oi_in hy hn) hd (fun H1 locs1 hP1 hD1 hS1 => ?_)
  rw [oi_cl (by omega), wld_ups (M' := mset M id y x) (shp_lt hs (by omega)) (fun a ha => mset_o a ha) (by
    rw [cel_10 hs]
    congr 3
    congr 1
    funext j
    by_cases hj : j = y <;> simp [upd, mset, hj])] at hP1
  exact k p l e R s m args below meth c E A H1 locs1 cells slots Z lsR F hP1 hS1 hl hr
theorem WP.lastore {id n y : Nat} {i : Int} {x : Int64} {M' : Mem} (hd : decode mt.2.1 pc = .ok (.lastore, 1)) (hs : shp id = (11, n)) (hi : i = (y : Int)) (hy : y < n) (hM : mset M id y x.toInt = M') (k : WP sc d mt (pc + 1) ls st M' Q) : WP sc d mt pc ls (vL x :: vI i :: vR id :: st) M Q := by
  intro p l e R s m args below meth c E A H locs cells slots Z lsR F hP hS hl hr
  subst hi; subst hM
  have hn := shp_len hs (by omega)
  have hD := wld_D F.2.2.2.2.2.2.1 F.2.2.2.2.2.2.2.1 M
  refine va_last F.1 F.2.1 F.2.2.2.2.2.1 hP hD hS id 1 ((wld_get E M (shp_lt hs (by omega))).trans (by rw [cel_11 hs])) rfl (oi_in hy hn) hd (fun H1 locs1 hP1 hD1 hS1 => ?_)
  rw [oi_cl (by omega), wld_ups (M' := mset M id y x.toInt) (shp_lt hs (by omega)) (fun a ha => mset_o a ha) (by
    rw [cel_11 hs]
    congr 5
    funext j
    by_cases hj : j = y <;> simp [vp_updL, mset, hj])] at hP1
  exact k p l e R s m args below meth c E A H1 locs1 cells slots Z lsR F hP1 hS1 hl hr
theorem nar_bz {x : Int} (h : x = 0 ∨ x = 1) : vp_nar .boolean (Int32.ofInt x) = Int32.ofInt x := by
  rcases h with h | h <;> subst h <;> decide +kernel
theorem WP.bastore {id n y : Nat} {i x : Int} {M' : Mem} (hd : decode mt.2.1 pc = .ok (.bastore, 1)) (hs : shp id = (12, n)) (hi : i = (y : Int)) (hy : y < n) (hx : x = 0 ∨ x = 1) (hM : mset M id y x = M') (k : WP sc d mt (pc + 1) ls st M' Q) : WP sc d mt pc ls (vI x :: vI i :: vR id :: st) M Q := by
  intro p l e R s m args below meth c E A H locs cells slots Z lsR F hP hS hl hr
  subst hi; subst hM
  have hn := shp_len hs (by omega)
  have hD := wld_D F.2.2.2.2.2.2.1 F.2.2.2.2.2.2.2.1 M
  refine va_zast F.1 F.2.1 F.2.2.2.2.2.1 hP hD hS id 2 ((wld_get E M (shp_lt hs (by omega))).trans (by rw [cel_12 hs])) rfl (oi_in hy hn) hd (fun H1 locs1 hP1 hD1 hS1 => ?_)
  rw [oi_cl (by omega), nar_bz hx, wld_ups (M' := mset M id y x) (shp_lt hs (by omega)) (fun a ha => mset_o a ha) (by
    rw [cel_12 hs]
    congr 3
    congr 1
    funext j
    by_cases hj : j = y <;> simp [upd, mset, hj])] at hP1
  exact k p l e R s m args below meth c E A H1 locs1 cells slots Z lsR F hP1 hS1 hl hr
/-- the law's script: of L ints, where sc is (L + 1, xs) -/
theorem WP.slen {L : Nat} {xs : Nat → Int} (hd : decode mt.2.1 pc = .ok (.arraylength, 1)) (k : WP (L + 1, xs) d mt (pc + 1) ls (vI (L : Int) :: st) M Q) : WP (L + 1, xs) d mt pc ls (vR 334 :: st) M Q := by
  intro p l e R s m args below meth c E A H locs cells slots Z lsR F hP hS hl hr
  rcases F.2.2.2.2.2.2.2.2.2 with h | ⟨h1, h2, h3, h4⟩
  · exact absurd h (Nat.succ_ne_zero L)
  · have h1 : va_X (E.2.1 334) L (fun j => Int32.ofInt (xs j)) s s.heap := h1
    refine va_slen F.1 F.2.1 h1 h2 h3 hS hd ?_
    have kk := k p l e R s m args below meth c E A H locs cells slots Z lsR F hP hS hl hr
    have e9 : Int32.ofInt (L : Int) = Int32.ofNat L := oi_n L
    have kk : W p l e R s m args below meth c H locs cells slots Z (F0 m (pc + 1) lsR (Value.int (Int32.ofInt (L : Int)) :: st.map (rl E))) := kk
    rw [e9] at kk
    exact kk
theorem WP.sld {L y : Nat} {i : Int} {xs : Nat → Int} (hd : decode mt.2.1 pc = .ok (.iaload, 1)) (hi : i = (y : Int)) (hy : y < L) (k : WP (L + 1, xs) d mt (pc + 1) ls (vI (xs y) :: st) M Q) : WP (L + 1, xs) d mt pc ls (vI i :: vR 334 :: st) M Q := by
  intro p l e R s m args below meth c E A H locs cells slots Z lsR F hP hS hl hr
  subst hi
  rcases F.2.2.2.2.2.2.2.2.2 with h | ⟨h1, h2, h3, h4⟩
  · exact absurd h (Nat.succ_ne_zero L)
  · have h4 : L < 2147483648 := h4
    have h1 : va_X (E.2.1 334) L (fun j => Int32.ofInt (xs j)) s s.heap := h1
    refine va_sld F.1 F.2.1 h1 h2 h3 hS (by rw [oi_n]; exact vp_in_nI hy (by omega)) hd ?_
    have kk := k p l e R s m args below meth c E A H locs cells slots Z lsR F hP hS hl hr
    rw [oi_cl (by omega)]
    exact kk
/-! calls -/
theorem callX {p : Program} {l : Launch} {e : Env} {R : Room} {s : State} {m : MethodId} {args : Array Value} {below : List Frame} {meth : Method} {c : Code} {H : Heap} {locs : List Loc} {cells slots : Nat} {Z : State → Prop} {pc : Nat} {ls : Array Slot} {rest st0 : List Value} {a : Array Value} {A0 : Nat → Prop} {H0 : Heap} {E : EN} {Q1 : Option V → Mem → Prop} (hr : va_Run p l e R s m args below meth c H locs cells slots 0 0 (F0 m pc ls st0) rest (QcE E Q1 a) (AE E)) (hS : va_S A0 H0 H locs) (hA : ∀ k : Nat, k < 334 → A0 (E.2.1 k))
    (kk : ∀ (r : Option V) (M' : Mem) (H1 : Heap) (locs1 : List Loc), Q1 r M' → va_P E.1 cl9 (wld E M') H1 → va_S A0 H0 H1 locs1 → W p l e R s m args below meth c H1 locs1 cells slots Z (F0 m (pc + 3) ls ((r.map (rl E)).toList ++ rest))) : W p l e R s m args below meth c H locs cells slots Z (F0 m pc ls st0) := by
  have hAE : ∀ q, AE E q → A0 q := fun q ⟨k, hk, hq⟩ => hq ▸ hA k hk
  intro T hT X
  obtain ⟨v, st₀, t, T', L, h0, X', hL, e1, e2, ⟨⟨r, M', hv, hq, hb⟩, hz, hk⟩, st⟩ := hr T hT X
  cases hv
  rw [h0] at hz hk
  obtain ⟨t2, a1, b1⟩ := kk r M' T'.heap (locs ++ L) hq (by rw [e1]; exact hb)
    ⟨Nat.le_trans hS.1 (by rw [e1]; exact hz), fun q h1 h2 => by rw [e1, hk q (Nat.lt_of_lt_of_le h1 hS.1) (fun z => h2 (hAE q z))]; exact hS.2.1 q h1 h2, fun q hq => by
      rcases List.mem_append.mp hq with h | h
      · exact hS.2.2 q h
      · exact hAE _ (hL q h)⟩ T' rfl X'
  exact ⟨t2, st t2 a1, b1⟩
def MB (own : String) (index : Nat) (mt' : Mth) (n : Nat) : Prop := Cond.methodLink own index mt'.1 ∈ tbG ∧ Cond.initialized mt'.1.cls ∈ tbG ∧ Cond.code mt'.1 mt'.2.1 mt'.2.2.1 mt'.2.2.2 ∈ tbG ∧ (mt'.1.cls ≠ "java/lang/invoke/MethodHandle" ∧ mt'.1.cls ≠ "java/lang/invoke/VarHandle" ∧ (parseMethodDescriptor mt'.1.desc).map (fun d => d.parameters.length) = some n) ∧ mt'.2.2.1 ≤ 45
def MV (own : String) (index : Nat) (mt' : Mth) (n : Nat) : Prop := MB own index mt' n ∧ Cond.instanceMethod mt'.1 ∈ tbG ∧ Cond.selects mt'.1.cls mt'.1 mt'.1 ∈ tbG
def MS (own : String) (index : Nat) (mt' : Mth) (n : Nat) : Prop := MB own index mt' n ∧ Cond.static mt'.1 ∈ tbG
theorem tb_good {w : Cond} (h : w ∈ tbG) : w ∈ tbG ∧ ((w.onTables && w.keeps) = true ∨ ∃ ty, w = .arrayClass ty) := ⟨h, good_of_word (List.mem_filter.mp h).2⟩
theorem wsO_good {mt : Mth} (h : Cond.code mt.1 mt.2.1 mt.2.2.1 mt.2.2.2 ∈ tbG) : GoodIn tbG (wsO mt) := fun w hw => by
  rcases List.mem_cons.mp hw with q | q
  · rw [q]; exact tb_good h
  · exact tb_good q
theorem PcE_blind (E : EN) (as : List V) (M : Mem) : FrameBlind (PcE E as M) := fun a U g mk q => by
  obtain ⟨q1, q2, q3, q4⟩ := q
  exact ⟨q1, va_K.moved (u := U) (U := U.calling g mk a) (Vm.Alike.refl U.vm) q2, q3, va_Nw.same (w := nwW) rfl (u := U) (U := U.calling g mk a) rfl q4⟩
theorem sum_cat (E : EN) (st : List V) : ((st.map (rl E)).map fun v => v.category).sum = (st.map cat).sum := by
  rw [List.map_map]
  congr 1
  apply List.map_congr_left
  intro v _
  exact cat_rl E v
theorem tl_map (E : EN) (r : Option V) (st : List V) : (r.map (rl E)).toList ++ st.map (rl E) = (r.toList ++ st).map (rl E) := by
  cases r <;> rfl
theorem WP.callV {d' index n ci q9 b : Nat} {mt' : Mth} {as st0 : List V} {r9 : vw_C} {Q1 : Option V → Mem → Prop} (hd : decode mt.2.1 pc = .ok (.invokevirtual index, 3)) (hm : MV mt.1.cls index mt' n) (hn : as.length = n) (hs : shp b = (ci, q9)) (hci : ci < 10) (hc : cl9[ci]? = some r9) (hcn : mt'.1.cls = r9.1) (hc1 : CT d' mt' (vR b :: as) M Q1) (hst : st0 = as.reverse ++ vR b :: st) (hcat : (st.map cat).sum ≤ 8) (hdd : d' + 1 ≤ d)
    (k : ∀ r M', Q1 r M' → WP sc d mt (pc + 3) ls (r.toList ++ st) M' Q) : WP sc d mt pc ls st0 M Q := by
  intro p l e R s m args below meth c E A H locs cells slots Z lsR F hP hS hl hr
  subst hst
  obtain ⟨hx, hb, hml, hown, hts, hK, hE, hA, ⟨hR1, hR2, hR3, hR4, hNW⟩, hsc⟩ := id F
  obtain ⟨⟨m1, m2, m3, m4, m5⟩, m6, m7⟩ := hm
  have hid : b < 334 := shp_lt hs (by omega)
  have hG : GoodIn tbG (wsV mt.1.cls index mt'.1.cls mt'.1 (wsO mt')) := fun w hw => by
    rcases List.mem_append.mp hw with q | q
    · simp only [List.mem_cons, List.mem_nil_iff, or_false] at q
      rcases q with q | q | q | q <;> rw [q]
      · exact tb_good m1
      · exact tb_good m6
      · exact tb_good m7
      · exact tb_good m2
    · exact wsO_good m3 w q
  have hW9 : (rmO d').frames + 1 ≤ R.frames ∧ 8 + (mt'.2.2.1 + 11) + (rmO d').locals ≤ R.locals := ⟨by show d' + 1 ≤ _; omega, by show 8 + (_ + 11) + 64 * d' ≤ _; omega⟩
  have hrun := va_runV (e := e) (below := below) (meth := meth) (locs := locs) (g := F0 m pc lsR ((as.reverse ++ vR b :: st).map (rl E))) (As := as.map (rl E)) (rest := st.map (rl E)) ⟨hx, hb, hml, hown, hts⟩ (hc1 l E hE) (cwV (ws' := tbG) n hts hG rfl rfl rfl (rm := rmO d') ⟨rfl, m4.1, m4.2.1, m4.2.2⟩ hW9) ⟨PcE_blind E _ M, by
      rw [hcn]
      exact va_recv hK hP hc ((wld_get E M hid).trans (by rw [cel_obj hs hci])), fun U hU hW => ⟨rfl, va_K.moved hW.alike hK, by rw [hU]; exact hP, va_Nw.warmM hW hNW⟩⟩ rfl (by simpa using hn) (hl.1.trans rfl) (by simp [rl]) (lv_room (by rw [sum_cat]; exact hcat)) hd ⟨by omega, by omega⟩
  refine callX hrun hS hA (fun r M' H1 locs1 hq hP1 hS1 => ?_)
  have kk := k r M' hq p l e R s m args below meth c E A H1 locs1 cells slots Z lsR F hP1 hS1 hl hr
  rw [tl_map]
  exact kk
theorem WP.callS {d' index n : Nat} {mt' : Mth} {as st0 : List V} {Q1 : Option V → Mem → Prop} (hd : decode mt.2.1 pc = .ok (.invokestatic index, 3)) (hm : MS mt.1.cls index mt' n) (hn : as.length = n) (hc1 : CT d' mt' as M Q1) (hst : st0 = as.reverse ++ st) (hcat : (st.map cat).sum ≤ 8) (hdd : d' + 1 ≤ d)
    (k : ∀ r M', Q1 r M' → WP sc d mt (pc + 3) ls (r.toList ++ st) M' Q) : WP sc d mt pc ls st0 M Q := by
  intro p l e R s m args below meth c E A H locs cells slots Z lsR F hP hS hl hr
  subst hst
  obtain ⟨hx, hb, hml, hown, hts, hK, hE, hA, ⟨hR1, hR2, hR3, hR4, hNW⟩, hsc⟩ := id F
  obtain ⟨⟨m1, m2, m3, m4, m5⟩, m6⟩ := hm
  have hG : GoodIn tbG (va_wsS mt.1.cls index mt'.1 (wsO mt')) := fun w hw => by
    rcases List.mem_append.mp hw with q | q
    · simp only [List.mem_cons, List.mem_nil_iff, or_false] at q
      rcases q with q | q | q <;> rw [q]
      · exact tb_good m1
      · exact tb_good m6
      · exact tb_good m2
    · exact wsO_good m3 w q
  have hW9 : (rmO d').frames + 1 ≤ R.frames ∧ 8 + (mt'.2.2.1 + 11) + (rmO d').locals ≤ R.locals := ⟨by show d' + 1 ≤ _; omega, by show 8 + (_ + 11) + 64 * d' ≤ _; omega⟩
  have hrun := va_runS (e := e) (below := below) (meth := meth) (locs := locs) (g := F0 m pc lsR ((as.reverse ++ st).map (rl E))) (As := as.map (rl E)) (rest := st.map (rl E)) ⟨hx, hb, hml, hown, hts⟩ (hc1 l E hE) (va_cwS (ws' := tbG) n hts hG rfl rfl rfl (rm := rmO d') ⟨m4.1, m4.2.1, m4.2.2⟩ hW9) ⟨PcE_blind E _ M, fun U hU hW => ⟨rfl, va_K.moved hW.alike hK, by rw [hU]; exact hP, va_Nw.warmM hW hNW⟩⟩ rfl (by simpa using hn) (hl.1.trans rfl) (by simp [rl]) (lv_room (by rw [sum_cat]; exact hcat)) hd ⟨by omega, by omega⟩
  refine callX hrun hS hA (fun r M' H1 locs1 hq hP1 hS1 => ?_)
  have kk := k r M' hq p l e R s m args below meth c E A H1 locs1 cells slots Z lsR F hP1 hS1 hl hr
  rw [tl_map]
  exact kk
end RULES
