/-! abstract values, memory, shapes -/
abbrev V : Type := Sum Int (Sum Int64 (Option Nat))
abbrev vI (x : Int) : V := .inl x
abbrev vL (x : Int64) : V := .inr (.inl x)
abbrev vR (k : Nat) : V := .inr (.inr (some k))
abbrev vU : V := .inr (.inr none)
abbrev Mem : Type := Nat → Nat → Int
abbrev EN : Type := va_G × (Nat → Nat) × (Nat → ClassId)
def rl (E : EN) (v : V) : Value := match v with
  | .inl x => .int (Int32.ofInt x)
  | .inr (.inl x) => .long x
  | .inr (.inr (some k)) => .ref (E.2.1 k)
  | .inr (.inr none) => .null
abbrev cl9 : List vw_C := [(RX0, TX0, 2), (RX1, TX1, 6), (RX2, TX2, 3), (RX3, TX3, 5), (RX4, TX4, 2), (RX5, TX5, 8), (RX6, TX6, 4), (RX7, TX7, 12)]
def nf (ci : Nat) : Nat := match ci with
  | 0 => 2
  | 1 => 6
  | 2 => 3
  | 3 => 5
  | 4 => 2
  | 5 => 8
  | 6 => 4
  | 7 => 12
  | _ => 16
/-- a field's kind: 0 int, 1 boolean, 2 a reference that stays, 3 a reference that changes -/
def ftp (ci j : Nat) : Nat := match ci with
  | 1 => if j = 1 then 3 else if j = 2 then 0 else 2
  | 2 => if j < 2 then 0 else 2
  | 4 => if j = 0 then 0 else 2
  | 5 => if j = 0 then 3 else 2
  | 6 => if j < 2 then 0 else 2
  | 7 => if j < 8 then 2 else if j = 8 then 0 else if j = 9 then 1 else if j = 10 then 0 else 1
  | 8 => if j = 2 then 0 else if j = 4 then 0 else if j = 6 then 0 else if j = 8 then 0 else if j = 9 then 0 else 2
  | _ => 2
def shpS (k : Nat) : Nat × Nat :=
  if k = 0 then (5, 0) else if k = 1 then (10, 7) else if k < 4 then (10, 28) else if k = 4 then (14, 8) else if k < 13 then (11, 18) else if k = 13 then (14, 8) else if k < 22 then (11, 28) else if k = 22 then (14, 8) else if k < 31 then (11, 7) else (10, 4)
def shpB (k : Nat) : Nat × Nat :=
  if k = 42 then (7, 0) else if k = 43 then (2, 0) else if k = 44 then (13, 8) else if k = 45 then (13, 2) else if k = 46 then (12, 2) else if k = 47 then (4, 0) else if k = 48 then (10, 300) else if k = 49 then (0, 0) else if k < 52 then (10, 36) else if k = 52 then (1, 0) else if k < 55 then (10, 16) else if k = 55 then (15, 42) else if k < 99 then (10, 6) else if k = 99 then (3, 0) else if k = 100 then (10, 7) else if k = 101 then (10, 28) else (10, 7)
def shpO (id : Nat) : Nat × Nat :=
  if id < 42 then (if id % 3 = 0 then (6, 0) else if id % 3 = 1 then (10, 7) else (10, 252))
  else if id < 103 then shpB id
  else if id < 135 then shpS (id - 103)
  else if id < 167 then shpS (id - 135)
  else (99, 0)
/-- a cell's class (below 10) or kind of array, and its length; cells 0 to 166 are one bench's, 167 to 333 the other's -/
def shp (id : Nat) : Nat × Nat :=
  if id < 42 then (if id % 3 = 0 then (6, 0) else if id % 3 = 1 then (10, 7) else (10, 252))
  else if id < 103 then shpB id
  else if id < 135 then shpS (id - 103)
  else if id < 167 then shpS (id - 135)
  else if id < 334 then shpO (id - 167)
  else (99, 0)
/-- the other bench's cell -/
def sw (k : Nat) : Nat := if k < 167 then k + 167 else if k < 334 then k - 167 else k
def srfO (id j : Nat) : Nat :=
  if id < 42 then id + (j - 1)
  else if id = 42 then (if j = 0 then 0 else if j = 1 then 43 else if j = 2 then 45 else if j = 3 then 46 else if j = 4 then 47 else if j = 5 then 49 else if j = 6 then 52 else 99)
  else if id = 43 then 44
  else if id = 44 then 9 + 3 * j
  else if id = 45 then 3 + 3 * j
  else if id = 47 then 48
  else if id = 49 then 50 + j
  else if id = 52 then (if j = 0 then 53 else if j = 3 then 54 else if j = 4 then 55 else 98)
  else if id = 55 then 56 + j
  else if id = 99 then (if j = 0 then 100 else if j = 1 then 101 else if j = 2 then 103 else if j = 3 then 135 else 102)
  else (if (id - 103) % 32 = 0 then (if j < 5 then id + j else if j = 5 then id + 13 else if j = 6 then id + 22 else id + 31) else id + 1 + j)
/-- where the references that stay go -/
def srf (id j : Nat) : Nat :=
  if id < 42 then id + (j - 1)
  else if id = 42 then (if j = 0 then 0 else if j = 1 then 43 else if j = 2 then 45 else if j = 3 then 46 else if j = 4 then 47 else if j = 5 then 49 else if j = 6 then 52 else 99)
  else if id = 43 then 44
  else if id = 44 then 9 + 3 * j
  else if id = 45 then 3 + 3 * j
  else if id = 47 then 48
  else if id = 49 then 50 + j
  else if id = 52 then (if j = 0 then 53 else if j = 3 then 54 else if j = 4 then 55 else 98)
  else if id = 55 then 56 + j
  else if id = 99 then (if j = 0 then 100 else if j = 1 then 101 else if j = 2 then 103 else if j = 3 then 135 else 102)
  else if id < 167 then (if (id - 103) % 32 = 0 then (if j < 5 then id + j else if j = 5 then id + 13 else if j = 6 then id + 22 else id + 31) else id + 1 + j)
  else sw (srfO (id - 167) j)
/-- a reference that changes is told by the place in the bench's own cells -/
def rel (id k : Nat) : Nat := if id < 167 then k else sw k
def fval (E : EN) (ci id j : Nat) (x : Int) : Value := if ftp ci j = 2 then .ref (E.2.1 (srf id j)) else if ftp ci j = 3 then .ref (E.2.1 (rel id x.toNat)) else .int (Int32.ofInt x)
def cel (E : EN) (id : Nat) (row : Nat → Int) : va_E := match (shp id).1 with
  | 10 => .inl (E.2.2 0, (shp id).2, .inl (fun j => Int32.ofInt (row j)))
  | 11 => .inl (E.2.2 1, (shp id).2, .inr (.inl (fun j => Int64.ofInt (row j))))
  | 12 => .inl (E.2.2 2, (shp id).2, .inl (fun j => Int32.ofInt (row j)))
  | 13 => .inl (E.2.2 3, (shp id).2, .inr (.inr (.inr (.inr (fun j => some (E.2.1 (srf id j)))))))
  | 14 => .inl (E.2.2 4, (shp id).2, .inr (.inr (.inr (.inr (fun j => some (E.2.1 (srf id j)))))))
  | 15 => .inl (E.2.2 5, (shp id).2, .inr (.inr (.inr (.inr (fun j => some (E.2.1 (srf id j)))))))
  | ci => .inr (ci, (List.range (nf ci)).map (fun j => fval E ci id j (row j)))
def wld (E : EN) (M : Mem) : va_W := (List.range 334).map (fun k => (E.2.1 k, cel E k (M k)))
def tysE (E : EN) : List (ClassId × FieldType) := [(E.2.2 0, .int), (E.2.2 1, .long), (E.2.2 2, .boolean), (E.2.2 3, .object RX6), (E.2.2 4, .array .long), (E.2.2 5, .array .int)]
theorem wld_get (E : EN) (M : Mem) {id : Nat} (h : id < 334) : (wld E M)[id]? = some (E.2.1 id, cel E id (M id)) := by
  simp [wld, List.getElem?_map, List.getElem?_range h]
theorem shp_lt {id k n : Nat} (h : shp id = (k, n)) (hk : k ≠ 99) : id < 334 := by
  rcases Nat.lt_or_ge id 334 with q | q
  · exact q
  · exfalso
    unfold shp at h
    rw [if_neg (by omega), if_neg (by omega), if_neg (by omega), if_neg (by omega), if_neg (by omega)] at h
    exact hk (congrArg Prod.fst h).symm
theorem shp_dec : ∀ id : Nat, id < 334 → (shp id).2 ≤ 2088 := by decide +kernel
theorem shp_len {id k n : Nat} (h : shp id = (k, n)) (hk : k ≠ 99) : n ≤ 2088 := by
  have := shp_dec id (shp_lt h hk)
  rwa [h] at this
theorem wld_upd {E : EN} {M M' : Mem} {id : Nat} (h : id < 334) (ho : ∀ a, a ≠ id → M' a = M a) : (wld E M).set id (E.2.1 id, cel E id (M' id)) = wld E M' := by
  apply List.ext_getElem?
  intro k
  by_cases hk : k = id
  · subst hk
    rw [List.getElem?_set_self (by simpa [wld] using h), wld_get E M' h]
  · rw [List.getElem?_set_ne (Ne.symm hk)]
    by_cases h9 : k < 334
    · rw [wld_get E M h9, wld_get E M' h9, ho k hk]
    · rw [List.getElem?_eq_none (by simpa [wld] using h9), List.getElem?_eq_none (by simpa [wld] using h9)]
theorem wld_D {E : EN} {A : Nat → Prop} (hi : ∀ i j : Nat, i < 334 → j < 334 → E.2.1 i = E.2.1 j → i = j) (hA : ∀ k : Nat, k < 334 → A (E.2.1 k)) (M : Mem) : va_D A (wld E M) := by
  have key : ∀ (k : Nat) (q : Nat × va_E), (wld E M)[k]? = some q → k < 334 ∧ q.1 = E.2.1 k := by
    intro k q hq
    by_cases h9 : k < 334
    · rw [wld_get E M h9] at hq
      cases hq
      exact ⟨h9, rfl⟩
    · rw [List.getElem?_eq_none (by simpa [wld] using h9)] at hq
      cases hq
  refine ⟨fun i j x y hx hy hxy => ?_, fun k q hq => ?_⟩
  · obtain ⟨a1, a2⟩ := key i x hx
    obtain ⟨b1, b2⟩ := key j y hy
    exact hi i j a1 b1 (by rw [← a2, ← b2]; exact hxy)
  · obtain ⟨a1, a2⟩ := key k q hq
    rw [a2]
    exact hA k a1
def mset (M : Mem) (id i : Nat) (x : Int) : Mem := fun a j => if a = id ∧ j = i then x else M a j
theorem mset_o {M : Mem} {id i : Nat} {x : Int} (a : Nat) (h : a ≠ id) : mset M id i x a = M a := by
  funext j
  simp [mset, h]
theorem mset_s {M : Mem} {id i : Nat} {x : Int} : mset M id i x id i = x := by simp [mset]
theorem mset_n {M : Mem} {id i a j : Nat} {x : Int} (h : a ≠ id ∨ j ≠ i) : mset M id i x a j = M a j := by
  unfold mset
  rw [if_neg]
  rintro ⟨h1, h2⟩
  rcases h with h | h
  · exact h h1
  · exact h h2
/-- System.arraycopy -/
def mcpy (M : Mem) (src sp dst dp n : Nat) : Mem := fun a j => if a = dst ∧ dp ≤ j ∧ j < dp + n then M src (sp + (j - dp)) else M a j
theorem mcpy_o {M : Mem} {src sp dst dp n : Nat} (a : Nat) (h : a ≠ dst) : mcpy M src sp dst dp n a = M a := by
  funext j
  simp [mcpy, h]
theorem oi_t {x : Int} (h : -2147483648 ≤ x ∧ x < 2147483648) : (Int32.ofInt x).toInt = x := Int32.toInt_ofInt_of_le (by omega) (by omega)
theorem oi_n (n : Nat) : Int32.ofInt (n : Int) = nI n := Int32.ofInt_eq_ofNat
theorem oi_eq {x y : Int} (hx : -2147483648 ≤ x ∧ x < 2147483648) (hy : -2147483648 ≤ y ∧ y < 2147483648) : Int32.ofInt x = Int32.ofInt y ↔ x = y := by
  rw [← Int32.toInt_inj, oi_t hx, oi_t hy]
theorem oi_lt {x y : Int} (hx : -2147483648 ≤ x ∧ x < 2147483648) (hy : -2147483648 ≤ y ∧ y < 2147483648) : Int32.ofInt x < Int32.ofInt y ↔ x < y := by
  rw [Int32.lt_iff_toInt_lt, oi_t hx, oi_t hy]
theorem oi_le {x y : Int} (hx : -2147483648 ≤ x ∧ x < 2147483648) (hy : -2147483648 ≤ y ∧ y < 2147483648) : Int32.ofInt x ≤ Int32.ofInt y ↔ x ≤ y := by
  rw [Int32.le_iff_toInt_le, oi_t hx, oi_t hy]
theorem oi_in {k n : Nat} (h : k < n) (hn : n ≤ 2088) : vp_in (Int32.ofInt (k : Int)) n := by
  rw [oi_n]
  exact vp_in_nI h (by omega)
theorem oi_cl {k : Nat} (h : k < 2 ^ 31) : (Int32.ofInt (k : Int)).toNatClampNeg = k := by
  rw [oi_n]
  exact nI_clamp h
/-! locals -/
def cat (v : V) : Nat := match v with
  | .inr (.inl _) => 2
  | _ => 1
theorem cat_rl (E : EN) (v : V) : (rl E v).category = cat v := by
  rcases v with x | x | x
  · rfl
  · rfl
  · cases x <;> rfl
def lsv (E : EN) : Nat → List V → List (Nat × Value)
  | _, [] => []
  | i, v :: t => match v with
    | .inr (.inr none) => lsv E (i + 1) t
    | v => (i, rl E v) :: lsv E (i + 1) t
theorem lsv_in {E : EN} : ∀ (ls : List V) (i k : Nat) (v : V), ls[k]? = some v → v ≠ vU → (i + k, rl E v) ∈ lsv E i ls
  | [], _, _, _, h, _ => by simp at h
  | a :: t, i, 0, v, h, hv => by
    simp only [List.getElem?_cons_zero, Option.some.injEq] at h
    subst h
    rcases a with x | x | x
    · exact List.mem_cons_self
    · exact List.mem_cons_self
    · cases x with
      | none => exact absurd rfl hv
      | some x => exact List.mem_cons_self
  | a :: t, i, k + 1, v, h, hv => by
    simp only [List.getElem?_cons_succ] at h
    have := lsv_in (E := E) t (i + 1) k v h hv
    rw [show i + (k + 1) = i + 1 + k by omega]
    rcases a with x | x | x
    · exact List.mem_cons_of_mem _ this
    · exact List.mem_cons_of_mem _ this
    · cases x with
      | none => exact this
      | some x => exact List.mem_cons_of_mem _ this
theorem lsv_of {E : EN} : ∀ (ls : List V) (i : Nat) (q : Nat × Value), q ∈ lsv E i ls → ∃ (k : Nat) (v : V), ls[k]? = some v ∧ v ≠ vU ∧ q = (i + k, rl E v)
  | [], _, _, h => by cases h
  | a :: t, i, q, h => by
    have key : q ∈ lsv E (i + 1) t → ∃ (k : Nat) (v : V), (a :: t)[k]? = some v ∧ v ≠ vU ∧ q = (i + k, rl E v) := fun h => by
      obtain ⟨k, v, h1, h2, h3⟩ := lsv_of t (i + 1) q h
      exact ⟨k + 1, v, by simpa using h1, h2, by rw [h3, show i + 1 + k = i + (k + 1) by omega]⟩
    rcases a with x | x | x
    · rcases List.mem_cons.mp h with h | h
      · exact ⟨0, _, rfl, (by intro z; cases z), h⟩
      · exact key h
    · rcases List.mem_cons.mp h with h | h
      · exact ⟨0, _, rfl, (by intro z; cases z), h⟩
      · exact key h
    · cases x with
      | none => exact key h
      | some x =>
        rcases List.mem_cons.mp h with h | h
        · exact ⟨0, _, rfl, (by intro z; cases z), h⟩
        · exact key h
theorem lsv_at {E : EN} {lsR : Array Slot} {n : Nat} {ls : List V} (h : lv_has lsR n (lsv E 0 ls)) {k : Nat} {v : V} (hk : ls[k]? = some v) (hv : v ≠ vU) : lsR[k]? = some (.val (rl E v)) := by
  have := h.2.2 _ (lsv_in (E := E) ls 0 k v hk hv)
  rwa [show 0 + k = k by omega] at this
/-- forgets a long that a store cuts -/
def clr (ls : List V) (i : Nat) : List V := match i with
  | 0 => ls
  | i + 1 => match ls[i]? with
    | some (.inr (.inl _)) => ls.set i vU
    | _ => ls
def sto1 (ls : List V) (i : Nat) (v : V) : List V := (clr ls i).set i v
def sto2 (ls : List V) (i : Nat) (v : V) : List V := ((clr ls i).set i v).set (i + 1) vU
theorem clr_get {ls : List V} {i k : Nat} {v : V} (hki : k ≠ i) (h : (clr ls i)[k]? = some v) (hv : v ≠ vU) : ls[k]? = some v ∧ ¬ (k + 1 = i ∧ cat v = 2) := by
  cases i with
  | zero => exact ⟨h, fun q => by omega⟩
  | succ i =>
    unfold clr at h
    by_cases hk : k = i
    · subst hk
      cases hx : ls[k]? with
      | none => simp [hx] at h
      | some x =>
        rcases x with x | x | x
        · simp only [hx] at h
          cases h
          exact ⟨rfl, fun q => by simp [cat] at q⟩
        · exfalso
          simp only [hx] at h
          have hl : k < ls.length := (List.getElem?_eq_some_iff.mp hx).1
          rw [List.getElem?_set_self hl] at h
          cases h
          exact hv rfl
        · simp only [hx] at h
          cases h
          exact ⟨rfl, fun q => by simp [cat] at q⟩
    · refine ⟨?_, fun q => hk (by omega)⟩
      have : ∀ y, (ls.set i y)[k]? = ls[k]? := fun y => List.getElem?_set_ne (Ne.symm hk)
      cases hx : ls[i]? with
      | none => simpa [hx] using h
      | some x =>
        rcases x with x | x | x
        · simpa [hx] using h
        · simp only [hx, this] at h
          exact h
        · simpa [hx] using h
theorem has_sto1 {E : EN} {lsR : Array Slot} {n i : Nat} {ls : List V} {v : V} (h : lv_has lsR n ((i, rl E v) :: (lsv E 0 ls).filter (fun q => !(q.1 == i) && !(q.1 + 1 == i && q.2.category == 2)))) : lv_has lsR n (lsv E 0 (sto1 ls i v)) := by
  refine ⟨h.1, h.2.1, fun q hq => ?_⟩
  obtain ⟨k, w, h1, h2, rfl⟩ := lsv_of _ 0 q hq
  rw [Nat.zero_add]
  by_cases hki : k = i
  · subst hki
    unfold sto1 at h1
    have hl : k < (clr ls k).length := by
      have := (List.getElem?_eq_some_iff.mp h1).1
      simpa using this
    rw [List.getElem?_set_self hl] at h1
    cases h1
    exact h.2.2 _ List.mem_cons_self
  · unfold sto1 at h1
    rw [List.getElem?_set_ne (Ne.symm hki)] at h1
    obtain ⟨g1, g2⟩ := clr_get hki h1 h2
    have hm := lsv_in (E := E) ls 0 k w g1 h2
    rw [Nat.zero_add] at hm
    refine h.2.2 _ (List.mem_cons_of_mem _ (List.mem_filter.mpr ⟨hm, ?_⟩))
    simp only [Bool.and_eq_true, Bool.not_eq_true', beq_eq_false_iff_ne, ne_eq, Bool.and_eq_false_iff, cat_rl]
    refine ⟨hki, ?_⟩
    by_cases e : k + 1 = i
    · exact Or.inr (fun z => g2 ⟨e, z⟩)
    · exact Or.inl e
theorem has_sto2 {E : EN} {lsR : Array Slot} {n i : Nat} {ls : List V} {v : V} (h : lv_has lsR n ((i, rl E v) :: (lsv E 0 ls).filter (fun q => !(q.1 == i) && (!(q.1 == i + 1) && !(q.1 + 1 == i && q.2.category == 2))))) : lv_has lsR n (lsv E 0 (sto2 ls i v)) := by
  refine ⟨h.1, h.2.1, fun q hq => ?_⟩
  obtain ⟨k, w, h1, h2, rfl⟩ := lsv_of _ 0 q hq
  rw [Nat.zero_add]
  unfold sto2 at h1
  by_cases hk2 : k = i + 1
  · exfalso
    subst hk2
    have hl := (List.getElem?_eq_some_iff.mp h1).1
    rw [List.getElem?_set_self (by simpa using hl)] at h1
    cases h1
    exact h2 rfl
  rw [List.getElem?_set_ne (Ne.symm hk2)] at h1
  by_cases hki : k = i
  · subst hki
    have hl : k < (clr ls k).length := by
      have := (List.getElem?_eq_some_iff.mp h1).1
      simpa using this
    rw [List.getElem?_set_self hl] at h1
    cases h1
    exact h.2.2 _ List.mem_cons_self
  · rw [List.getElem?_set_ne (Ne.symm hki)] at h1
    obtain ⟨g1, g2⟩ := clr_get hki h1 h2
    have hm := lsv_in (E := E) ls 0 k w g1 h2
    rw [Nat.zero_add] at hm
    refine h.2.2 _ (List.mem_cons_of_mem _ (List.mem_filter.mpr ⟨hm, ?_⟩))
    simp only [Bool.and_eq_true, Bool.not_eq_true', beq_eq_false_iff_ne, ne_eq, Bool.and_eq_false_iff, cat_rl]
    refine ⟨hki, hk2, ?_⟩
    by_cases e : k + 1 = i
    · exact Or.inr (fun z => g2 ⟨e, z⟩)
    · exact Or.inl e
/-- some locals may be forgotten -/
def fgt : List V → List V → Prop
  | [], [] => True
  | a :: t, b :: u => (b = vU ∨ b = a) ∧ fgt t u
  | _, _ => False
theorem fgt_get : ∀ {ls lt : List V}, fgt ls lt → ∀ (k : Nat) (v : V), lt[k]? = some v → v ≠ vU → ls[k]? = some v
  | [], [], _, k, v, h, _ => by simp at h
  | [], _ :: _, h, _, _, _, _ => h.elim
  | _ :: _, [], h, _, _, _, _ => h.elim
  | a :: t, b :: u, hf, 0, v, h, hv => by
    simp only [List.getElem?_cons_zero, Option.some.injEq] at h ⊢
    subst h
    rcases hf.1 with q | q
    · exact absurd q hv
    · exact q.symm
  | a :: t, b :: u, hf, k + 1, v, h, hv => by
    simp only [List.getElem?_cons_succ] at h ⊢
    exact fgt_get hf.2 k v h hv
theorem has_fgt {E : EN} {lsR : Array Slot} {n : Nat} {ls lt : List V} (hf : fgt ls lt) (h : lv_has lsR n (lsv E 0 ls)) : lv_has lsR n (lsv E 0 lt) := by
  refine ⟨h.1, h.2.1, fun q hq => ?_⟩
  obtain ⟨k, w, h1, h2, rfl⟩ := lsv_of _ 0 q hq
  exact h.2.2 _ (lsv_in (E := E) ls 0 k w (fgt_get hf k w h1 h2) h2)
