/-! isomorphisms: a column's image and the images of its levels in one number, as 256 * column + levels in base 4 -/
def imo (w v : Nat) : Nat := w / 4 ^ (3 - v) % 4
def pmo (s w : Nat) : Prop := (∀ v, v < s → imo w v < s) ∧ (∀ u v, u < s → v < s → imo w u = imo w v → u = v) ∧ ∀ v, s ≤ v → v < 4 → imo w v = 0
/-- the levels that do not occur have ascending images -/
def foa (A : AR) (c w : Nat) : Prop := ∀ u v, u < v → v < A.2.2.1 c → (∀ r, r < A.1 → A.2.2.2 r c ≠ u) → (∀ r, r < A.1 → A.2.2.2 r c ≠ v) → imo w u < imo w v
def isoP (A B : AR) (w : Nat → Nat) (m : Nat) : Prop := ∀ c, c < m → w c / 256 < A.2.1 ∧ B.2.2.1 (w c / 256) = A.2.2.1 c ∧ pmo (A.2.2.1 c) (w c) ∧ foa A c (w c) ∧ ∀ b, b < c → w b / 256 ≠ w c / 256
/-- the first m columns, mapped, give the rows of the other array in some order -/
def rwm (A B : AR) (w : Nat → Nat) (m : Nat) : Prop := ∀ r, r < A.1 → cn (fun q => ∀ c, c < m → imo (w c) (A.2.2.2 q c) = imo (w c) (A.2.2.2 r c)) A.1 = cn (fun q => ∀ c, c < m → B.2.2.2 q (w c / 256) = imo (w c) (A.2.2.2 r c)) A.1
def iso (A B : AR) (w : Nat → Nat) : Prop := A.1 = B.1 ∧ A.2.1 = B.2.1 ∧ isoP A B w A.2.1 ∧ rwm A B w A.2.1
def liso (A B : AR) (w : Nat → Nat) : Prop := iso A B w ∧ ∀ y, iso A B y → ¬ lxl y w A.2.1
def cmt (A : AR) : Prop := A.1 ≤ 18 ∧ ∀ c, c < A.2.1 → A.2.2.1 c ≤ 4
/-! the state of the bench and its operations -/
abbrev ST : Type := AR × (Nat × (Nat → AR)) × (Nat → Option AR) × (Nat × (Nat → Nat))
abbrev mkS (n k : Nat) (sz : Nat → Nat) (ce : Nat → Nat → Nat) (h : Nat) (hs : Nat → AR) (im : Nat → Option AR) (len : Nat) (tx : Nat → Nat) : ST := ((n, k, sz, ce), (h, hs), im, (len, tx))
def chg (S : ST) (A : AR) : ST := (A, hpush S.2.1.1 S.2.1.2 S.1, S.2.2.1, S.2.2.2)
noncomputable def lxE (n k : Nat) (sz : Nat → Nat) (ce : Nat → Nat → Nat) (lv : Nat) : Nat → Nat := @Classical.epsilon (Nat → Nat) ⟨fun _ => 0⟩ (lext n k sz ce lv)
noncomputable def lxI (A B : AR) : Nat → Nat := @Classical.epsilon (Nat → Nat) ⟨fun _ => 0⟩ (liso A B)
def hR (S : ST) (r : Int) : Prop := 0 ≤ r ∧ r < (S.1.1 : Int)
def hC (S : ST) (c : Int) : Prop := 0 ≤ c ∧ c < (S.1.2.1 : Int)
def hI (i : Int) : Prop := 0 ≤ i ∧ i < 2
def o_begin (S : ST) (x : Int) : Int × ST := if 0 ≤ x ∧ x ≤ 36 then ((S.1.1 : Int), chg S (x.toNat, 0, S.1.2.2.1, S.1.2.2.2)) else (-1, S)
def o_addColumn (S : ST) (x : Int) : Int × ST := if 2 ≤ x ∧ x ≤ 6 then (if S.1.2.1 = 7 then (-3, S) else ((S.1.2.1 : Int), chg S (S.1.1, S.1.2.1 + 1, apS S.1.2.2.1 S.1.2.1 x.toNat, apC S.1.2.2.2 S.1.2.1 (fun _ => 0)))) else (-1, S)
noncomputable def o_dropColumn (S : ST) (x : Int) : Int × ST := cif (hC S x) (((S.1.2.1 - 1 : Nat) : Int), chg S (S.1.1, S.1.2.1 - 1, rmS S.1.2.2.1 x.toNat, rmC S.1.2.2.2 x.toNat)) (-1, S)
noncomputable def o_put (S : ST) (r c v : Int) : Int × ST := cif (hR S r ∧ hC S c ∧ 0 ≤ v ∧ v < (S.1.2.2.1 c.toNat : Int)) ((S.1.2.2.2 r.toNat c.toNat : Int), chg S (S.1.1, S.1.2.1, S.1.2.2.1, fun q b => if q = r.toNat ∧ b = c.toNat then v.toNat else S.1.2.2.2 q b)) (-1, S)
noncomputable def o_dropRow (S : ST) (x : Int) : Int × ST := cif (hR S x) (((S.1.1 - 1 : Nat) : Int), chg S (S.1.1 - 1, S.1.2.1, S.1.2.2.1, fun p c => if p < x.toNat then S.1.2.2.2 p c else S.1.2.2.2 (p + 1) c)) (-1, S)
noncomputable def o_dropCopies (S : ST) : Int × ST := ((S.1.1 : Int) - (nk S.1.2.2.2 S.1.2.1 S.1.1 : Int), chg S (nk S.1.2.2.2 S.1.2.1 S.1.1, S.1.2.1, S.1.2.2.1, fun p c => S.1.2.2.2 (kr S.1.2.2.2 S.1.2.1 S.1.1 p) c))
def o_sort (S : ST) : Int × ST := (((srt S.1.2.1 S.1.2.2.2 S.1.1).2 : Int), chg S (S.1.1, S.1.2.1, S.1.2.2.1, (srt S.1.2.1 S.1.2.2.2 S.1.1).1))
/-- the number of decimal digits -/
def ndF : Nat → Nat → Nat
  | 0, _ => 0
  | f + 1, L => if L = 0 then 0 else ndF f (L / 10) + 1
def nd (L : Nat) : Nat := ndF 10 L
def faOK (L : Nat) : Prop := 1 ≤ nd L ∧ nd L ≤ 7 ∧ ∀ j, j < nd L → 2 ≤ dg L j ∧ dg L j ≤ 6
noncomputable def o_factorial (S : ST) (x : Int) : Int × ST := cif (0 ≤ x ∧ faOK x.toNat) (if 36 < pwd x.toNat (nd x.toNat) then (-3, S) else ((pwd x.toNat (nd x.toNat) : Int), chg S (pwd x.toNat (nd x.toNat), nd x.toNat, faS x.toNat (nd x.toNat), faC x.toNat (nd x.toNat)))) (-1, S)
noncomputable def o_addSum (S : ST) (c a d b : Int) : Int × ST := cif (hC S c ∧ hC S d ∧ S.1.2.2.1 c.toNat = S.1.2.2.1 d.toNat ∧ (0 ≤ a ∧ a ≤ 5) ∧ 0 ≤ b ∧ b ≤ 5) (if S.1.2.1 = 7 then (-3, S) else ((S.1.2.1 : Int), chg S (S.1.1, S.1.2.1 + 1, apS S.1.2.2.1 S.1.2.1 (S.1.2.2.1 c.toNat), apC S.1.2.2.2 S.1.2.1 (fun r => (a.toNat * S.1.2.2.2 r c.toNat + b.toNat * S.1.2.2.2 r d.toNat) % S.1.2.2.1 c.toNat)))) (-1, S)
def o_replaceB (S : ST) (c : Nat) (B : AR) : Int × ST := if B.1 ≠ S.1.2.2.1 c then (-2, S) else if 7 < S.1.2.1 - 1 + B.2.1 then (-3, S) else (((S.1.2.1 - 1 + B.2.1 : Nat) : Int), chg S (S.1.1, S.1.2.1 - 1 + B.2.1, rpS S.1.2.2.1 B.2.2.1 c B.2.1, rpC S.1.2.2.2 B.2.2.2 c B.2.1))
noncomputable def o_replace (S : ST) (c i : Int) : Int × ST := cif (hC S c ∧ hI i) (match S.2.2.1 i.toNat with
  | none => (-2, S)
  | some B => o_replaceB S c.toNat B) (-1, S)
def dvm (n : Nat) : Nat := if 2 ≤ n ∧ n ≤ 6 then 1 else 0
noncomputable def o_develop (S : ST) : Int × ST := cif (S.1.1 = 0 ∨ ¬ sch S.1.1 S.1.2.1 S.1.2.2.1 S.1.2.2.2) (-2, S) (if 36 < S.1.1 * S.1.2.2.1 0 ∨ 7 < S.1.2.1 + dvm S.1.1 then (-3, S) else (((S.1.1 * S.1.2.2.1 0 : Nat) : Int), chg S (S.1.1 * S.1.2.2.1 0, S.1.2.1 + dvm S.1.1, dvS S.1.2.2.1 S.1.2.1 S.1.1, dvC S.1.2.2.2 S.1.2.1 (S.1.2.2.1 0))))
def o_undo (S : ST) : Int × ST := if S.2.1.1 = 0 then (-2, S) else (((S.2.1.1 - 1 : Nat) : Int), (S.2.1.2 (S.2.1.1 - 1), (S.2.1.1 - 1, S.2.1.2), S.2.2.1, S.2.2.2))
def o_write (S : ST) (x : Int) : Int × ST := if 32 ≤ x ∧ x ≤ 126 then (if S.2.2.2.1 = 300 then (-3, S) else (((S.2.2.2.1 + 1 : Nat) : Int), (S.1, S.2.1, S.2.2.1, (S.2.2.2.1 + 1, fun j => if j = S.2.2.2.1 then x.toNat else S.2.2.2.2 j)))) else (-1, S)
def o_wipe (S : ST) : Int × ST := ((S.2.2.2.1 : Int), (S.1, S.2.1, S.2.2.1, (0, S.2.2.2.2)))
noncomputable def o_fault (S : ST) : Int × ST := (flt S.2.2.2.1 S.2.2.2.2, S)
noncomputable def o_load (S : ST) : Int × ST := cif (flt S.2.2.2.1 S.2.2.2.2 = -9) (((ldA S.2.2.2.1 S.2.2.2.2).1 : Int), chg S (ldA S.2.2.2.1 S.2.2.2.2)) (-2, S)
noncomputable def o_told (S : ST) (x : Int) : Int × ST := (if x = 0 then (S.1.1 : Int) else if x = 1 then (S.1.2.1 : Int) else if x = 2 then (stF (fun b => okT S.1.1 S.1.2.1 S.1.2.2.1 S.1.2.2.2 b aT) S.1.2.1 : Int) else if x = 3 then (cn (isC S.1.2.2.2 S.1.2.1) S.1.1 : Int) else if x = 4 then bi (sch S.1.1 S.1.2.1 S.1.2.2.1 S.1.2.2.2) else if x = 5 then (lrs S.1.2.2.1 S.1.2.1 : Int) else if x = 6 then (lcO S.1.2.2.1 S.1.2.1 : Int) else if x = 7 then (S.2.1.1 : Int) else if x = 8 then (S.2.2.2.1 : Int) else -1, S)
noncomputable def o_levels (S : ST) (c : Int) : Int × ST := (cif (hC S c) (S.1.2.2.1 c.toNat : Int) (-1), S)
noncomputable def o_cell (S : ST) (r c : Int) : Int × ST := (cif (hR S r ∧ hC S c) (S.1.2.2.2 r.toNat c.toNat : Int) (-1), S)
noncomputable def o_count (S : ST) (x y : Int) : Int × ST := (cif ((0 ≤ x ∧ x < ((2 ^ S.1.2.1 : Nat) : Int)) ∧ 0 ≤ y ∧ y < (tps S.1.2.2.1 x.toNat S.1.2.1 : Int)) (cn (fun r => tpo S.1.2.2.1 (S.1.2.2.2 r) x.toNat S.1.2.1 = y.toNat) S.1.1 : Int) (-1), S)
noncomputable def o_audit (S : ST) (t x : Int) : Int × ST := (cif ((0 ≤ t ∧ t ≤ (S.1.2.1 : Int)) ∧ 0 ≤ x ∧ x ≤ 3) (if x = 0 then (cn (fun set => popn 12 set = t.toNat ∧ ¬ bal S.1.1 S.1.2.1 S.1.2.2.1 S.1.2.2.2 set (mk (2 ^ S.1.1 - 1))) (2 ^ S.1.2.1) : Int) else if x = 1 then fub S.1.1 S.1.2.1 S.1.2.2.1 S.1.2.2.2 t.toNat (mk (2 ^ S.1.1 - 1)) else if x = 2 then (gts S.1.1 S.1.2.1 S.1.2.2.1 S.1.2.2.2 t.toNat (2 ^ S.1.2.1) : Int) else (lss S.1.1 S.1.2.1 S.1.2.2.1 S.1.2.2.2 t.toNat (2 ^ S.1.2.1) : Int)) (-1), S)
noncomputable def o_agreement (S : ST) (r q : Int) : Int × ST := (cif (hR S r ∧ hR S q) (agr S.1.2.2.2 r.toNat q.toNat S.1.2.1 : Int) (-1), S)
noncomputable def prs (n k : Nat) (ce : Nat → Nat → Nat) (m : Nat) : Nat := sm (fun r => cn (fun q => agr ce r q k = m) r) n
noncomputable def o_pairs (S : ST) (x : Int) : Int × ST := (cif (0 ≤ x ∧ x ≤ 7) (prs S.1.1 S.1.2.1 S.1.2.2.2 x.toNat : Int) (-1), S)
noncomputable def o_extension (S : ST) (lv r : Int) : Int × ST := (cif ((2 ≤ lv ∧ lv ≤ 6) ∧ (r = -1 ∨ hR S r)) (if S.1.1 = 0 ∨ 16 < S.1.1 then -2 else cif (∃ x, ext S.1.1 S.1.2.1 S.1.2.2.1 S.1.2.2.2 lv.toNat x) (if r = -1 then (S.1.1 : Int) else (lxE S.1.1 S.1.2.1 S.1.2.2.1 S.1.2.2.2 lv.toNat r.toNat : Int)) (-9)) (-1), S)
noncomputable def o_extend (S : ST) (lv : Int) : Int × ST := cif (2 ≤ lv ∧ lv ≤ 6) (if S.1.1 = 0 ∨ 16 < S.1.1 then (-2, S) else if S.1.2.1 = 7 then (-3, S) else cif (∃ x, ext S.1.1 S.1.2.1 S.1.2.2.1 S.1.2.2.2 lv.toNat x) ((S.1.2.1 : Int), chg S (S.1.1, S.1.2.1 + 1, apS S.1.2.2.1 S.1.2.1 lv.toNat, apC S.1.2.2.2 S.1.2.1 (lxE S.1.1 S.1.2.1 S.1.2.2.1 S.1.2.2.2 lv.toNat))) (-9, S)) (-1, S)
noncomputable def o_spare (S : ST) (t : Int) : Int × ST := (cif (1 ≤ t ∧ t ≤ (S.1.2.1 : Int)) (if S.1.1 = 0 ∨ 12 < S.1.1 then -2 else cif (okT S.1.1 S.1.2.1 S.1.2.2.1 S.1.2.2.2 t.toNat aT) (spb S.1.1 S.1.2.1 S.1.2.2.1 S.1.2.2.2 t.toNat (2 ^ S.1.1 - 1) : Int) (-9)) (-1), S)
noncomputable def o_keep (S : ST) (i : Int) : Int × ST := cif (hI i) ((S.1.1 : Int), (S.1, S.2.1, (fun j => if j = i.toNat then some S.1 else S.2.2.1 j), S.2.2.2)) (-1, S)
noncomputable def o_back (S : ST) (i : Int) : Int × ST := cif (hI i) (match S.2.2.1 i.toNat with
  | none => (-2, S)
  | some B => ((B.1 : Int), chg S B)) (-1, S)
noncomputable def o_isIso (S : ST) (i : Int) : Int × ST := (cif (hI i) (match S.2.2.1 i.toNat with
  | none => -2
  | some B => cif (cmt S.1) (bi (∃ w, iso S.1 B w)) (-2)) (-1), S)
noncomputable def o_mapped (S : ST) (i c v : Int) : Int × ST := (cif (hI i ∧ hC S c ∧ -1 ≤ v ∧ v < (S.1.2.2.1 c.toNat : Int)) (match S.2.2.1 i.toNat with
  | none => -2
  | some B => cif (cmt S.1) (cif (∃ w, iso S.1 B w) (if v = -1 then ((lxI S.1 B c.toNat / 256 : Nat) : Int) else ((imo (lxI S.1 B c.toNat) v.toNat : Nat) : Int)) (-9)) (-2)) (-1), S)
/-! how the class holds the state -/
def IMx (M : Mem) (im : Nat → Option AR) : Prop := ∀ i, i < 2 → (im i = none → M 46 i = 0) ∧ ∀ B, im i = some B → M 46 i = 1 ∧ TA M (3 + 3 * i) B
def CEx (M : Mem) (A : AR) : Prop := M 42 8 = 0 ∨ ∃ lv : Nat, (2 ≤ lv ∧ lv ≤ 6) ∧ A.1 ≤ 16 ∧ M 42 8 = (lv : Int) ∧ M 42 9 = bi (∃ x, ext A.1 A.2.1 A.2.2.1 A.2.2.2 lv x) ∧ ((∃ x, ext A.1 A.2.1 A.2.2.1 A.2.2.2 lv x) → ∀ q, q < A.1 → M 53 q = (lxE A.1 A.2.1 A.2.2.1 A.2.2.2 lv q : Int))
def CIx (M : Mem) (A : AR) (im : Nat → Option AR) : Prop := M 42 10 = -1 ∨ ∃ i : Nat, i < 2 ∧ M 42 10 = (i : Int) ∧ ∃ B, im i = some B ∧ cmt A ∧ M 42 11 = bi (∃ w, iso A B w) ∧ ((∃ w, iso A B w) → ∀ c, c < A.2.1 → M 100 c = ((lxI A B c / 256 : Nat) : Int) ∧ ∀ v, v < A.2.2.1 c → M 101 (c * 4 + v) = ((imo (lxI A B c) v : Nat) : Int))
def InvX (M : Mem) (S : ST) : Prop := TA M 0 S.1 ∧ HX M S.2.1.1 S.2.1.2 ∧ IMx M S.2.2.1 ∧ SX M S.2.2.2.1 S.2.2.2.2 ∧ CEx M S.1 ∧ CIx M S.1 S.2.2.1
/-- a call's outcome on the class's side -/
def PX (M : Mem) (q : Int × ST) : Option V → Mem → Prop := fun z M' => z = some (vI q.1) ∧ InvX M' q.2 ∧ ∀ a, 167 ≤ a → M' a = M a
theorem IMx.fr {M M' : Mem} {im : Nat → Option AR} (h : IMx M im) (h1 : M' 46 = M 46) (h2 : ∀ a, 3 ≤ a → a < 9 → M' a = M a) : IMx M' im := fun i hi =>
  ⟨fun e => by rw [h1]; exact (h i hi).1 e, fun B e => ⟨by rw [h1]; exact ((h i hi).2 B e).1, ((h i hi).2 B e).2.fr (h2 _ (by omega) (by omega)) (h2 _ (by omega) (by omega)) (h2 _ (by omega) (by omega))⟩⟩
theorem InvX.ch {M M1 M2 : Mem} {n k h len : Nat} {sz tx : Nat → Nat} {ce : Nat → Nat → Nat} {hs : Nat → AR} {im : Nat → Option AR} {A' : AR} (hI : InvX M (mkS n k sz ce h hs im len tx)) (h1 : RC M M1 h hs (n, k, sz, ce)) (h2 : ∀ a, 3 ≤ a → M2 a = M1 a) (h3 : TA M2 0 A') : InvX M2 (chg (mkS n k sz ce h hs im len tx) A') := by
  obtain ⟨a1, a2, a3, a4, a5, a6⟩ := hI
  obtain ⟨r1, r2, r3, r4⟩ := h1
  refine ⟨h3, r4.fr (h2 43 (by decide)) (fun a i1 _ => h2 a (by omega)), a3.fr (by rw [h2 46 (by decide), r1 46 (by decide) (by decide) (by decide)]) (fun a i1 i2 => by rw [h2 a i1, r1 a (by omega) (by omega) (by omega)]), a4.fr (by rw [h2 47 (by decide), r1 47 (by decide) (by decide) (by decide)]) (by rw [h2 48 (by decide), r1 48 (by decide) (by decide) (by decide)]), Or.inl (by rw [h2 42 (by decide)]; exact r2), Or.inl (by rw [h2 42 (by decide)]; exact r3)⟩
theorem PX.ch {M M1 M2 : Mem} {n k h len : Nat} {sz tx : Nat → Nat} {ce : Nat → Nat → Nat} {hs : Nat → AR} {im : Nat → Option AR} {A' : AR} {q : Int × ST} {x : Int} (hq : q = (x, chg (mkS n k sz ce h hs im len tx) A')) (hI : InvX M (mkS n k sz ce h hs im len tx)) (h1 : RC M M1 h hs (n, k, sz, ce)) (h2 : ∀ a, 3 ≤ a → M2 a = M1 a) (h3 : TA M2 0 A') : PX M q (some (vI x)) M2 := by
  subst hq
  exact ⟨rfl, hI.ch h1 h2 h3, fun a ha => by rw [h2 a (by omega), h1.1 a (by omega) (by omega) (by omega)]⟩
theorem PX.same {M : Mem} {S : ST} {q : Int × ST} {x : Int} (hq : q = (x, S)) (hI : InvX M S) : PX M q (some (vI x)) M := by
  subst hq
  exact ⟨rfl, hI, fun _ _ => rfl⟩
/-- a call that works in the census's cells alone -/
theorem InvX.cs {M M' : Mem} {S : ST} (hI : InvX M S) (h : ∀ a, a ≠ 50 → a ≠ 51 → M' a = M a) : InvX M' S := by
  obtain ⟨a1, a2, a3, a4, a5, a6⟩ := hI
  have h42 := h 42 (by decide) (by decide)
  refine ⟨a1.fr (h _ (by decide) (by decide)) (h _ (by decide) (by decide)) (h _ (by decide) (by decide)), a2.fr (h _ (by decide) (by decide)) (fun a i1 i2 => h a (by omega) (by omega)), a3.fr (h _ (by decide) (by decide)) (fun a i1 i2 => h a (by omega) (by omega)), a4.fr (h _ (by decide) (by decide)) (h _ (by decide) (by decide)), ?_, ?_⟩
  · unfold CEx
    rw [h42, h 53 (by decide) (by decide)]
    exact a5
  · unfold CIx
    rw [h42, h 100 (by decide) (by decide), h 101 (by decide) (by decide)]
    exact a6
theorem PX.cs {M M' : Mem} {S : ST} {q : Int × ST} {x : Int} (hq : q = (x, S)) (hI : InvX M S) (h : ∀ a, a ≠ 50 → a ≠ 51 → M' a = M a) : PX M q (some (vI x)) M' := by
  subst hq
  exact ⟨rfl, hI.cs h, fun a ha => h a (by omega) (by omega)⟩
theorem lxE_of {n k lv : Nat} {sz : Nat → Nat} {ce : Nat → Nat → Nat} {x : Nat → Nat} (h : lext n k sz ce lv x) : lext n k sz ce lv (lxE n k sz ce lv) := Classical.epsilon_spec (p := lext n k sz ce lv) ⟨x, h⟩
theorem lxE_eq {n k lv : Nat} {sz : Nat → Nat} {ce : Nat → Nat → Nat} {x : Nat → Nat} (h : lext n k sz ce lv x) {q : Nat} (hq : q < n) : lxE n k sz ce lv q = x q := by
  have h2 := lxE_of h
  rcases lx_tri (lxE n k sz ce lv) x n with e | e | e
  · exact absurd e (h.2 _ h2.1)
  · exact absurd e (h2.2 _ h.1)
  · exact e q hq
theorem lxI_of {A B : AR} {x : Nat → Nat} (h : liso A B x) : liso A B (lxI A B) := Classical.epsilon_spec (p := liso A B) ⟨x, h⟩
theorem lxI_eq {A B : AR} {x : Nat → Nat} (h : liso A B x) {q : Nat} (hq : q < A.2.1) : lxI A B q = x q := by
  have h2 := lxI_of h
  rcases lx_tri (lxI A B) x A.2.1 with e | e | e
  · exact absurd e (h.2 _ h2.1)
  · exact absurd e (h2.2 _ h.1)
  · exact e q hq
