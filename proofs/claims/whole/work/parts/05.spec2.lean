/-! ===== shelves, scenes, readers ===== -/
abbrev Scn := Stg × Int32 × (Nat → Stg) × Int32 × Crs
abbrev Shf := Int32 × Tal × Int32 × Int32 × (Nat → Int32)
abbrev Rdr := (Nat → Int32) × Int32 × Int32 × Int32
abbrev oInts (cy : Nat → Nat) (N : Nat) (f : Nat → Int32) : va_E := .inl (cy 0, N, .inl f)
abbrev oLongs (cy : Nat → Nat) (N : Nat) (f : Nat → Int64) : va_E := .inl (cy 1, N, .inr (.inl f))
abbrev oRefs (cy : Nat → Nat) (t N : Nat) (f : Nat → Option Nat) : va_E := .inl (cy t, N, .inr (.inr (.inr (.inr f))))
abbrev oShelf (ad : Nat → Nat) (k : Nat) (h so z : Int32) : va_E := .inr (4, [.int h, .ref (ad (k + 1)), .int so, .int z, .ref (ad (k + 2))])
abbrev oScene (ad : Nat → Nat) (k : Nat) (ln tc : Int32) : va_E := .inr (2, [.ref (ad (k + 1)), .int ln, .ref (ad (k + 2)), .int tc, .ref (ad (k + 3))])
abbrev oTries (ad : Nat → Nat) (cy : Nat → Nat) (k : Nat) : va_E := oRefs cy 2 8 (fun i => some (ad (k + 4 + i)))
abbrev oReader (ad : Nat → Nat) (k : Nat) (z a b : Int32) : va_E := .inr (1, [.ref (ad (k + 1)), .int z, .int a, .int b])
def RSh (ad : Nat → Nat) (cy : Nat → Nat) (k : Nat) (F : Nat → va_E) (sf : Shf) : Prop := F k = oShelf ad k sf.1 sf.2.2.1 sf.2.2.2.1 ∧ F (k + 1) = oTale sf.2.1 ∧ F (k + 2) = oInts cy 100 sf.2.2.2.2
def RS (ad : Nat → Nat) (cy : Nat → Nat) (k : Nat) (F : Nat → va_E) (sc : Scn) : Prop :=
  F k = oScene ad k sc.2.1 sc.2.2.2.1 ∧ F (k + 1) = oSetting sc.1 ∧ F (k + 2) = oTries ad cy k ∧ F (k + 3) = oCourse sc.2.2.2.2 ∧ ∀ i, i < 8 → F (k + 4 + i) = oSetting (sc.2.2.1 i)
def RRd (ad : Nat → Nat) (cy : Nat → Nat) (k : Nat) (F : Nat → va_E) (rd : Rdr) : Prop := F k = oReader ad k rd.2.1 rd.2.2.1 rd.2.2.2 ∧ F (k + 1) = oInts cy 100 rd.1
theorem zself {F : Nat → va_E} {k : Nat} {E : va_E} (h : F k = E) : F = va_up F k E := by
  funext j
  by_cases hj : j = k
  · subst hj; rw [va_up_self]; exact h
  · rw [va_up_ne _ _ hj]
theorem fr_up {F F1 : Nat → va_E} {k b w : Nat} {E : va_E} (h : F1 = va_up F k E) (h1 : b ≤ k) (h2 : k < b + w) : ∀ q, ¬ (b ≤ q ∧ q < b + w) → F1 q = F q := fun q hq => znu h (by omega)
theorem fr_tr {F F1 F2 : Nat → va_E} {b w : Nat} (h1 : ∀ q, ¬ (b ≤ q ∧ q < b + w) → F1 q = F q) (h2 : ∀ q, ¬ (b ≤ q ∧ q < b + w) → F2 q = F1 q) : ∀ q, ¬ (b ≤ q ∧ q < b + w) → F2 q = F q := fun q hq => (h2 q hq).trans (h1 q hq)
def iN (i : Int32) : Nat := i.toNatClampNeg
theorem iN_nI {k : Nat} (h : k < 2 ^ 31) : iN (nI k) = k := nI_clamp h
theorem i32le {x y : Int32} : x ≤ y ↔ x.toInt ≤ y.toInt := Int32.le_iff_toInt_le
theorem i32lt {x y : Int32} : x < y ↔ x.toInt < y.toInt := Int32.lt_iff_toInt_lt
theorem iN_e {i : Int32} (h : 0 ≤ i.toInt) : i = nI (iN i) ∧ (iN i : Int) = i.toInt := by
  have h1 : (iN i : Int) = i.toInt := by
    show ((i.toInt.toNat : Nat) : Int) = _
    omega
  have hb := Int32.toInt_lt i
  refine ⟨?_, h1⟩
  apply Int32.toInt_inj.mp
  rw [nI_toInt (by omega), h1]
theorem iN_at {i : Int32} {N : Nat} (h : 0 ≤ i) {m : Int32} (h2 : i < m) (hm : m.toInt = (N : Int)) : i = nI (iN i) ∧ iN i < N := by
  have a := i32le.mp h
  have b := i32lt.mp h2
  have c := iN_e (i := i) a
  have d : (0 : Int32).toInt = 0 := rfl
  refine ⟨c.1, ?_⟩
  omega
/-- a ROW's places -/
abbrev bPlace (z i : Int32) : Prop := 0 ≤ i ∧ i < z ∧ i < 100
abbrev bStretch (z i k : Int32) : Prop := 0 ≤ k ∧ k ≤ z ∧ 0 ≤ i ∧ i ≤ z - k
def sAt (z : Int32) (el : Nat → Int32) (i : Int32) : Int32 := if bPlace z i then el (iN i) else 0
def sNar (so v : Int32) : Int32 := if so = 0 then v.toInt8.toInt32 else if so = 1 then v.toInt16.toInt32 else v
def sLow (so : Int32) : Int32 := if so = 0 then -128 else if so = 1 then -32768 else -2147483648
abbrev bTells (so z : Int32) (el : Nat → Int32) (i : Int32) : Prop := ¬ sAt z el i = sLow so
def zfill (f : Nat → Int32) (i : Nat) : Nat → Int32 := fun j => if j < i then 0 else f j
theorem zfill_0 (f : Nat → Int32) : zfill f 0 = f := by funext j; simp [zfill]
theorem zfill_s (f : Nat → Int32) (i : Nat) : upd (zfill f i) i 0 = zfill f (i + 1) := by
  funext j
  unfold upd zfill
  by_cases h : j = i
  · simp [h]
  · by_cases h2 : j < i
    · simp [h, h2, show j < i + 1 by omega]
    · simp [h, h2, show ¬ j < i + 1 by omega]
theorem nI_s (k : Nat) : nI k + 1 = nI (k + 1) := nI_1 k
theorem nIlt {k N : Nat} {m : Int32} (h : ¬ m ≤ nI k) (hk : k < 2 ^ 31) (hm : m.toInt = (N : Int)) : k < N := by
  exact Nat.lt_of_not_le fun q => h (i32le.mpr (by rw [hm, nI_toInt hk]; omega))
theorem nIge {k N : Nat} {m : Int32} (h : m ≤ nI k) (hk : k < 2 ^ 31) (hm : m.toInt = (N : Int)) : N ≤ k := by
  have a := i32le.mp h
  rw [hm, nI_toInt hk] at a
  omega
/-! ===== reading ===== -/
/-- the byte at a place (a sentinel at the end) -/
def sNext (f : Nat → Int32) (z a : Int32) : Int32 := if 0 ≤ a ∧ a < z ∧ a < 100 then f (iN a) else -1000
abbrev bDig (ch : Int32 → Int32) (a : Int32) : Prop := 48 ≤ ch a ∧ ch a ≤ 57
abbrev bAcc (ch : Int32 → Int32) (g : Int32) (q : Int32 × Int32) : Prop := q.2 = 0 ∧ ch q.1 = g
/-- place and broken -/
def sAcc (ch : Int32 → Int32) (g : Int32) (q : Int32 × Int32) : Int32 × Int32 := if bAcc ch g q then (q.1 + 1, q.2) else q
def sNeed (ch : Int32 → Int32) (g : Int32) (q : Int32 × Int32) : Int32 × Int32 := if bAcc ch g q then (q.1 + 1, q.2) else (q.1, 1)
/-- the number, place and broken -/
def sDig (ch : Int32 → Int32) (q : Int32 × Int32) : Int32 × Int32 × Int32 := if q.2 = 0 ∧ bDig ch q.1 then (ch q.1 - 48, q.1 + 1, q.2) else (0, q.1, 1)
def sMore (ch : Int32 → Int32) (q : Int32 × Int32 × Int32) : Int32 × Int32 × Int32 := if q.2.2 = 0 ∧ 0 < q.1 ∧ bDig ch q.2.1 then (10 * q.1 + (sDig ch q.2).1, (sDig ch q.2).2) else q
def sNum (ch : Int32 → Int32) (q : Int32 × Int32) : Int32 × Int32 × Int32 := sMore ch (sMore ch (sDig ch q))
def sOpt (ch : Int32 → Int32) (g : Int32) (num : Bool) (v : Int32) (q : Int32 × Int32) : Int32 × Int32 × Int32 := if bAcc ch g q then (if num then sNum ch (sAcc ch g q) else sDig ch (sAcc ch g q)) else (v, q)
/-- a STATEMENT: the setting, place and broken -/
def sStm (ch : Int32 → Int32) (t : Stg) (q : Int32 × Int32) : Stg × Int32 × Int32 :=
  let a := sNum ch (sNeed ch 114 q)
  let b := sOpt ch 98 true t.2.1 a.2
  let c := sOpt ch 108 false t.2.2.1 b.2
  let d := sOpt ch 100 true t.2.2.2 c.2
  ((a.1, b.1, c.1, d.1), sNeed ch 59 d.2)
