section RSL
variable {ad cy : Nat → Nat} {k : Nat} {F F1 : Nat → va_E} {sc : Scn}
theorem RS_chain {t : Stg} (h : RS ad cy k F sc) (hF : F1 = va_up F (k + 1) (oSetting t)) : RS ad cy k F1 (t, sc.2) :=
  ⟨zne hF (by omega) h.1, zeq hF, zne hF (by omega) h.2.2.1, zne hF (by omega) h.2.2.2.1, fun i hi => zne hF (by omega) (h.2.2.2.2 i hi)⟩
theorem RS_self {ln tc : Int32} (h : RS ad cy k F sc) (hF : F1 = va_up F k (oScene ad k ln tc)) : RS ad cy k F1 (sc.1, ln, sc.2.2.1, tc, sc.2.2.2.2) :=
  ⟨zeq hF, zne hF (by omega) h.2.1, zne hF (by omega) h.2.2.1, zne hF (by omega) h.2.2.2.1, fun i hi => zne hF (by omega) (h.2.2.2.2 i hi)⟩
theorem RS_course {c : Crs} (h : RS ad cy k F sc) (hF : F1 = va_up F (k + 3) (oCourse c)) : RS ad cy k F1 (sc.1, sc.2.1, sc.2.2.1, sc.2.2.2.1, c) :=
  ⟨zne hF (by omega) h.1, zne hF (by omega) h.2.1, zne hF (by omega) h.2.2.1, zeq hF, fun i hi => zne hF (by omega) (h.2.2.2.2 i hi)⟩
theorem RS_try {t : Stg} {j : Nat} (h : RS ad cy k F sc) (hF : F1 = va_up F (k + 4 + j) (oSetting t)) : RS ad cy k F1 (sc.1, sc.2.1, va_up sc.2.2.1 j t, sc.2.2.2.1, sc.2.2.2.2) := by
  refine ⟨zne hF (by omega) h.1, zne hF (by omega) h.2.1, zne hF (by omega) h.2.2.1, zne hF (by omega) h.2.2.2.1, fun i hi => ?_⟩
  by_cases hj : i = j
  · subst hj
    show F1 (k + 4 + i) = oSetting (va_up sc.2.2.1 i t i)
    rw [va_up_self]; exact zeq hF
  · show F1 (k + 4 + i) = oSetting (va_up sc.2.2.1 j t i)
    rw [va_up_ne _ _ hj]; exact zne hF (by omega) (h.2.2.2.2 i hi)
theorem RS_fr (h : RS ad cy k F sc) (hF : ∀ q, k ≤ q → q < k + 12 → F1 q = F q) : RS ad cy k F1 sc :=
  ⟨(hF _ (by omega) (by omega)).trans h.1, (hF _ (by omega) (by omega)).trans h.2.1, (hF _ (by omega) (by omega)).trans h.2.2.1, (hF _ (by omega) (by omega)).trans h.2.2.2.1, fun i hi => (hF _ (by omega) (by omega)).trans (h.2.2.2.2 i hi)⟩
theorem RS_ext {sc' : Scn} (h : RS ad cy k F sc) (h1 : sc'.1 = sc.1) (h2 : sc'.2.1 = sc.2.1) (h3 : ∀ i, i < 8 → sc'.2.2.1 i = sc.2.2.1 i) (h4 : sc'.2.2.2 = sc.2.2.2) : RS ad cy k F sc' := by
  obtain ⟨a, b, c, d⟩ := sc'
  dsimp only at h1 h2 h3 h4
  subst h1; subst h2; subst h4
  exact ⟨h.1, h.2.1, h.2.2.1, h.2.2.2.1, fun i hi => by show F (k + 4 + i) = oSetting (c i); rw [h3 i hi]; exact h.2.2.2.2 i hi⟩
end RSL
theorem tr_s (f g : Nat → Stg) (i : Nat) : va_up (fun j => if j < i then f j else g j) i (f i) = fun j => if j < i + 1 then f j else g j := by
  funext j
  unfold va_up
  by_cases h : j = i
  · simp [h]
  · by_cases h2 : j < i
    · simp [h, h2, show j < i + 1 by omega]
    · simp [h, h2, show ¬ j < i + 1 by omega]
abbrev bIn (v lo hi : Int32) : Prop := lo ≤ v ∧ v ≤ hi
abbrev bSh (d : Int32) : Prop := 0 ≤ d ∧ d < 8
abbrev bTold (b : Stg) : Prop := bIn b.1 0 100 ∧ bIn b.2.1 0 100 ∧ bIn b.2.2.1 0 2 ∧ bIn b.2.2.2 1 400
def sFirst (x y : Int32) : Int32 := if x = 0 ∨ y = 0 then x + y else sMax x y
abbrev bTry (tc i : Int32) : Prop := 0 ≤ i ∧ i < tc ∧ i < 8
def zcop (f g : Nat → Int32) (i : Nat) : Nat → Int32 := fun j => if j < i then f j else g j
theorem zcop_0 (f g : Nat → Int32) : zcop f g 0 = g := by funext j; simp [zcop]
theorem zcop_s (f g : Nat → Int32) (i : Nat) : upd (zcop f g i) i (f i) = zcop f g (i + 1) := by
  funext j
  unfold upd zcop
  by_cases h : j = i
  · simp [h]
  · by_cases h2 : j < i
    · simp [h, h2, show j < i + 1 by omega]
    · simp [h, h2, show ¬ j < i + 1 by omega]
theorem sAt_nI {el : Nat → Int32} {z i : Nat} (hz : z ≤ 100) (hi : i < z) : sAt (nI z) el (nI i) = el i := by
  unfold sAt bPlace
  rw [if_pos ⟨nI_pos' (by omega), nI_lt hi (by omega), by
    have := nI_lt (a := i) (b := 100) (by omega) (by omega)
    exact this⟩, iN_nI (by omega)]
section RDL
variable {ch : Int32 → Int32} {g v : Int32} {q : Int32 × Int32} {u : Int32 × Int32 × Int32}
theorem sAcc_pos (h : bAcc ch g q) : sAcc ch g q = (q.1 + 1, q.2) := if_pos h
theorem sAcc_neg (h : ¬ bAcc ch g q) : sAcc ch g q = q := if_neg h
theorem sNeed_pos (h : bAcc ch g q) : sNeed ch g q = sAcc ch g q := by rw [sAcc_pos h]; exact if_pos h
theorem sNeed_neg (h : ¬ bAcc ch g q) : sNeed ch g q = (q.1, 1) := if_neg h
theorem sDig_pos (h1 : q.2 = 0) (h2 : bDig ch q.1) : sDig ch q = (ch q.1 - 48, q.1 + 1, q.2) := if_pos ⟨h1, h2⟩
theorem sDig_neg (h : ¬ (q.2 = 0 ∧ bDig ch q.1)) : sDig ch q = (0, q.1, 1) := if_neg h
theorem sMore_pos (h1 : u.2.2 = 0) (h2 : 0 < u.1) (h3 : bDig ch u.2.1) : sMore ch u = (10 * u.1 + (sDig ch u.2).1, (sDig ch u.2).2) := if_pos ⟨h1, h2, h3⟩
theorem sMore_neg (h : ¬ (u.2.2 = 0 ∧ 0 < u.1 ∧ bDig ch u.2.1)) : sMore ch u = u := if_neg h
theorem sOpt_posN (h : bAcc ch g q) : sOpt ch g true v q = sNum ch (sAcc ch g q) := by unfold sOpt; rw [if_pos h]; rfl
theorem sOpt_posD (h : bAcc ch g q) : sOpt ch g false v q = sDig ch (sAcc ch g q) := by unfold sOpt; rw [if_pos h]; rfl
theorem sOpt_neg {b : Bool} (h : ¬ bAcc ch g q) : sOpt ch g b v q = (v, q) := if_neg h
end RDL
