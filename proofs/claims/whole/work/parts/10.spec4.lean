/-! ===== the whole object: 56 cells ===== -/
abbrev oMain (ad : Nat → Nat) (pic : Int32) : va_E := .inr (6, [.ref (ad 1), .ref (ad 13), .int pic, .ref (ad 25), .ref (ad 50), .ref (ad 52), .ref (ad 53), .ref (ad 54), .ref (ad 55)])
abbrev oShelves (ad cy : Nat → Nat) : va_E := oRefs cy 3 8 (fun i => some (ad (26 + 3 * i)))
def RX (ad cy : Nat → Nat) (F : Nat → va_E) (pic : Int32) (sc ps : Scn) (sh : Nat → Shf) (rd : Rdr) (dr : Stg) (fa : Tal) (mi : Crs) : Prop :=
  F 0 = oMain ad pic ∧ RS ad cy 1 F sc ∧ RS ad cy 13 F ps ∧ F 25 = oShelves ad cy ∧ (∀ i, i < 8 → RSh ad cy (26 + 3 * i) F (sh i)) ∧ RRd ad cy 50 F rd ∧ F 52 = oSetting dr ∧ F 53 = oTale fa ∧ F 54 = oTale (0, 0) ∧ F 55 = oCourse mi
def fr56 (F F1 : Nat → va_E) : Prop := ∀ q, 56 ≤ q → F1 q = F q
theorem fr56_rf {F : Nat → va_E} : fr56 F F := fun _ _ => rfl
theorem fr56_up {F F0 F1 : Nat → va_E} {k : Nat} {E : va_E} (h0 : fr56 F0 F) (h : F1 = va_up F k E) (hk : k < 56) : fr56 F0 F1 := fun q hq => (znu h (by omega)).trans (h0 q hq)
theorem fr56_bl {F F0 F1 : Nat → va_E} {b w : Nat} (h0 : fr56 F0 F) (h : ∀ q, ¬ (b ≤ q ∧ q < b + w) → F1 q = F q) (hk : b + w ≤ 56) : fr56 F0 F1 := fun q hq => (h q (by omega)).trans (h0 q hq)
section RXL
variable {ad cy : Nat → Nat} {F F1 : Nat → va_E} {pic : Int32} {sc ps : Scn} {sh : Nat → Shf} {rd : Rdr} {dr : Stg} {fa : Tal} {mi : Crs}
theorem RSh_fr {k : Nat} {sf : Shf} (h : RSh ad cy k F sf) (hF : ∀ q, k ≤ q → q < k + 3 → F1 q = F q) : RSh ad cy k F1 sf :=
  ⟨(hF _ (by omega) (by omega)).trans h.1, (hF _ (by omega) (by omega)).trans h.2.1, (hF _ (by omega) (by omega)).trans h.2.2⟩
theorem RRd_fr {k : Nat} (h : RRd ad cy k F rd) (hF : ∀ q, k ≤ q → q < k + 2 → F1 q = F q) : RRd ad cy k F1 rd :=
  ⟨(hF _ (by omega) (by omega)).trans h.1, (hF _ (by omega) (by omega)).trans h.2⟩
theorem rx_main {p : Int32} (h : RX ad cy F pic sc ps sh rd dr fa mi) (hF : F1 = va_up F 0 (oMain ad p)) : RX ad cy F1 p sc ps sh rd dr fa mi := by
  obtain ⟨h1, h2, h3, h4, h5, h6, h7, h8, h9, h10⟩ := h
  exact ⟨zeq hF, RS_fr h2 (fun q _ _ => znu hF (by omega)), RS_fr h3 (fun q _ _ => znu hF (by omega)), zne hF (by omega) h4, fun i hi => RSh_fr (h5 i hi) (fun q _ _ => znu hF (by omega)), RRd_fr h6 (fun q _ _ => znu hF (by omega)), zne hF (by omega) h7, zne hF (by omega) h8, zne hF (by omega) h9, zne hF (by omega) h10⟩
theorem rx_scene {sc' : Scn} (h : RX ad cy F pic sc ps sh rd dr fa mi) (hS : RS ad cy 1 F1 sc') (hF : ∀ q, ¬ (1 ≤ q ∧ q < 1 + 12) → F1 q = F q) : RX ad cy F1 pic sc' ps sh rd dr fa mi := by
  obtain ⟨h1, h2, h3, h4, h5, h6, h7, h8, h9, h10⟩ := h
  exact ⟨(hF _ (by omega)).trans h1, hS, RS_fr h3 (fun q _ _ => hF q (by omega)), (hF _ (by omega)).trans h4, fun i hi => RSh_fr (h5 i hi) (fun q _ _ => hF q (by omega)), RRd_fr h6 (fun q _ _ => hF q (by omega)), (hF _ (by omega)).trans h7, (hF _ (by omega)).trans h8, (hF _ (by omega)).trans h9, (hF _ (by omega)).trans h10⟩
theorem rx_pict {ps' : Scn} (h : RX ad cy F pic sc ps sh rd dr fa mi) (hS : RS ad cy 13 F1 ps') (hF : ∀ q, ¬ (13 ≤ q ∧ q < 13 + 12) → F1 q = F q) : RX ad cy F1 pic sc ps' sh rd dr fa mi := by
  obtain ⟨h1, h2, h3, h4, h5, h6, h7, h8, h9, h10⟩ := h
  exact ⟨(hF _ (by omega)).trans h1, RS_fr h2 (fun q _ _ => hF q (by omega)), hS, (hF _ (by omega)).trans h4, fun i hi => RSh_fr (h5 i hi) (fun q _ _ => hF q (by omega)), RRd_fr h6 (fun q _ _ => hF q (by omega)), (hF _ (by omega)).trans h7, (hF _ (by omega)).trans h8, (hF _ (by omega)).trans h9, (hF _ (by omega)).trans h10⟩
theorem rx_shelf {sf : Shf} {j : Nat} (hj : j < 8) (h : RX ad cy F pic sc ps sh rd dr fa mi) (hS : RSh ad cy (26 + 3 * j) F1 sf) (hF : ∀ q, ¬ (26 + 3 * j ≤ q ∧ q < 26 + 3 * j + 3) → F1 q = F q) : RX ad cy F1 pic sc ps (va_up sh j sf) rd dr fa mi := by
  obtain ⟨h1, h2, h3, h4, h5, h6, h7, h8, h9, h10⟩ := h
  refine ⟨(hF _ (by omega)).trans h1, RS_fr h2 (fun q _ _ => hF q (by omega)), RS_fr h3 (fun q _ _ => hF q (by omega)), (hF _ (by omega)).trans h4, fun i hi => ?_, RRd_fr h6 (fun q _ _ => hF q (by omega)), (hF _ (by omega)).trans h7, (hF _ (by omega)).trans h8, (hF _ (by omega)).trans h9, (hF _ (by omega)).trans h10⟩
  by_cases e : i = j
  · subst e; rw [va_up_self]; exact hS
  · rw [va_up_ne _ _ e]; exact RSh_fr (h5 i hi) (fun q _ _ => hF q (by omega))
theorem rx_reader {rd' : Rdr} (h : RX ad cy F pic sc ps sh rd dr fa mi) (hS : RRd ad cy 50 F1 rd') (hF : ∀ q, ¬ (50 ≤ q ∧ q < 50 + 2) → F1 q = F q) : RX ad cy F1 pic sc ps sh rd' dr fa mi := by
  obtain ⟨h1, h2, h3, h4, h5, h6, h7, h8, h9, h10⟩ := h
  exact ⟨(hF _ (by omega)).trans h1, RS_fr h2 (fun q _ _ => hF q (by omega)), RS_fr h3 (fun q _ _ => hF q (by omega)), (hF _ (by omega)).trans h4, fun i hi => RSh_fr (h5 i hi) (fun q _ _ => hF q (by omega)), hS, (hF _ (by omega)).trans h7, (hF _ (by omega)).trans h8, (hF _ (by omega)).trans h9, (hF _ (by omega)).trans h10⟩
theorem rx_draft {t : Stg} (h : RX ad cy F pic sc ps sh rd dr fa mi) (hF : F1 = va_up F 52 (oSetting t)) : RX ad cy F1 pic sc ps sh rd t fa mi := by
  obtain ⟨h1, h2, h3, h4, h5, h6, h7, h8, h9, h10⟩ := h
  exact ⟨zne hF (by omega) h1, RS_fr h2 (fun q _ _ => znu hF (by omega)), RS_fr h3 (fun q _ _ => znu hF (by omega)), zne hF (by omega) h4, fun i hi => RSh_fr (h5 i hi) (fun q _ _ => znu hF (by omega)), RRd_fr h6 (fun q _ _ => znu hF (by omega)), zeq hF, zne hF (by omega) h8, zne hF (by omega) h9, zne hF (by omega) h10⟩
theorem rx_fancy {t : Tal} (h : RX ad cy F pic sc ps sh rd dr fa mi) (hF : F1 = va_up F 53 (oTale t)) : RX ad cy F1 pic sc ps sh rd dr t mi := by
  obtain ⟨h1, h2, h3, h4, h5, h6, h7, h8, h9, h10⟩ := h
  exact ⟨zne hF (by omega) h1, RS_fr h2 (fun q _ _ => znu hF (by omega)), RS_fr h3 (fun q _ _ => znu hF (by omega)), zne hF (by omega) h4, fun i hi => RSh_fr (h5 i hi) (fun q _ _ => znu hF (by omega)), RRd_fr h6 (fun q _ _ => znu hF (by omega)), zne hF (by omega) h7, zeq hF, zne hF (by omega) h9, zne hF (by omega) h10⟩
theorem rx_mind {c : Crs} (h : RX ad cy F pic sc ps sh rd dr fa mi) (hF : F1 = va_up F 55 (oCourse c)) : RX ad cy F1 pic sc ps sh rd dr fa c := by
  obtain ⟨h1, h2, h3, h4, h5, h6, h7, h8, h9, h10⟩ := h
  exact ⟨zne hF (by omega) h1, RS_fr h2 (fun q _ _ => znu hF (by omega)), RS_fr h3 (fun q _ _ => znu hF (by omega)), zne hF (by omega) h4, fun i hi => RSh_fr (h5 i hi) (fun q _ _ => znu hF (by omega)), RRd_fr h6 (fun q _ _ => znu hF (by omega)), zne hF (by omega) h7, zne hF (by omega) h8, zne hF (by omega) h9, zeq hF⟩
theorem rx_chain {t : Stg} (h : RX ad cy F pic sc ps sh rd dr fa mi) (hF : F1 = va_up F 2 (oSetting t)) : RX ad cy F1 pic (t, sc.2) ps sh rd dr fa mi := rx_scene h (RS_chain h.2.1 hF) (fr_up hF (by omega) (by omega))
theorem rx_self {ln tc : Int32} (h : RX ad cy F pic sc ps sh rd dr fa mi) (hF : F1 = va_up F 1 (oScene ad 1 ln tc)) : RX ad cy F1 pic (sc.1, ln, sc.2.2.1, tc, sc.2.2.2.2) ps sh rd dr fa mi := rx_scene h (RS_self h.2.1 hF) (fr_up hF (by omega) (by omega))
theorem rx_course {c : Crs} (h : RX ad cy F pic sc ps sh rd dr fa mi) (hF : F1 = va_up F 4 (oCourse c)) : RX ad cy F1 pic (sc.1, sc.2.1, sc.2.2.1, sc.2.2.2.1, c) ps sh rd dr fa mi := rx_scene h (RS_course h.2.1 hF) (fr_up hF (by omega) (by omega))
theorem rx_try {t : Stg} {j : Nat} (hj : j < 8) (h : RX ad cy F pic sc ps sh rd dr fa mi) (hF : F1 = va_up F (1 + 4 + j) (oSetting t)) : RX ad cy F1 pic (sc.1, sc.2.1, va_up sc.2.2.1 j t, sc.2.2.2.1, sc.2.2.2.2) ps sh rd dr fa mi := rx_scene h (RS_try h.2.1 hF) (fr_up hF (by omega) (by omega))
end RXL
/-! ===== what is within bounds ===== -/
def gC (ln : Int32) (c : Crs) : Prop := 0 ≤ c.2.1.toInt ∧ c.2.1.toInt ≤ 3000 ∧ 0 ≤ c.2.2.1.toInt ∧ c.2.2.1.toInt ≤ 36000 ∧ 0 ≤ c.2.2.2.1.toInt ∧ c.2.2.2.1.toInt ≤ ln.toInt
def gScn (s : Scn) : Prop := gS s.1 ∧ 10 ≤ s.2.1.toInt ∧ s.2.1.toInt ≤ 9999 ∧ (∀ i, i < 8 → gS (s.2.2.1 i)) ∧ 0 ≤ s.2.2.2.1.toInt ∧ s.2.2.2.1.toInt ≤ 8 ∧ gC s.2.1 s.2.2.2.2 ∧ 0 ≤ s.2.2.2.2.1.toInt ∧ s.2.2.2.2.1.toInt ≤ 9999
def gShf (s : Shf) : Prop := (s.1 = 1 → gT s.2.1) ∧ 0 ≤ s.2.2.2.1.toInt ∧ s.2.2.2.1.toInt ≤ 100 ∧ 0 ≤ s.2.2.1.toInt ∧ s.2.2.1.toInt ≤ 2 ∧ (s.2.2.1 = 0 → ∀ i, i < 100 → -128 ≤ (s.2.2.2.2 i).toInt ∧ (s.2.2.2.2 i).toInt ≤ 127)
def gX (sc ps : Scn) (sh : Nat → Shf) : Prop := gScn sc ∧ gScn ps ∧ ∀ d, d < 8 → gShf (sh d)
/-! ===== what the calls answer ===== -/
def zr (b : Prop) [Decidable b] (rf v : Int32) : Int32 := if b then (if rf = 0 then v else rf) else -1
theorem zr_no {b : Prop} [Decidable b] {rf v : Int32} (h : ¬ b) : zr b rf v = -1 := if_neg h
theorem zr_rf {b : Prop} [Decidable b] {rf v : Int32} (h : b) (h2 : ¬ rf = 0) : zr b rf v = rf := (if_pos h).trans (if_neg h2)
theorem zr_ok {b : Prop} [Decidable b] {rf v : Int32} (h : b) (h2 : rf = 0) : zr b rf v = v := (if_pos h).trans (if_pos h2)
def sStR (sh : Nat → Shf) (d : Int32) : Int32 := if bSh d then (if (sh (iN d)).1 = 0 then -11 else if (sh (iN d)).1 = 1 then 0 else -12) else -1
def sRowR (sh : Nat → Shf) (d : Int32) : Int32 := if bSh d then (if (sh (iN d)).1 = 0 then -11 else if (sh (iN d)).1 = 2 then 0 else -12) else -1
theorem bSh_i {d : Int32} (h : bSh d) : d = nI (iN d) ∧ iN d < 8 := iN_at (N := 8) h.1 h.2 rfl
theorem sStR_0 {sh : Nat → Shf} {d : Int32} (h : sStR sh d = 0) : (d = nI (iN d) ∧ iN d < 8) ∧ (sh (iN d)).1 = 1 := by
  unfold sStR at h
  by_cases h1 : bSh d
  · rw [if_pos h1] at h
    by_cases h2 : (sh (iN d)).1 = 0
    · rw [if_pos h2] at h; exact absurd h (by decide)
    · rw [if_neg h2] at h
      by_cases h3 : (sh (iN d)).1 = 1
      · exact ⟨bSh_i h1, h3⟩
      · rw [if_neg h3] at h; exact absurd h (by decide)
  · rw [if_neg h1] at h; exact absurd h (by decide)
theorem sRowR_0 {sh : Nat → Shf} {d : Int32} (h : sRowR sh d = 0) : (d = nI (iN d) ∧ iN d < 8) ∧ (sh (iN d)).1 = 2 := by
  unfold sRowR at h
  by_cases h1 : bSh d
  · rw [if_pos h1] at h
    by_cases h2 : (sh (iN d)).1 = 0
    · rw [if_pos h2] at h; exact absurd h (by decide)
    · rw [if_neg h2] at h
      by_cases h3 : (sh (iN d)).1 = 2
      · exact ⟨bSh_i h1, h3⟩
      · rw [if_neg h3] at h; exact absurd h (by decide)
  · rw [if_neg h1] at h; exact absurd h (by decide)
abbrev bMay (what q : Int32) : Prop := ((what = 0 ∨ what = 1) ∧ bIn q 0 100) ∨ (what = 2 ∧ bIn q 0 2) ∨ (what = 3 ∧ bIn q 10 9999) ∨ (what = 4 ∧ bIn q 1 400)
def sCh (sc : Scn) (what : Int32) : Int32 := if what = 0 then sc.1.1 else if what = 1 then sc.1.2.1 else if what = 2 then sc.1.2.2.1 else if what = 3 then sc.2.1 else if what = 4 then sc.1.2.2.2 else -1
def sSetS (sc : Scn) (what q : Int32) : Scn :=
  if what = 0 then ((q, sc.1.2), sc.2) else if what = 1 then ((sc.1.1, q, sc.1.2.2), sc.2) else if what = 2 then ((sc.1.1, sc.1.2.1, q, sc.1.2.2.2), sc.2)
  else if what = 3 then (sc.1, q, sc.2.2) else ((sc.1.1, sc.1.2.1, sc.1.2.2.1, q), sc.2)
abbrev bSetNo (sc : Scn) (what q : Int32) : Prop := what = 3 ∧ q ≤ sc.2.2.2.2.2.2.2.1
def sSet (sc : Scn) (what q : Int32) : Int32 := if bMay what q then (if bSetNo sc what q then -3 else sCh sc what) else -1
def sSetN (sc : Scn) (what q : Int32) : Scn := if bMay what q ∧ ¬ bSetNo sc what q then sSetS sc what q else sc
def sCC : Crs := (0, 0, 0, 0, 0)
def sStory (sc : Scn) (t : Tal) (what : Int32) : Int32 := if what = 0 then sKick t sc.1 else if what = 1 then sDraw t else sHold t
def sIt (f : Crs → Crs) : Nat → Crs → Crs
  | 0, c => c
  | k + 1, c => f (sIt f k c)
abbrev sF (t : Tal) (sc : Scn) : Crs → Crs := sStep (sKick t sc.1) (sLess t sc.1) sc.1.2.2.2 sc.2.1
def zfold {σ : Type} (f : Nat → σ → σ) : Nat → σ → σ
  | 0, s => s
  | k + 1, s => f k (zfold f k s)
def zfind (P : Nat → Bool) : Nat → Nat → Int32
  | 0, _ => -4
  | f + 1, i => if P i then nI i else zfind P f (i + 1)
def sState (sc : Scn) (what : Int32) : Int32 := if what = 0 then sc.2.2.2.2.1 else if what = 1 then sc.2.2.2.2.2.1 else if what = 2 then sc.2.2.2.2.2.2.1 else if what = 3 then sc.2.2.2.2.2.2.2.1 else if what = 4 then sc.2.2.2.2.2.2.2.2 else if what = 5 then (if sc.2.1 ≤ sc.2.2.2.2.2.2.2.1 then 1 else 0) else -1
theorem sSet_no {sc : Scn} {what q : Int32} (h : ¬ bMay what q) : sSet sc what q = -1 ∧ sSetN sc what q = sc := ⟨if_neg h, if_neg (fun h2 => h h2.1)⟩
theorem sSet_now {sc : Scn} {what q : Int32} (h : bMay what q) (h2 : bSetNo sc what q) : sSet sc what q = -3 ∧ sSetN sc what q = sc := ⟨(if_pos h).trans (if_pos h2), if_neg (fun h3 => h3.2 h2)⟩
theorem sSet_ok {sc : Scn} {what q : Int32} (h : bMay what q) (h2 : ¬ bSetNo sc what q) : sSet sc what q = sCh sc what ∧ sSetN sc what q = sSetS sc what q := ⟨(if_pos h).trans (if_neg h2), if_pos ⟨h, h2⟩⟩
