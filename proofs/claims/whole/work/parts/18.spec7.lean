/-! ===== reading goes forward ===== -/
def PR (ch : Int32 → Int32) (Z : Int) : Prop := Z ≤ 100 ∧ ∀ a, 0 ≤ (ch a).toInt → 0 ≤ a.toInt ∧ a.toInt < Z
def Gq (Z : Int) (q : Int32 × Int32) : Prop := 0 ≤ q.1.toInt ∧ q.1.toInt ≤ Z
def Adv (Z : Int) (k : Int) (q q' : Int32 × Int32) : Prop := Gq Z q' ∧ (q'.2 = 0 → q.2 = 0 ∧ q.1.toInt + k ≤ q'.1.toInt)
theorem Adv.tr {Z j k : Int} {q q' q'' : Int32 × Int32} (h1 : Adv Z j q q') (h2 : Adv Z k q' q'') : Adv Z (j + k) q q'' :=
  ⟨h2.1, fun h => by have a := h2.2 h; have b := h1.2 a.1; exact ⟨b.1, by omega⟩⟩
theorem Adv.rf {Z : Int} {q : Int32 × Int32} (h : Gq Z q) : Adv Z 0 q q := ⟨h, fun h => ⟨h, by omega⟩⟩
section ADV
variable {ch : Int32 → Int32} {Z : Int} {g v : Int32} {q : Int32 × Int32} {u : Int32 × Int32 × Int32}
theorem adv_in (hP : PR ch Z) {a : Int32} (h : 0 ≤ (ch a).toInt) : (a + 1).toInt = a.toInt + 1 ∧ 0 ≤ a.toInt ∧ a.toInt + 1 ≤ Z := by
  have h1 := hP.2 a h
  have h2 := hP.1
  exact ⟨zadd (by simp; omega) (by simp; omega), h1.1, by omega⟩
theorem adv_acc (hP : PR ch Z) (hg : 0 ≤ g.toInt) (hq : Gq Z q) (h : bAcc ch g q) : Adv Z 1 q (q.1 + 1, q.2) := by
  have h1 := adv_in hP (a := q.1) (by rw [h.2]; exact hg)
  have h2 := h1.2
  exact ⟨⟨by show 0 ≤ (q.1 + 1).toInt; omega, by show (q.1 + 1).toInt ≤ Z; omega⟩, fun h3 => ⟨h3, by show _ ≤ (q.1 + 1).toInt; omega⟩⟩
theorem adv_dig (hP : PR ch Z) (h : bDig ch q.1) : Adv Z 1 q (q.1 + 1, q.2) := by
  have h0 := i32le.mp h.1
  have e : (48 : Int32).toInt = 48 := rfl
  have h1 := adv_in hP (a := q.1) (by omega)
  have h2 := h1.2
  exact ⟨⟨by show 0 ≤ (q.1 + 1).toInt; omega, by show (q.1 + 1).toInt ≤ Z; omega⟩, fun h3 => ⟨h3, by show _ ≤ (q.1 + 1).toInt; omega⟩⟩
theorem adv_broken {k : Int} (hq : Gq Z q) : Adv Z k q (q.1, 1) := ⟨hq, fun h => absurd (show (1 : Int32) = 0 from h) (by decide)⟩
theorem adv_sAcc (hP : PR ch Z) (hg : 0 ≤ g.toInt) (hq : Gq Z q) : Adv Z 0 q (sAcc ch g q) := by
  by_cases h : bAcc ch g q
  · rw [sAcc_pos h]; have a := adv_acc hP hg hq h; exact ⟨a.1, fun h3 => ⟨(a.2 h3).1, by have := (a.2 h3).2; omega⟩⟩
  · rw [sAcc_neg h]; exact Adv.rf hq
theorem adv_sNeed (hP : PR ch Z) (hg : 0 ≤ g.toInt) (hq : Gq Z q) : Adv Z 1 q (sNeed ch g q) := by
  by_cases h : bAcc ch g q
  · rw [sNeed_pos h, sAcc_pos h]; exact adv_acc hP hg hq h
  · rw [sNeed_neg h]; exact adv_broken hq
theorem adv_sDig (hP : PR ch Z) (hq : Gq Z q) : Adv Z 1 q (sDig ch q).2 := by
  by_cases h : q.2 = 0 ∧ bDig ch q.1
  · rw [sDig_pos h.1 h.2]; exact adv_dig hP h.2
  · rw [sDig_neg h]; exact adv_broken hq
theorem adv_sMore (hP : PR ch Z) (hq : Gq Z u.2) : Adv Z 0 u.2 (sMore ch u).2 := by
  by_cases h : u.2.2 = 0 ∧ 0 < u.1 ∧ bDig ch u.2.1
  · rw [sMore_pos h.1 h.2.1 h.2.2]
    have a := adv_sDig (q := u.2) hP hq
    exact ⟨a.1, fun h3 => ⟨(a.2 h3).1, by have := (a.2 h3).2; show _ ≤ (sDig ch u.2).2.1.toInt; omega⟩⟩
  · rw [sMore_neg h]; exact Adv.rf hq
theorem adv_sNum (hP : PR ch Z) (hq : Gq Z q) : Adv Z 1 q (sNum ch q).2 := by
  unfold sNum
  have a := adv_sDig (q := q) hP hq
  have b := adv_sMore (u := sDig ch q) hP a.1
  have c := adv_sMore (u := sMore ch (sDig ch q)) hP b.1
  exact (a.tr b).tr c
theorem adv_sOpt {b : Bool} (hP : PR ch Z) (hg : 0 ≤ g.toInt) (hq : Gq Z q) : Adv Z 0 q (sOpt ch g b v q).2 := by
  by_cases h : bAcc ch g q
  · have a := adv_sAcc (q := q) hP hg hq
    cases b
    · rw [sOpt_posD h]
      have c := adv_sDig (q := sAcc ch g q) hP a.1
      have d := a.tr c
      exact ⟨d.1, fun h3 => ⟨(d.2 h3).1, by have := (d.2 h3).2; omega⟩⟩
    · rw [sOpt_posN h]
      have c := adv_sNum (q := sAcc ch g q) hP a.1
      have d := a.tr c
      exact ⟨d.1, fun h3 => ⟨(d.2 h3).1, by have := (d.2 h3).2; omega⟩⟩
  · rw [sOpt_neg h]; exact Adv.rf hq
theorem adv_sStm {t : Stg} (hP : PR ch Z) (hq : Gq Z q) : Adv Z 3 q (sStm ch t q).2 := by
  have a := adv_sNeed (g := 114) (q := q) hP (by decide) hq
  have b := adv_sNum (q := sNeed ch 114 q) hP a.1
  have c := adv_sOpt (g := 98) (b := true) (v := t.2.1) (q := (sNum ch (sNeed ch 114 q)).2) hP (by decide) b.1
  have d := adv_sOpt (g := 108) (b := false) (v := t.2.2.1) hP (by decide) c.1
  have f := adv_sOpt (g := 100) (b := true) (v := t.2.2.2) hP (by decide) d.1
  have h := adv_sNeed (g := 59) hP (by decide) f.1
  have z := ((((a.tr b).tr c).tr d).tr f).tr h
  unfold sStm
  dsimp only
  exact ⟨z.1, fun h3 => ⟨(z.2 h3).1, by have := (z.2 h3).2; omega⟩⟩
end ADV
/-- place and broken behind j STATEMENTS; the j-th setting -/
def sU (ch : Int32 → Int32) (t : Stg) : Nat → Int32 × Int32
  | 0 => (0, 0)
  | j + 1 => (sStm ch t (sU ch t j)).2
def sTS (ch : Int32 → Int32) (t : Stg) (j : Nat) : Stg := (sStm ch t (sU ch t j)).1
theorem sU_G {ch : Int32 → Int32} {Z : Int} {t : Stg} (hZ : 0 ≤ Z) (hP : PR ch Z) : ∀ j, Gq Z (sU ch t j) ∧ ((sU ch t j).2 = 0 → 3 * (j : Int) ≤ (sU ch t j).1.toInt)
  | 0 => ⟨⟨by show (0 : Int) ≤ (0 : Int32).toInt; decide, by show (0 : Int32).toInt ≤ Z; exact hZ⟩, fun _ => by show 3 * ((0 : Nat) : Int) ≤ (0 : Int32).toInt; decide⟩
  | j + 1 => by
    have ih := sU_G (t := t) hZ hP j
    have a := adv_sStm (t := t) hP ih.1
    refine ⟨a.1, fun h => ?_⟩
    have b := a.2 h
    have c := ih.2 b.1
    have d := b.2
    show 3 * ((j + 1 : Nat) : Int) ≤ (sStm ch t (sU ch t j)).2.1.toInt
    omega
theorem sU_ok {ch : Int32 → Int32} {Z : Int} {t : Stg} (hZ : 0 ≤ Z) (hP : PR ch Z) {j : Nat} (h : (sU ch t (j + 1)).2 = 0) : (sU ch t j).2 = 0 := ((adv_sStm (t := t) hP (sU_G hZ hP j).1).2 h).1
/-- how many STATEMENTS are read -/
def Stop (ch : Int32 → Int32) (t : Stg) (z : Int32) (N : Nat) : Prop := 1 ≤ N ∧ (∀ i, 1 ≤ i → i < N → (sU ch t i).2 = 0 ∧ (sU ch t i).1 < z) ∧ (¬ (sU ch t N).2 = 0 ∨ z ≤ (sU ch t N).1)
theorem Stop_uniq {ch : Int32 → Int32} {t : Stg} {z : Int32} {N M : Nat} (h : Stop ch t z N) (h' : Stop ch t z M) : N = M := by
  have key : ∀ {N M : Nat}, Stop ch t z N → Stop ch t z M → ¬ N < M := by
    intro N M h h' hl
    have a := h'.2.1 N h.1 hl
    rcases h.2.2 with b | b
    · exact b a.1
    · exact absurd a.2 (Int32.not_lt.mpr b)
  have a := key h h'
  have b := key h' h
  omega
abbrev bOk (ch : Int32 → Int32) (t : Stg) (tc : Int32) (i : Nat) : Prop := bTold (sTS ch t i) ∧ 0 ≤ tc + nI i ∧ tc + nI i < 8
/-- the first that isn't as told (f, if all are) -/
def zfb (P : Nat → Prop) [DecidablePred P] : Nat → Nat → Nat
  | 0, i => i
  | f + 1, i => if P i then zfb P f (i + 1) else i
theorem zfb_all {P : Nat → Prop} [DecidablePred P] : ∀ (f i : Nat), (∀ j, i ≤ j → j < i + f → P j) → zfb P f i = i + f
  | 0, i, _ => rfl
  | f + 1, i, h => by
    show (if P i then zfb P f (i + 1) else i) = _
    rw [if_pos (h i (Nat.le_refl i) (by omega)), zfb_all f (i + 1) (fun j h1 h2 => h j (by omega) (by omega))]
    omega
theorem zfb_at {P : Nat → Prop} [DecidablePred P] : ∀ (f i k : Nat), i ≤ k → k < i + f → (∀ j, i ≤ j → j < k → P j) → ¬ P k → zfb P f i = k
  | 0, i, k, h1, h2, _, _ => absurd h2 (by omega)
  | f + 1, i, k, h1, h2, h3, h4 => by
    show (if P i then zfb P f (i + 1) else i) = _
    by_cases e : i = k
    · subst e; rw [if_neg h4]
    · rw [if_pos (h3 i (Nat.le_refl i) (by omega))]
      exact zfb_at f (i + 1) k (by omega) (by omega) (fun j h5 h6 => h3 j (by omega) h6) h4
def sTRes (ch : Int32 → Int32) (t : Stg) (tc : Int32) (N : Nat) : Int32 :=
  if (sU ch t N).2 = 0 then (if zfb (bOk ch t tc) N 0 = N then nI N else -2000 - (sU ch t (zfb (bOk ch t tc) N 0)).1) else -1000 - (sU ch t N).1
abbrev bTGood (ch : Int32 → Int32) (t : Stg) (tc : Int32) (N : Nat) : Prop := (sU ch t N).2 = 0 ∧ zfb (bOk ch t tc) N 0 = N
theorem sNext_PR {f : Nat → Int32} {zn : Nat} (hz : zn ≤ 100) : PR (sNext f (nI zn)) (zn : Int) := by
  refine ⟨by omega, fun a h => ?_⟩
  unfold sNext at h
  by_cases c : 0 ≤ a ∧ a < nI zn ∧ a < 100
  · have h1 := i32le.mp c.1
    have h2 := i32lt.mp c.2.1
    rw [nI_toInt (by omega)] at h2
    exact ⟨h1, h2⟩
  · rw [if_neg c] at h
    exact absurd h (by decide)
theorem sNext_zcop {el g : Nat → Int32} {zn : Nat} (hz : zn ≤ 100) : sNext (zcop el g zn) (nI zn) = sNext el (nI zn) := by
  funext a
  unfold sNext
  by_cases c : 0 ≤ a ∧ a < nI zn ∧ a < 100
  · rw [if_pos c, if_pos c]
    have h1 := i32le.mp c.1
    have h2 := i32lt.mp c.2.1
    rw [nI_toInt (by omega)] at h2
    have h3 := (iN_e (i := a) h1).2
    have h4 : iN a < zn := by omega
    simp [zcop, h4]
  · rw [if_neg c, if_neg c]
theorem gS_of {b : Stg} (h : bTold b) : gS b := by
  obtain ⟨⟨h1, h2⟩, ⟨h3, h4⟩, ⟨h5, h6⟩, ⟨h7, h8⟩⟩ := h
  have a1 := i32le.mp h1
  have a2 := i32le.mp h2
  have a3 := i32le.mp h3
  have a4 := i32le.mp h4
  have a5 := i32le.mp h5
  have a6 := i32le.mp h6
  have a7 := i32le.mp h7
  have a8 := i32le.mp h8
  exact ⟨a1, a2, a3, a4, a5, a6, a7, a8⟩
section RXR
variable {ad cy : Nat → Nat} {F F1 : Nat → va_E} {pic : Int32} {sc ps : Scn} {sh : Nat → Shf} {rd : Rdr} {dr : Stg} {fa : Tal} {mi : Crs}
theorem rx_open {z : Int32} {f : Nat → Int32} (h : RX ad cy F pic sc ps sh rd dr fa mi) (hp : F1 50 = oReader ad 50 z 0 0 ∧ F1 (50 + 1) = oInts cy 100 f ∧ ∀ q, ¬ (50 ≤ q ∧ q < 50 + 2) → F1 q = F q) : RX ad cy F1 pic sc ps sh (f, z, 0, 0) dr fa mi :=
  rx_reader (rd' := (f, z, 0, 0)) h ⟨hp.1, hp.2.1⟩ hp.2.2
theorem rx_stm {u : Int32 × Int32} {t : Stg} (h : RX ad cy F pic sc ps sh rd dr fa mi) (hp : F1 50 = oReader ad 50 rd.2.1 u.1 u.2 ∧ F1 52 = oSetting t ∧ ∀ p, p ≠ 50 → p ≠ 52 → F1 p = F p) : RX ad cy F1 pic sc ps sh (rd.1, rd.2.1, u.1, u.2) t fa mi := by
  obtain ⟨h1, h2, h3, h4, h5, h6, h7, h8, h9, h10⟩ := h
  obtain ⟨p1, p2, p3⟩ := hp
  exact ⟨(p3 _ (by omega) (by omega)).trans h1, RS_fr h2 (fun q _ _ => p3 q (by omega) (by omega)), RS_fr h3 (fun q _ _ => p3 q (by omega) (by omega)), (p3 _ (by omega) (by omega)).trans h4, fun i hi => RSh_fr (h5 i hi) (fun q _ _ => p3 q (by omega) (by omega)), ⟨p1, (p3 _ (by omega) (by omega)).trans h6.2⟩, p2, (p3 _ (by omega) (by omega)).trans h8, (p3 _ (by omega) (by omega)).trans h9, (p3 _ (by omega) (by omega)).trans h10⟩
end RXR
