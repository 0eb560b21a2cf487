/-! ===== the reference: cells 56 to 67 ===== -/
abbrev oModel (ad : Nat → Nat) (b : Stg) (ln tc : Int32) (co : Crs) (th bs en : Int32) (u : Int32 × Int32) (st kk dw ho : Int32) (sv : Crs) (pic ia tk : Int32) : va_E :=
  .inr (7, [.int b.1, .int b.2.1, .int b.2.2.1, .int ln, .int b.2.2.2, .int tc, .ref (ad 57), .int co.1, .int co.2.1, .int co.2.2.1, .int co.2.2.2.1, .int co.2.2.2.2, .int th, .int bs, .int en, .int u.1, .int u.2, .int st, .ref (ad 58), .ref (ad 59), .int kk, .int dw, .int ho, .int sv.1, .int sv.2.1, .int sv.2.2.1, .int sv.2.2.2.1, .int sv.2.2.2.2, .int pic, .ref (ad 60), .int ia, .int tk, .ref (ad 61), .ref (ad 62), .ref (ad 63), .ref (ad 64), .ref (ad 65), .ref (ad 66), .ref (ad 67)])
def frM (F F1 : Nat → va_E) : Prop := ∀ q, (q < 56 ∨ 68 ≤ q) → F1 q = F q
theorem frM_rf {F : Nat → va_E} : frM F F := fun _ _ => rfl
theorem frM_up {F F0 F1 : Nat → va_E} {k : Nat} {E : va_E} (h0 : frM F0 F) (h : F1 = va_up F k E) (h1 : 56 ≤ k) (h2 : k < 68) : frM F0 F1 := fun q hq => (znu h (by omega)).trans (h0 q hq)
theorem frM_tr {F F1 F2 : Nat → va_E} (h1 : frM F F1) (h2 : frM F1 F2) : frM F F2 := fun q hq => (h2 q hq).trans (h1 q hq)
def rT (told : Nat → Int32) (i : Nat) (s : Stg) : Prop := told (4 * i) = s.1 ∧ told (4 * i + 1) = s.2.1 ∧ told (4 * i + 2) = s.2.2.1 ∧ told (4 * i + 3) = s.2.2.2
def rS (s : Shf) (h k f so m : Int32) (r : Nat → Int64) : Prop := h = s.1 ∧ (s.1 = 1 → s.2.1 = (k, f)) ∧ (s.1 = 2 → so = s.2.2.1 ∧ m = s.2.2.2.1 ∧ ∀ i, i < 100 → r i = (s.2.2.2.2 i).toInt64)
def rI (im : Nat → Int32) (ps : Scn) : Prop := im 0 = ps.1.1 ∧ im 1 = ps.1.2.1 ∧ im 2 = ps.1.2.2.1 ∧ im 3 = ps.2.1 ∧ im 4 = ps.1.2.2.2 ∧ im 5 = ps.2.2.2.1 ∧ im 6 = ps.2.2.2.2.1 ∧ im 7 = ps.2.2.2.2.2.1 ∧ im 8 = ps.2.2.2.2.2.2.1 ∧ im 9 = ps.2.2.2.2.2.2.2.1 ∧ im 10 = ps.2.2.2.2.2.2.2.2 ∧ ∀ i, i < iN ps.2.2.2.1 → rT (fun k => im (11 + k)) i (ps.2.2.1 i)
def rX (told im hw kd fg so mn : Nat → Int32) (rw0 : Nat → Int64) (pic : Int32) (sc ps : Scn) (sh : Nat → Shf) : Prop :=
  (∀ i, i < iN sc.2.2.2.1 → rT told i (sc.2.2.1 i)) ∧ (¬ pic = 0 → rI im ps) ∧ ∀ d, d < 8 → rS (sh d) (hw d) (kd d) (fg d) (so d) (mn d) (fun i => rw0 (100 * d + i))
def RM (ad cy : Nat → Nat) (F : Nat → va_E) (th pic : Int32) (sc ps : Scn) (sh : Nat → Shf) : Prop :=
  ∃ (bs en : Int32) (u : Int32 × Int32) (st kk dw ho : Int32) (sv : Crs) (ia tk : Int32) (told pl nu im hw kd fg so mn : Nat → Int32) (rw0 bt : Nat → Int64),
    F 56 = oModel ad sc.1 sc.2.1 sc.2.2.2.1 sc.2.2.2.2 th bs en u st kk dw ho sv pic ia tk ∧ F 57 = oInts cy 32 told ∧ F 58 = oInts cy 50 pl ∧ F 59 = oInts cy 200 nu ∧ F 60 = oInts cy 43 im ∧ F 61 = oInts cy 8 hw ∧ F 62 = oInts cy 8 kd ∧ F 63 = oInts cy 8 fg ∧ F 64 = oInts cy 8 so ∧ F 65 = oInts cy 8 mn ∧ F 66 = oLongs cy 800 rw0 ∧ F 67 = oLongs cy 100 bt ∧
    rX told im hw kd fg so mn rw0 pic sc ps sh
/-! ===== longs out of ints ===== -/
abbrev bInL (v lo hi : Int64) : Prop := lo ≤ v ∧ v ≤ hi
theorem l64le {x y : Int32} : x.toInt64 ≤ y.toInt64 ↔ x ≤ y := by
  rw [Int64.le_iff_toInt_le, Int32.le_iff_toInt_le, Int32.toInt_toInt64, Int32.toInt_toInt64]
theorem bInL_iff {v lo hi : Int32} {L H : Int64} (hL : L = lo.toInt64) (hH : H = hi.toInt64) : bInL v.toInt64 L H ↔ bIn v lo hi := by
  subst hL; subst hH
  exact and_congr l64le l64le
theorem l64eq {x y : Int32} : x.toInt64 = y.toInt64 ↔ x = y := by
  constructor
  · intro h
    have := congrArg Int64.toInt h
    rw [Int32.toInt_toInt64, Int32.toInt_toInt64] at this
    exact Int32.toInt_inj.mp this
  · intro h; rw [h]
theorem l64to (x : Int32) : x.toInt64.toInt32 = x := lg_l2i_i2l x
/-! ===== reading in the reference ===== -/
def mch (rw0 : Nat → Int64) (x0 zn : Nat) : Int32 → Int32 := fun a => if 0 ≤ a ∧ a < nI zn then (rw0 (x0 + iN a)).toInt32 &&& 255 else -1
theorem and255 (v : Int32) : 0 ≤ (v &&& 255).toInt := by
  obtain ⟨j, hj, e⟩ := pk_andE v (m := 255) 8 (by decide)
  rw [e, nI_toInt (by omega)]
  omega
theorem mch_PR {rw0 : Nat → Int64} {x0 zn : Nat} (hz : zn ≤ 100) : PR (mch rw0 x0 zn) (zn : Int) := by
  refine ⟨by omega, fun a h => ?_⟩
  unfold mch at h
  by_cases c : 0 ≤ a ∧ a < nI zn
  · have h1 := i32le.mp c.1
    have h2 := i32lt.mp c.2
    rw [nI_toInt (by omega)] at h2
    exact ⟨h1, h2⟩
  · rw [if_neg c] at h
    exact absurd h (by decide)
theorem mch_end {rw0 : Nat → Int64} {x0 zn : Nat} {a : Int32} (h : nI zn ≤ a) : mch rw0 x0 zn a = -1 := if_neg (fun q => absurd q.2 (Int32.not_lt.mpr h))
theorem mch_in {rw0 : Nat → Int64} {x0 zn : Nat} {a : Int32} (h0 : 0 ≤ a.toInt) (h : ¬ nI zn ≤ a) : mch rw0 x0 zn a = (rw0 (x0 + iN a)).toInt32 &&& 255 := if_pos ⟨i32le.mpr h0, Int32.not_le.mp h⟩
theorem mch_ix {x0 zn : Nat} {a : Int32} (hz : zn ≤ 100) (hx : x0 + 100 ≤ 800) (h0 : 0 ≤ a.toInt) (h : ¬ nI zn ≤ a) : nI x0 + a = nI (x0 + iN a) ∧ x0 + iN a < 800 := by
  have e := iN_e h0
  have h2 := i32lt.mp (Int32.not_le.mp h)
  rw [nI_toInt (by omega)] at h2
  refine ⟨?_, by omega⟩
  conv => lhs; rw [e.1]
  exact nI_add _ _
theorem byte255 : ∀ k : Fin 256, (Int32.ofInt ((k.val : Int) - 128) &&& 255).toInt = if (k.val : Int) < 128 then (k.val : Int) + 128 else (k.val : Int) - 128 := by decide +kernel
theorem byte_and {v : Int32} (h1 : -128 ≤ v.toInt) (h2 : v.toInt ≤ 127) : (v &&& 255).toInt = if v.toInt < 0 then v.toInt + 256 else v.toInt := by
  have e : v = Int32.ofInt (((v.toInt + 128).toNat : Int) - 128) := by
    apply Int32.toInt_inj.mp
    rw [Int32.toInt_ofInt]
    have : (((v.toInt + 128).toNat : Int) - 128) = v.toInt := by omega
    rw [this]
    exact (Int.bmod_eq_of_le (by have := Int32.le_toInt v; simp; omega) (by have := Int32.toInt_lt v; simp; omega)).symm
  have b := byte255 ⟨(v.toInt + 128).toNat, by omega⟩
  dsimp only at b
  rw [← e] at b
  rw [b]
  have : ((v.toInt + 128).toNat : Int) = v.toInt + 128 := by omega
  rw [this]
  split <;> split <;> omega
/-- two readers of bytes that read alike -/
def chE (ch ch' : Int32 → Int32) : Prop := ∀ a, (∀ g : Int32, 0 ≤ g.toInt → g.toInt ≤ 127 → (ch a = g ↔ ch' a = g))
section CHE
variable {ch ch' : Int32 → Int32} {g v : Int32} {q : Int32 × Int32} {u : Int32 × Int32 × Int32} {t : Stg}
theorem chE_dig (h : chE ch ch') {a : Int32} (hd : bDig ch a) : ch a = ch' a := by
  have h1 := i32le.mp hd.1
  have h2 := i32le.mp hd.2
  have e1 : (48 : Int32).toInt = 48 := rfl
  have e2 : (57 : Int32).toInt = 57 := rfl
  exact ((h a (ch a) (by omega) (by omega)).mp rfl).symm
theorem chE.symm (h : chE ch ch') : chE ch' ch := fun a g h1 h2 => (h a g h1 h2).symm
theorem chE_bDig (h : chE ch ch') {a : Int32} : bDig ch a ↔ bDig ch' a := by
  constructor
  · intro hd; have e := chE_dig h hd; exact ⟨by rw [← e]; exact hd.1, by rw [← e]; exact hd.2⟩
  · intro hd; have e := chE_dig h.symm hd; exact ⟨by rw [← e]; exact hd.1, by rw [← e]; exact hd.2⟩
theorem chE_bAcc (h : chE ch ch') (h0 : 0 ≤ g.toInt) (h1 : g.toInt ≤ 127) : bAcc ch g q ↔ bAcc ch' g q := and_congr Iff.rfl (h q.1 g h0 h1)
theorem chE_sAcc (h : chE ch ch') (h0 : 0 ≤ g.toInt) (h1 : g.toInt ≤ 127) : sAcc ch g q = sAcc ch' g q := by
  by_cases c : bAcc ch g q
  · rw [sAcc_pos c, sAcc_pos ((chE_bAcc h h0 h1).mp c)]
  · rw [sAcc_neg c, sAcc_neg (fun c' => c ((chE_bAcc h h0 h1).mpr c'))]
theorem chE_sNeed (h : chE ch ch') (h0 : 0 ≤ g.toInt) (h1 : g.toInt ≤ 127) : sNeed ch g q = sNeed ch' g q := by
  by_cases c : bAcc ch g q
  · rw [sNeed_pos c, sNeed_pos ((chE_bAcc h h0 h1).mp c), chE_sAcc h h0 h1]
  · rw [sNeed_neg c, sNeed_neg (fun c' => c ((chE_bAcc h h0 h1).mpr c'))]
theorem chE_sDig (h : chE ch ch') : sDig ch q = sDig ch' q := by
  by_cases c : q.2 = 0 ∧ bDig ch q.1
  · rw [sDig_pos c.1 c.2, sDig_pos c.1 ((chE_bDig h).mp c.2), chE_dig h c.2]
  · rw [sDig_neg c, sDig_neg (fun c' => c ⟨c'.1, (chE_bDig h).mpr c'.2⟩)]
theorem chE_sMore (h : chE ch ch') : sMore ch u = sMore ch' u := by
  by_cases c : u.2.2 = 0 ∧ 0 < u.1 ∧ bDig ch u.2.1
  · rw [sMore_pos c.1 c.2.1 c.2.2, sMore_pos c.1 c.2.1 ((chE_bDig h).mp c.2.2), chE_sDig h]
  · rw [sMore_neg c, sMore_neg (fun c' => c ⟨c'.1, c'.2.1, (chE_bDig h).mpr c'.2.2⟩)]
theorem chE_sNum (h : chE ch ch') : sNum ch q = sNum ch' q := by
  unfold sNum; rw [chE_sDig h, chE_sMore h, chE_sMore h]
theorem chE_sOpt {b : Bool} (h : chE ch ch') (h0 : 0 ≤ g.toInt) (h1 : g.toInt ≤ 127) : sOpt ch g b v q = sOpt ch' g b v q := by
  by_cases c : bAcc ch g q
  · have c' := (chE_bAcc h h0 h1).mp c
    cases b
    · rw [sOpt_posD c, sOpt_posD c', chE_sAcc h h0 h1, chE_sDig h]
    · rw [sOpt_posN c, sOpt_posN c', chE_sAcc h h0 h1, chE_sNum h]
  · rw [sOpt_neg c, sOpt_neg (fun c' => c ((chE_bAcc h h0 h1).mpr c'))]
theorem chE_sStm (h : chE ch ch') : sStm ch t q = sStm ch' t q := by
  unfold sStm
  dsimp only
  rw [chE_sNeed (g := 114) h (by decide) (by decide), chE_sNum h, chE_sOpt (g := 98) h (by decide) (by decide), chE_sOpt (g := 108) h (by decide) (by decide), chE_sOpt (g := 100) h (by decide) (by decide), chE_sNeed (g := 59) h (by decide) (by decide)]
theorem chE_sU (h : chE ch ch') : ∀ j, sU ch t j = sU ch' t j
  | 0 => rfl
  | j + 1 => by
    show (sStm ch t (sU ch t j)).2 = (sStm ch' t (sU ch' t j)).2
    rw [chE_sU h j, chE_sStm h]
theorem chE_sTS (h : chE ch ch') (j : Nat) : sTS ch t j = sTS ch' t j := by unfold sTS; rw [chE_sU h, chE_sStm h]
end CHE
theorem mch_E {rw0 : Nat → Int64} {x0 zn : Nat} {el : Nat → Int32} (hz : zn ≤ 100) (hr : ∀ i, i < 100 → rw0 (x0 + i) = (el i).toInt64) (hb : ∀ i, i < 100 → -128 ≤ (el i).toInt ∧ (el i).toInt ≤ 127) : chE (sNext el (nI zn)) (mch rw0 x0 zn) := by
  intro a g h0 h1
  unfold sNext mch
  by_cases c : 0 ≤ a ∧ a < nI zn
  · have e1 := i32le.mp c.1
    have e2 := i32lt.mp c.2
    rw [nI_toInt (by omega)] at e2
    have e3 := (iN_e (i := a) e1).2
    have e4 : iN a < 100 := by omega
    have e5 : a < 100 := i32lt.mpr (by show a.toInt < 100; omega)
    rw [if_pos ⟨c.1, c.2, e5⟩, if_pos c, hr _ e4, l64to]
    have b := hb _ e4
    have d := byte_and b.1 b.2
    rw [← Int32.toInt_inj, ← Int32.toInt_inj, d]
    split <;> omega
  · rw [if_neg (fun q => c ⟨q.1, q.2.1⟩), if_neg c]
    constructor
    · intro e; rw [← e] at h0; exact absurd h0 (by decide)
    · intro e; rw [← e] at h0; exact absurd h0 (by decide)
def mStR (hw : Nat → Int32) (d : Int32) : Int32 := if bSh d then (if hw (iN d) = 0 then -11 else if hw (iN d) = 1 then 0 else -12) else -1
def mRowR (hw : Nat → Int32) (d : Int32) : Int32 := if bSh d then (if hw (iN d) = 0 then -11 else if hw (iN d) = 2 then 0 else -12) else -1
theorem mStR_eq {hw : Nat → Int32} {sh : Nat → Shf} (h : ∀ d, d < 8 → hw d = (sh d).1) (d : Int32) : mStR hw d = sStR sh d := by
  unfold mStR sStR
  by_cases c : bSh d
  · rw [if_pos c, if_pos c, h _ (bSh_i c).2]
  · rw [if_neg c, if_neg c]
theorem mRowR_eq {hw : Nat → Int32} {sh : Nat → Shf} (h : ∀ d, d < 8 → hw d = (sh d).1) (d : Int32) : mRowR hw d = sRowR sh d := by
  unfold mRowR sRowR
  by_cases c : bSh d
  · rw [if_pos c, if_pos c, h _ (bSh_i c).2]
  · rw [if_neg c, if_neg c]
theorem rX_hw {told im hw kd fg so mn : Nat → Int32} {rw0 : Nat → Int64} {pic : Int32} {sc ps : Scn} {sh : Nat → Shf} (h : rX told im hw kd fg so mn rw0 pic sc ps sh) : ∀ d, d < 8 → hw d = (sh d).1 := fun d hd => (h.2.2 d hd).1
section RDM
variable {ch : Int32 → Int32} {g : Int32} {q : Int32 × Int32}
theorem sNeed_bad (h : ¬ (sNeed ch g q).2 = 0) : (sNeed ch g q).2 = 1 := by
  by_cases c : bAcc ch g q
  · rw [sNeed_pos c, sAcc_pos c] at h; exact absurd c.1 h
  · rw [sNeed_neg c]
theorem sNum_bad (h : ¬ q.2 = 0) : sNum ch q = (0, q.1, 1) := by
  unfold sNum
  rw [sDig_neg (fun c => h c.1), sMore_neg (fun c => absurd (show (1 : Int32) = 0 from c.1) (by decide)), sMore_neg (fun c => absurd (show (1 : Int32) = 0 from c.1) (by decide))]
theorem byte_dig {v : Int32} (h1 : -128 ≤ v.toInt ∧ v.toInt ≤ 127) (h : 48 ≤ v &&& 255 ∧ v &&& 255 ≤ 57) : v &&& 255 = v := by
  have a := byte_and h1.1 h1.2
  have b := i32le.mp h.1
  have c := i32le.mp h.2
  have e1 : (48 : Int32).toInt = 48 := rfl
  have e2 : (57 : Int32).toInt = 57 := rfl
  apply Int32.toInt_inj.mp
  rw [a]
  split
  · rw [a, if_pos (by assumption)] at b c; omega
  · rfl
theorem bDig_lt {rw0 : Nat → Int64} {x0 zn : Nat} {a : Int32} (h : bDig (mch rw0 x0 zn) a) : ¬ nI zn ≤ a := by
  intro q
  have h1 := h.1
  rw [mch_end q] at h1
  exact absurd h1 (by decide)
theorem mch_dig {rw0 : Nat → Int64} {x0 zn : Nat} {a : Int32} (h0 : 0 ≤ a.toInt) (hb : ∀ i, i < 100 → -128 ≤ (rw0 (x0 + i)).toInt32.toInt ∧ (rw0 (x0 + i)).toInt32.toInt ≤ 127) (hz : zn ≤ 100) (h : bDig (mch rw0 x0 zn) a) : mch rw0 x0 zn a = (rw0 (x0 + iN a)).toInt32 := by
  have hl := bDig_lt h
  have e := mch_in (rw0 := rw0) (x0 := x0) h0 hl
  have e2 := iN_e h0
  have h2 := i32lt.mp (Int32.not_le.mp hl)
  rw [nI_toInt (by omega)] at h2
  rw [e]
  refine byte_dig (hb _ (by omega)) ⟨?_, ?_⟩
  · rw [← e]; exact h.1
  · rw [← e]; exact h.2
end RDM
