section ZAB
variable {p : Program} {l : Launch} {e : Env} {R : Room} {s : State} {m : MethodId} {args : Array Value} {below : List Frame} {meth : Method} {c : Code} {H : Heap} {locs : List Loc} {cells slots : Nat} {Q : State → Prop}
variable {cc : ByteArray} {nL pc : Nat} {ls : Array Slot} {rest : List Value} {D : va_G} {cy : Nat → Nat} {own : String}
theorem zabsl (hC : zC p m c cc nL s args own D cy) {index : Nat} (hm : zMath own index Lib.MathLoose.abs_long.x Lib.MathLoose.abs_long.code 2 (some .long)) (hsize : ls.size = nL) (hR : zRj R 0) (hW : (rest.map fun v => v.category).sum ≤ 8) (hf : cells ≤ R.cells ∧ slots ≤ R.slots) {x : Int64} (hd : decode cc pc = .ok (.invokestatic index, 3))
    (kk : W p l e R s m args below meth c H locs cells slots Q (F0 m (pc + 3) ls (.long (if 0 < x then x else -x) :: rest))) : W p l e R s m args below meth c H locs cells slots Q (F0 m pc ls (.long x :: rest)) := by
  obtain ⟨⟨hx0, hb, hml, hown, hts⟩, hK, hNN⟩ := hC
  exact va_mabs_long hx0 hb (by rw [hml, hsize]) hown (hts _ hm.1) (hts _ hm.2.1) (hts _ hm.2.2.1) (hts _ hm.2.2.2) (by have := hR.1; omega) (by have := hR.2; omega) hf.1 hf.2 hd kk
end ZAB
abbrev bRun (d q : Int32) : Prop := bSh d ∧ bIn q 1 500
def sRunC (sc : Scn) (sh : Nat → Shf) (d q : Int32) : Crs := sIt (sF (sh (iN d)).2.1 sc) (iN q) sc.2.2.2.2
def sRun (sc : Scn) (sh : Nat → Shf) (d q : Int32) : Int32 := if bRun d q then (if sc.2.2.2.2.1 + q ≤ 9999 then (if sStR sh d = 0 then (sRunC sc sh d q).1 else sStR sh d) else -2) else -1
def sRunS (sc : Scn) (sh : Nat → Shf) (d q : Int32) : Scn := if bRun d q ∧ sc.2.2.2.2.1 + q ≤ 9999 ∧ sStR sh d = 0 then (sc.1, sc.2.1, sc.2.2.1, sc.2.2.2.1, sRunC sc sh d q) else sc
def sAbs (x : Int32) : Int32 := if 0 ≤ x then x else 0 - x
def sUnl (t u : Tal) (b : Stg) : Int32 := if sArchAt t b 0 < 0 ∨ sArchAt u b 0 < 0 then -4 else sAbs (sArchAt t b 0 - sArchAt u b 0)
def sPartF (t u : Tal) (tr : Nat → Stg) : Nat → Int32 × Int32 → Int32 × Int32 := fun i p => if p.1 < sUnl t u (tr i) then (sUnl t u (tr i), nI i) else p
def sParts (t u : Tal) (sc : Scn) (what : Int32) : Int32 := if what = 0 then (zfold (sPartF t u sc.2.2.1) (iN sc.2.2.2.1) (-4, -4)).2 else (zfold (sPartF t u sc.2.2.1) (iN sc.2.2.2.1) (-4, -4)).1
def lAbs (x : Int64) : Int64 := if 0 < x then x else -x
abbrev bNear (told seen off : Int32) : Prop := 0 ≤ told ∧ lAbs (told.toInt64 - seen.toInt64) ≤ off.toInt64
abbrev bFit (t : Tal) (so z : Int32) (el : Nat → Int32) (tr : Nat → Stg) (off : Int32) (i : Nat) : Prop := ¬ (bTells so z el (nI i) ∧ ¬ bNear (sArchAt t (tr i) 0) (sAt z el (nI i)) off)
abbrev bFits (t : Tal) (sf : Shf) (sc : Scn) (off : Int32) : Prop := ∀ i, i < iN sc.2.2.2.1 → bFit t sf.2.2.1 sf.2.2.2.1 sf.2.2.2.2 sc.2.2.1 off i
def sFilmR (sc : Scn) (sh : Nat → Shf) (d : Int32) : Int32 := if sRowR sh d = 0 then (if (sh (iN d)).2.2.2.1 = sc.2.2.2.1 then 0 else -13) else sRowR sh d
theorem sFilmR_0 {sc : Scn} {sh : Nat → Shf} {d : Int32} (h : sFilmR sc sh d = 0) : (d = nI (iN d) ∧ iN d < 8) ∧ (sh (iN d)).1 = 2 := by
  unfold sFilmR at h
  by_cases h1 : sRowR sh d = 0
  · exact sRowR_0 h1
  · rw [if_neg h1] at h; exact absurd h h1
def sFilmF (sc : Scn) (sf : Shf) (fg off : Int32) : Nat → Int32 → Int32 := fun k b => if bFits (nI k, fg) sf sc off then b ||| (1 <<< (nI k &&& 31)) else b
def sNumF (sc : Scn) (sf : Shf) (kd off : Int32) : Nat → Int32 × Int32 × Int32 → Int32 × Int32 × Int32 := fun i p => if bFits (kd, nI i) sf sc off then ((if p.2.2 = 0 then nI i else p.1), nI i, p.2.2 + 1) else p
def sNumbers (sc : Scn) (sf : Shf) (kd off what : Int32) : Int32 := if what = 2 then (zfold (sNumF sc sf kd off) 41 (-4, -4, 0)).2.2 else if what = 0 then (zfold (sNumF sc sf kd off) 41 (-4, -4, 0)).1 else (zfold (sNumF sc sf kd off) 41 (-4, -4, 0)).2.1
def sMostB (b : Stg) (k : Nat) : Stg := (nI (10 * (k / 11)), nI (10 * (k % 11)), b.2.2)
def sMostF (t : Tal) (b : Stg) : Nat → Int32 × Int32 → Int32 × Int32 := fun k p => if p.1 < sArchAt t (sMostB b k) 0 then (sArchAt t (sMostB b k) 0, nI (10 * (k / 11)) * 1000 + nI (10 * (k % 11))) else p
def sMost (t : Tal) (b : Stg) : Int32 := (zfold (sMostF t b) 121 (-4, -4)).2
def sLayB (b : Stg) (k : Nat) : Stg := (b.1, b.2.1, nI k, b.2.2.2)
def sLayF (t : Tal) (b : Stg) : Nat → Int32 × Int32 → Int32 × Int32 := fun k p => if p.1 < sArchAt t (sLayB b k) 0 then (sArchAt t (sLayB b k) 0, nI k) else p
def sLays (t : Tal) (b : Stg) : Int32 := (zfold (sLayF t b) 3 (-4, -4)).2
abbrev sFM (t : Tal) (sc : Scn) (more : Int32) : Crs → Crs := sStep (sKick t sc.1) (sLess t sc.1 - more) sc.1.2.2.2 sc.2.1
def sPB (t : Tal) (sc : Scn) (more : Int32) (q : Nat) : Crs := sIt (sFM t sc more) q sCC
def zrA (b : Prop) [Decidable b] (rf v : Int32) : Int32 := if b then (if rf = 0 then v else -1000000000 + rf) else -1000000000 + -1
theorem zrA_no {b : Prop} [Decidable b] {rf v : Int32} (h : ¬ b) : zrA b rf v = -1000000000 + -1 := if_neg h
theorem zrA_rf {b : Prop} [Decidable b] {rf v : Int32} (h : b) (h2 : ¬ rf = 0) : zrA b rf v = -1000000000 + rf := (if_pos h).trans (if_neg h2)
theorem zrA_ok {b : Prop} [Decidable b] {rf v : Int32} (h : b) (h2 : rf = 0) : zrA b rf v = v := (if_pos h).trans (if_pos h2)
def sRestP (t : Tal) (sc : Scn) (k : Nat) : Bool := decide ((sIt (sF t sc) (k + 1) sCC).2.1 = (sIt (sF t sc) k sCC).2.1 ∧ (sIt (sF t sc) (k + 1) sCC).2.2.1 = (sIt (sF t sc) k sCC).2.2.1)
def sRested (t : Tal) (sc : Scn) : Int32 := zfind (sRestP t sc) 500 1
def sWhenP (t : Tal) (sc : Scn) (k : Nat) : Bool := decide (sc.2.1 ≤ (sIt (sF t sc) k sCC).2.2.2.1)
def sWhen (t : Tal) (sc : Scn) : Int32 := zfind (sWhenP t sc) 2000 1
def sJudP (t : Tal) (sc : Scn) (sf : Shf) (i : Nat) : Bool := decide (bTells sf.2.2.1 sf.2.2.2.1 sf.2.2.2.2 (nI i) ∧ ¬ sAt sf.2.2.2.1 sf.2.2.2.2 (nI i) = (sIt (sF t sc) (i + 1) sCC).2.1)
def sJudge (t : Tal) (sc : Scn) (sf : Shf) : Int32 := zfind (sJudP t sc sf) (iN sf.2.2.2.1) 0
def sScale (t : Tal) (sc : Scn) (q : Int32) : Int32 := (sc.2.1 - (sPB t sc 0 (iN q)).2.2.2.1) * 2 + (sPB t sc 0 (iN q)).2.1 * (sPB t sc 0 (iN q)).2.1 * sKick t sc.1 / 10000
theorem zfind_hit {P : Nat → Bool} {f g i : Nat} (hf : g = f + 1) (h : P i = true) : zfind P g i = nI i := by subst hf; exact if_pos h
theorem zfind_next {P : Nat → Bool} {f g i : Nat} (hf : g = f + 1) (h : ¬ P i = true) : zfind P g i = zfind P f (i + 1) := by subst hf; exact if_neg h
theorem gTn {k : Nat} {f : Int32} (hk : k ≤ 7) (hf : bIn f 0 40) : gT (nI k, f) := by
  have a := i32le.mp hf.1
  have b := i32le.mp hf.2
  have e0 : (0 : Int32).toInt = 0 := rfl
  have e4 : (40 : Int32).toInt = 40 := rfl
  refine ⟨?_, ?_, ?_, ?_⟩
  · show 0 ≤ (nI k).toInt; rw [nI_toInt (by omega)]; omega
  · show (nI k).toInt ≤ 7; rw [nI_toInt (by omega)]; omega
  · show 0 ≤ f.toInt; omega
  · show f.toInt ≤ 40; omega
theorem gTm {i : Nat} {kd : Int32} (hi : i ≤ 40) (hk : bIn kd 0 7) : gT (kd, nI i) := by
  have a := i32le.mp hk.1
  have b := i32le.mp hk.2
  have e0 : (0 : Int32).toInt = 0 := rfl
  have e4 : (7 : Int32).toInt = 7 := rfl
  refine ⟨?_, ?_, ?_, ?_⟩
  · show 0 ≤ kd.toInt; omega
  · show kd.toInt ≤ 7; omega
  · show 0 ≤ (nI i).toInt; rw [nI_toInt (by omega)]; omega
  · show (nI i).toInt ≤ 40; rw [nI_toInt (by omega)]; omega
theorem gSm {b : Stg} {x y : Nat} (h : gS b) (hx : x ≤ 100) (hy : y ≤ 100) : gS (nI x, nI y, b.2.2) := by
  obtain ⟨_, _, _, _, h5, h6, h7, h8⟩ := h
  refine ⟨?_, ?_, ?_, ?_, h5, h6, h7, h8⟩
  · show 0 ≤ (nI x).toInt; rw [nI_toInt (by omega)]; omega
  · show (nI x).toInt ≤ 100; rw [nI_toInt (by omega)]; omega
  · show 0 ≤ (nI y).toInt; rw [nI_toInt (by omega)]; omega
  · show (nI y).toInt ≤ 100; rw [nI_toInt (by omega)]; omega
theorem gSl {b : Stg} {x : Nat} (h : gS b) (hx : x ≤ 2) : gS (b.1, b.2.1, nI x, b.2.2.2) := by
  obtain ⟨h1, h2, h3, h4, h5, h6, h7, h8⟩ := h
  refine ⟨h1, h2, h3, h4, ?_, ?_, h7, h8⟩
  · show 0 ≤ (nI x).toInt; rw [nI_toInt (by omega)]; omega
  · show (nI x).toInt ≤ 2; rw [nI_toInt (by omega)]; omega
theorem tc_n {sc : Scn} (h : gScn sc) : sc.2.2.2.1 = nI (iN sc.2.2.2.1) ∧ iN sc.2.2.2.1 ≤ 8 := iN_b h.2.2.2.2.1 h.2.2.2.2.2.1
theorem zge {x : Int32} {m i : Nat} (hx : x = nI m) (hm : m < 2 ^ 31) (hi : i ≤ m) (h : x ≤ nI i) : i = m := by
  rcases Nat.lt_or_ge i m with q | q
  · rw [hx] at h; exact absurd h (nI_ge q hm)
  · omega
theorem zlt2 {x : Int32} {m i : Nat} (hx : x = nI m) (hi : i < 2 ^ 31) (h : ¬ x ≤ nI i) : i < m := by
  rcases Nat.lt_or_ge i m with q | q
  · exact q
  · rw [hx] at h; exact absurd (nI_le q hi) h
theorem bIn_n {q lo hi : Int32} {N : Nat} (h : bIn q lo hi) (hlo : 0 ≤ lo.toInt) (hhi : hi.toInt = (N : Int)) : q = nI (iN q) ∧ iN q ≤ N :=
  iN_b (by have := i32le.mp h.1; omega) (by have := i32le.mp h.2; omega)
