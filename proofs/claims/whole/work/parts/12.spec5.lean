section SHL
variable {ad cy : Nat → Nat} {k : Nat} {F F1 : Nat → va_E} {sf : Shf}
theorem RSh_clear (h : RSh ad cy k F sf) (hp : F1 = va_up F k (oShelf ad k 0 sf.2.2.1 sf.2.2.2.1)) : RSh ad cy k F1 (0, sf.2) ∧ ∀ q, ¬ (k ≤ q ∧ q < k + 3) → F1 q = F q :=
  ⟨⟨zeq hp, zne hp (by omega) h.2.1, zne hp (by omega) h.2.2⟩, fr_up hp (by omega) (by omega)⟩
theorem RSh_story {kd fg : Int32} (h : RSh ad cy k F sf) (hp : F1 = va_up (va_up F k (oShelf ad k 1 sf.2.2.1 sf.2.2.2.1)) (k + 1) (oTale (kd, fg))) : RSh ad cy k F1 (1, (kd, fg), sf.2.2) ∧ ∀ q, ¬ (k ≤ q ∧ q < k + 3) → F1 q = F q := by
  obtain ⟨Fm, hm⟩ : ∃ z, z = va_up F k (oShelf ad k 1 sf.2.2.1 sf.2.2.2.1) := ⟨_, rfl⟩
  rw [← hm] at hp
  exact ⟨⟨zne hp (by omega) (zeq hm), zeq hp, zne hp (by omega) (zne hm (by omega) h.2.2)⟩, fr_tr (fr_up hm (by omega) (by omega)) (fr_up hp (by omega) (by omega))⟩
theorem RSh_row {so z : Int32} (h : RSh ad cy k F sf) (hp : F1 = va_up (va_up F k (oShelf ad k 2 so z)) (k + 2) (oInts cy 100 (zfill sf.2.2.2.2 100))) : RSh ad cy k F1 (2, sf.2.1, so, z, zfill sf.2.2.2.2 100) ∧ ∀ q, ¬ (k ≤ q ∧ q < k + 3) → F1 q = F q := by
  obtain ⟨Fm, hm⟩ : ∃ z', z' = va_up F k (oShelf ad k 2 so z) := ⟨_, rfl⟩
  rw [← hm] at hp
  exact ⟨⟨zne hp (by omega) (zeq hm), zne hp (by omega) (zne hm (by omega) h.2.1), zeq hp⟩, fr_tr (fr_up hm (by omega) (by omega)) (fr_up hp (by omega) (by omega))⟩
theorem RSh_elem {el : Nat → Int32} (h : RSh ad cy k F sf) (hp : F1 = va_up F (k + 2) (oInts cy 100 el)) : RSh ad cy k F1 (sf.1, sf.2.1, sf.2.2.1, sf.2.2.2.1, el) ∧ ∀ q, ¬ (k ≤ q ∧ q < k + 3) → F1 q = F q :=
  ⟨⟨zne hp (by omega) h.1, zne hp (by omega) h.2.1, zeq hp⟩, fr_up hp (by omega) (by omega)⟩
end SHL
theorem iN_b {x : Int32} {N : Nat} (h0 : 0 ≤ x.toInt) (h1 : x.toInt ≤ (N : Int)) : x = nI (iN x) ∧ iN x ≤ N := by
  have := iN_e h0
  exact ⟨this.1, by omega⟩
/-- the greatest number that goes into both, tried from m downwards -/
def sGS (a b : Int32) : Nat → Int32
  | 0 => 1
  | m + 1 => if 1 ≤ m ∧ a - a / nI (m + 1) * nI (m + 1) = 0 ∧ b - b / nI (m + 1) * nI (m + 1) = 0 then nI (m + 1) else sGS a b m
theorem sGS_1 (a b : Int32) {x : Nat} (h : x ≤ 1) : sGS a b x = 1 := by
  rcases (show x = 0 ∨ x = 1 by omega) with rfl | rfl
  · rfl
  · rfl
theorem sGS_hit {a b : Int32} {x m : Nat} (hm : x = m + 1) (h : 2 ≤ x) (h1 : a - a / nI x * nI x = 0) (h2 : b - b / nI x * nI x = 0) : nI x = sGS a b x := by
  subst hm
  exact (if_pos ⟨by omega, h1, h2⟩).symm
theorem sGS_next {a b : Int32} {x m : Nat} (hm : x = m + 1) (h : ¬ (a - a / nI x * nI x = 0 ∧ b - b / nI x * nI x = 0)) : sGS a b m = sGS a b x := by
  subst hm
  exact (if_neg (fun q => h q.2)).symm
theorem nI_2le {x : Nat} (hx : x < 2 ^ 31) (h : ¬ nI x ≤ 1) : 2 ≤ x := by
  rcases Nat.lt_or_ge x 2 with q | q
  · exact absurd (nI_le (a := x) (b := 1) (by omega) (by omega)) h
  · exact q
theorem nI_le1 {x : Nat} (hx : x < 2 ^ 31) (h : nI x ≤ 1) : x ≤ 1 := by
  rcases Nat.lt_or_ge 1 x with q | q
  · exact absurd h (nI_ge (a := 1) (b := x) q hx)
  · exact q
def sRests (t : Tal) (b : Stg) (part : Int32) : Int32 :=
  if 0 < sLess t b then (if sKick t b = 0 then part else if 0 < sGS (sKick t b) (sLess t b) (iN (sKick t b)) then (if part = 0 then sKick t b / sGS (sKick t b) (sLess t b) (iN (sKick t b)) else sLess t b / sGS (sKick t b) (sLess t b) (iN (sKick t b))) else -4) else -4
theorem gKick {t : Tal} {b : Stg} (ht : gT t) (hb : gS b) : sKick t b = nI (iN (sKick t b)) ∧ iN (sKick t b) ≤ 40 := iN_b (sKick_b ht hb).1 (sKick_b ht hb).2
abbrev bKeep (d what k f : Int32) : Prop := (bSh d ∧ bIn what 0 1) ∧ (what = 0 ∨ (bIn k 0 7 ∧ bIn f 0 40))
def sKeepS (sh : Nat → Shf) (d what k f : Int32) : Nat → Shf := if bKeep d what k f then va_up sh (iN d) (if what = 0 then (0, (sh (iN d)).2) else (1, (k, f), (sh (iN d)).2.2)) else sh
abbrev bRow (d so q : Int32) : Prop := bSh d ∧ bIn so 0 2 ∧ q ≤ 100
def sRow (d so q : Int32) : Int32 := if bRow d so q then (if q < 0 then -14 else 0) else -1
def sRowS (sh : Nat → Shf) (d so q : Int32) : Nat → Shf := if bRow d so q ∧ ¬ q < 0 then va_up sh (iN d) (2, (sh (iN d)).2.1, so, q, zfill (sh (iN d)).2.2.2.2 100) else sh
def sPut (sh : Nat → Shf) (d i : Int32) : Int32 := if sRowR sh d = 0 then (if bPlace (sh (iN d)).2.2.2.1 i then 0 else -13) else sRowR sh d
def sPutS (sh : Nat → Shf) (d i v : Int32) : Nat → Shf := if sRowR sh d = 0 ∧ bPlace (sh (iN d)).2.2.2.1 i then va_up sh (iN d) ((sh (iN d)).1, (sh (iN d)).2.1, (sh (iN d)).2.2.1, (sh (iN d)).2.2.2.1, upd (sh (iN d)).2.2.2.2 (iN i) (sNar (sh (iN d)).2.2.1 v)) else sh
theorem sRowR_le (sh : Nat → Shf) (d : Int32) : sRowR sh d = 0 ∨ sRowR sh d = -1 ∨ sRowR sh d = -11 ∨ sRowR sh d = -12 := by
  unfold sRowR
  split
  · split
    · simp
    · split <;> simp
  · simp
theorem sStR_le (sh : Nat → Shf) (d : Int32) : sStR sh d = 0 ∨ sStR sh d = -1 ∨ sStR sh d = -11 ∨ sStR sh d = -12 := by
  unfold sStR
  split
  · split
    · simp
    · split <;> simp
  · simp
theorem sFirst_0 {x y : Int32} (hx : x = 0 ∨ x = -1 ∨ x = -11 ∨ x = -12) (hy : y = 0 ∨ y = -1 ∨ y = -11 ∨ y = -12) (h : sFirst x y = 0) : x = 0 ∧ y = 0 := by
  rcases hx with rfl | rfl | rfl | rfl <;> rcases hy with rfl | rfl | rfl | rfl <;> first | exact ⟨rfl, rfl⟩ | exact absurd h (by decide)
abbrev bCopy (sh : Nat → Shf) (d i e j q : Int32) : Prop := bStretch (sh (iN d)).2.2.2.1 i q ∧ bStretch (sh (iN e)).2.2.2.1 j q
def sCopy (sh : Nat → Shf) (d i e j q : Int32) : Int32 :=
  if sFirst (sRowR sh d) (sRowR sh e) = 0 then (if (sh (iN d)).2.2.1 = (sh (iN e)).2.2.1 then (if bCopy sh d i e j q then q else -13) else -12) else sFirst (sRowR sh d) (sRowR sh e)
def sCopyS (sh : Nat → Shf) (d i e j q : Int32) : Nat → Shf :=
  if sFirst (sRowR sh d) (sRowR sh e) = 0 ∧ (sh (iN d)).2.2.1 = (sh (iN e)).2.2.1 ∧ bCopy sh d i e j q then
    va_up sh (iN e) ((sh (iN e)).1, (sh (iN e)).2.1, (sh (iN e)).2.2.1, (sh (iN e)).2.2.2.1, va_cpy (sh (iN d)).2.2.2.2 (sh (iN e)).2.2.2.2 (iN i) (iN j) (iN q)) else sh
theorem bStretch_in {z i q : Int32} (h : bStretch z i q) (hz0 : 0 ≤ z.toInt) (hz : z.toInt ≤ 100) : ¬ i < 0 ∧ ¬ q < 0 ∧ i.toNatClampNeg + q.toNatClampNeg ≤ 100 := by
  obtain ⟨h1, h2, h3, h4⟩ := h
  have a1 := i32le.mp h1
  have a2 := i32le.mp h2
  have a3 := i32le.mp h3
  have a4 := i32le.mp h4
  have e0 : (0 : Int32).toInt = 0 := rfl
  have e1 : (z - q).toInt = z.toInt - q.toInt := zsub (by omega) (by omega)
  have e2 := (iN_e (i := i) (by omega)).2
  have e3 := (iN_e (i := q) (by omega)).2
  refine ⟨Int32.not_lt.mpr h3, Int32.not_lt.mpr h1, ?_⟩
  show iN i + iN q ≤ 100
  omega
section ZCP
variable {p : Program} {l : Launch} {e : Env} {R : Room} {s : State} {m : MethodId} {args : Array Value} {below : List Frame} {meth : Method} {c : Code} {H : Heap} {locs : List Loc} {cells slots : Nat} {Q : State → Prop}
variable {cc : ByteArray} {nL pc : Nat} {ls : Array Slot} {rest : List Value} {D : va_G} {cy : Nat → Nat} {A : Nat → Prop} {H0 : Heap} {own : String} {n : Nat} {ad : Nat → Nat} {F : Nat → va_E}
theorem zcopy (hC : zC p m c cc nL s args own D cy) (hZ : zH D A H0 n ad F H locs) {index : Nat} (hl1 : Cond.methodLink own index arraycopyName ∈ gtbl) (hl2 : Cond.native arraycopyName ∈ gtbl) (hl3 : Cond.static arraycopyName ∈ gtbl) (hl4 : Cond.initialized "java/lang/System" ∈ gtbl) (hsize : ls.size = nL)
    {k0 k1 : Nat} (hk0 : k0 < n) (hk1 : k1 < n) {f g : Nat → Int32} (hF0 : F k0 = oInts cy 100 f) (hF1 : F k1 = oInts cy 100 g) {sp dp q : Int32} (h1 : ¬ sp < 0) (h2 : ¬ dp < 0) (h3 : ¬ q < 0) (h4 : sp.toNatClampNeg + q.toNatClampNeg ≤ 100) (h5 : dp.toNatClampNeg + q.toNatClampNeg ≤ 100)
    (hR : zRj R 0) (hR2 : (rest.map fun v => v.category).sum + (nativeFrameWords "java/lang/System" "arraycopy" 5 + 11) ≤ R.locals) (hd : decode cc pc = .ok (.invokestatic index, 3))
    (kk : ∀ (F1 : Nat → va_E), F1 = va_up F k1 (oInts cy 100 (va_cpy f g (iN sp) (iN dp) (iN q))) → ∀ (H1 : Heap) (locs1 : List Loc), zH D A H0 n ad F1 H1 locs1 → W p l e R s m args below meth c H1 locs1 cells slots Q (F0 m (pc + 3) ls rest)) : W p l e R s m args below meth c H locs cells slots Q (F0 m pc ls (.int q :: .int dp :: .ref (ad k1) :: .int sp :: .ref (ad k0) :: rest)) := by
  obtain ⟨⟨hx0, hb, hml, hown, hts⟩, hK, hNN⟩ := hC
  have he0 : (zW n ad F)[k0]? = some (ad k0, oInts cy 100 f) := by rw [zW_get hk0, hF0]
  have he1 : (zW n ad F)[k1]? = some (ad k1, oInts cy 100 g) := by rw [zW_get hk1, hF1]
  refine va_copyi hx0 hb (by rw [hml, hsize]) hown (hts _ hl1) (hts _ hl2) (hts _ hl3) (hts _ hl4) hK hZ.1 hZ.2.1 hZ.2.2 k0 k1 0 0 he0 he1 rfl rfl rfl h1 h2 h3 h4 h5 (fun _ _ => rfl) hR.1 hR2 hd (fun H1 locs1 a1 a2 a3 => ?_)
  rw [zW_set hk1] at a1 a2
  exact kk _ rfl H1 locs1 ⟨a1, a2, a3⟩
end ZCP
