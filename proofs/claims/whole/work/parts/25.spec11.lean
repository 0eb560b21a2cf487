/-! ===== frames and arithmetic of the reference ===== -/
def frP (ps : List Nat) (F F1 : Nat → va_E) : Prop := ∀ q, ¬ q ∈ ps → F1 q = F q
theorem frP_rf {ps : List Nat} {F : Nat → va_E} : frP ps F F := fun _ _ => rfl
theorem frP_up {ps : List Nat} {F0 F F1 : Nat → va_E} {k : Nat} {E : va_E} (h0 : frP ps F0 F) (h : F1 = va_up F k E) (hk : k ∈ ps) : frP ps F0 F1 := fun q hq => (znu (j := q) h (fun e => hq (by rw [e]; exact hk))).trans (h0 q hq)
theorem frP_tr {ps : List Nat} {F0 F1 F2 : Nat → va_E} (h1 : frP ps F0 F1) (h2 : frP ps F1 F2) : frP ps F0 F2 := fun q hq => (h2 q hq).trans (h1 q hq)
theorem frM_P {ps : List Nat} {F F0 F1 : Nat → va_E} (h0 : frM F0 F) (h : frP ps F F1) (hp : ∀ k, k ∈ ps → 56 ≤ k ∧ k < 68) : frM F0 F1 := fun q hq => (h q (fun hm => by have := hp q hm; omega)).trans (h0 q hq)
theorem nI_mul (a b : Nat) : nI a * nI b = nI (a * b) := (Int32.ofNat_mul a b).symm
theorem nI_4 (i : Nat) : 4 * nI i = nI (4 * i) := nI_mul 4 i
theorem nI_100 (i : Nat) : 100 * nI i = nI (100 * i) := nI_mul 100 i
theorem nI_c (a b : Nat) (c : Int32) (h : c = nI b) : nI a + c = nI (a + b) := by rw [h]; exact nI_add a b
theorem nI_rem {a c : Nat} (ha : a < 2 ^ 31) (hc : 0 < c) (hc2 : c < 2 ^ 31) : nI a - nI a / nI c * nI c = nI (a % c) := by
  have ea := nI_toInt ha
  have ec := nI_toInt hc2
  have e1 : (nI a / nI c).toInt = ((a / c : Nat) : Int) := by rw [zdiv (by omega) (by omega), ea, ec]; rfl
  have hle : a / c * c ≤ a := Nat.div_mul_le_self a c
  have hle2 : ((a / c * c : Nat) : Int) = ((a / c : Nat) : Int) * (c : Int) := by push_cast; rfl
  have e2 : (nI a / nI c * nI c).toInt = ((a / c * c : Nat) : Int) := by rw [zmul (by rw [e1, ec, ← hle2]; omega) (by rw [e1, ec, ← hle2]; omega), e1, ec, hle2]
  have hm : a % c = a - a / c * c := by have := Nat.div_add_mod a c; rw [Nat.mul_comm] at this; omega
  apply Int32.toInt_inj.mp
  rw [zsub (by rw [e2, ea]; omega) (by rw [e2, ea]; omega), e2, ea, nI_toInt (by omega), hm]
  omega
theorem gcd_st (a c : Nat) : Nat.gcd c (a % c) = Nat.gcd a c := by rw [Nat.gcd_comm a c, Nat.gcd_rec c a, Nat.gcd_comm]
theorem upd_sf (f : Nat → Int32) (k : Nat) : upd f k (f k) = f := by
  funext j
  by_cases h : j = k
  · subst h; simp [upd]
  · simp [upd, h]
theorem upd_at (f : Nat → Int32) (k : Nat) (v : Int32) : upd f k v k = v := by simp [upd]
theorem upd_nt (f : Nat → Int32) {k j : Nat} (v : Int32) (h : ¬ j = k) : upd f k v j = f j := by simp [upd, h]
/-! ===== FILMS in the reference ===== -/
section FIT
variable {t : Tal} {so z off : Int32} {el : Nat → Int32} {tr : Nat → Stg} {i : Nat}
theorem fit_1 (h : sAt z el (nI i) = sLow so) : bFit t so z el tr off i := fun q => q.1 h
theorem fit_2 (h : bNear (sArchAt t (tr i) 0) (sAt z el (nI i)) off) : bFit t so z el tr off i := fun q => q.2 h
theorem fit_0 (h1 : ¬ sAt z el (nI i) = sLow so) (h2 : ¬ bNear (sArchAt t (tr i) 0) (sAt z el (nI i)) off) : ¬ bFit t so z el tr off i := fun q => q ⟨h1, h2⟩
theorem sAt_i {m : Nat} (hz : z = nI m) (hm : m ≤ 100) (hi : i < m) : sAt z el (nI i) = el i := by
  unfold sAt
  rw [if_pos ⟨nI_pos' (by omega), by rw [hz]; exact nI_lt hi (by omega), nI_lt (a := i) (b := 100) (by omega) (by omega)⟩, iN_nI (by omega)]
theorem l64sub (x y : Int32) : (x.toInt64 - y.toInt64).toInt = x.toInt - y.toInt := by
  have a := Int32.le_toInt x; have b := Int32.toInt_lt x; have c := Int32.le_toInt y; have d := Int32.toInt_lt y
  rw [Int64.toInt_sub, Int32.toInt_toInt64, Int32.toInt_toInt64]
  exact Int.bmod_eq_of_le (by omega) (by omega)
theorem nearM {told seen : Int32} (h0 : 0 ≤ off.toInt) (h1 : off.toInt ≤ 9999) : bNear told seen off ↔ 0 ≤ told ∧ (-off).toInt64 ≤ seen.toInt64 - told.toInt64 ∧ seen.toInt64 - told.toInt64 ≤ off.toInt64 := by
  have a := Int32.le_toInt told; have b := Int32.toInt_lt told; have c := Int32.le_toInt seen; have d := Int32.toInt_lt seen
  have e1 := l64sub told seen
  have e2 := l64sub seen told
  have en : (-off).toInt = -off.toInt := by rw [Int32.toInt_neg]; exact Int.bmod_eq_of_le (by omega) (by omega)
  have e3 : (-(told.toInt64 - seen.toInt64)).toInt = -(told.toInt - seen.toInt) := by
    rw [Int64.toInt_neg, e1]; exact Int.bmod_eq_of_le (by omega) (by omega)
  unfold bNear lAbs
  refine and_congr_right fun _ => ?_
  rw [Int64.le_iff_toInt_le, Int64.le_iff_toInt_le, Int64.le_iff_toInt_le, e2, Int32.toInt_toInt64, Int32.toInt_toInt64, en]
  by_cases h : (0 : Int64) < told.toInt64 - seen.toInt64
  · have q := Int64.lt_iff_toInt_lt.mp h
    have z0 : (0 : Int64).toInt = 0 := rfl
    rw [e1, z0] at q
    rw [if_pos h, e1]; omega
  · have q : ¬ (0 : Int64).toInt < (told.toInt64 - seen.toInt64).toInt := fun p => h (Int64.lt_iff_toInt_lt.mpr p)
    have z0 : (0 : Int64).toInt = 0 := rfl
    rw [e1, z0] at q
    rw [if_neg h, e3]; omega
end FIT
theorem sLow_n (v : Int32) : (v = 0 → (-128 : Int64) = (sLow v).toInt64) ∧ (¬ v = 0 → v = 1 → (-32768 : Int64) = (sLow v).toInt64) ∧ (¬ v = 0 → ¬ v = 1 → (-2147483648 : Int64) = (sLow v).toInt64) := by
  unfold sLow
  refine ⟨fun h => ?_, fun h g => ?_, fun h g => ?_⟩
  · rw [if_pos h]; decide
  · rw [if_neg h, if_pos g]; decide
  · rw [if_neg h, if_neg g]; decide
theorem sNar_n (s v : Int32) : (s = 0 → v.toInt8.toInt32.toInt64 = (sNar s v).toInt64) ∧ (¬ s = 0 → s = 1 → v.toInt16.toInt32.toInt64 = (sNar s v).toInt64) ∧ (¬ s = 0 → ¬ s = 1 → v.toInt64 = (sNar s v).toInt64) := by
  unfold sNar
  refine ⟨fun h => ?_, fun h g => ?_, fun h g => ?_⟩
  · rw [if_pos h]
  · rw [if_neg h, if_pos g]
  · rw [if_neg h, if_neg g]
theorem mAhead {t : Tal} {a b c d : Int32} {s : Stg} (h : (a, b, c, d) = s) (ht : gT t) (hs : gS s) (e : Int32) : (if sKick t (a, b, c, e) = 0 then (0 : Int32) else if 100 - sKick t (a, b, c, e) - sDraw t + sHold t ≤ 0 then -4 else sKick t (a, b, c, e) * d / (100 - sKick t (a, b, c, e) - sDraw t + sHold t)) = sArchAt t s 0 := by
  subst h
  exact archM ht hs
