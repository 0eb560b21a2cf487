/-! ===== the words of the document, over Int32 ===== -/
abbrev Stg := Int32 × Int32 × Int32 × Int32
abbrev Tal := Int32 × Int32
abbrev Crs := Int32 × Int32 × Int32 × Int32 × Int32
abbrev oCourse (c : Crs) : va_E := .inr (0, [.int c.1, .int c.2.1, .int c.2.2.1, .int c.2.2.2.1, .int c.2.2.2.2])
abbrev oSetting (t : Stg) : va_E := .inr (3, [.int t.1, .int t.2.1, .int t.2.2.1, .int t.2.2.2])
abbrev oTale (t : Tal) : va_E := .inr (5, [.int t.1, .int t.2])
theorem zeq {F F1 : Nat → va_E} {k : Nat} {E : va_E} (h : F1 = va_up F k E) : F1 k = E := by rw [h]; exact va_up_self _ _ _
theorem zne {F F1 : Nat → va_E} {k j : Nat} {E c : va_E} (h : F1 = va_up F k E) (hj : j ≠ k) (hc : F j = c) : F1 j = c := by rw [h, va_up_ne _ _ hj]; exact hc
theorem znu {F F1 : Nat → va_E} {k j : Nat} {E : va_E} (h : F1 = va_up F k E) (hj : j ≠ k) : F1 j = F j := by rw [h, va_up_ne _ _ hj]
theorem zlt {n k N : Nat} (hn : N ≤ n) (h : Nat.ble (k + 1) N = true) : k < n := Nat.lt_of_lt_of_le (Nat.le_of_ble_eq_true h) hn
def sKK (t : Tal) (b : Stg) : Int32 := t.2 * b.1 / 100
def sKT (t : Tal) (b : Stg) : Int32 := if b.2.2.1 = 0 then t.2 / 2 else if b.2.2.1 = 1 then t.2 else 0
def sKick (t : Tal) (b : Stg) : Int32 := if t.1 = 1 ∨ t.1 = 4 then sKK t b else if t.1 = 2 then sKK t b * (100 - b.2.1) / 100 else if t.1 = 3 then sKT t b else if t.1 = 6 then sKK t b / 2 else 0
def sDraw (t : Tal) : Int32 := if t.1 = 4 then t.2 else 0
def sHold (t : Tal) : Int32 := if t.1 = 5 then t.2 else if t.1 = 6 then t.2 / 4 else 0
def sLess (t : Tal) (b : Stg) : Int32 := 100 - sKick t b - sDraw t + sHold t
def sArchAt (t : Tal) (b : Stg) (sl : Int32) : Int32 := if sLess t b ≤ 0 then -4 else sKick t b * b.2.2.2 * (100 - sl) / (sLess t b * 100)
def sWK (t : Tal) : Int32 := 4 + t.2
def sWT (t : Tal) : Int32 := 4 - t.2
def sWait (t : Tal) : Int32 := if t.1 = 1 then sWK t else if t.1 = 2 then 2 * sWK t else if t.1 = 3 then sWT t else if t.1 = 4 then sWK t + 9 else if t.1 = 5 then 4 * t.2 else if t.1 = 6 then sWK t / 2 else if t.1 = 7 then sWT t + 1 else 4
def sMax (x y : Int32) : Int32 := if x < y then y else x
def sMin (x y : Int32) : Int32 := if y < x then y else x
/-- one TICK: kick, less, drop, length -/
def sPace (ls dr : Int32) (c : Crs) : Int32 := sMax 0 (sMin 3000 (c.2.1 + (10 * dr - c.2.1 * c.2.1 * ls / 10000) / 20))
def sArch (kk : Int32) (c : Crs) (v : Int32) : Int32 := c.2.2.1 + (v * v * kk / 10000 - c.2.2.1) / 4
def sStep (kk ls dr ln : Int32) (c : Crs) : Crs :=
  if ln ≤ c.2.2.2.1 then (c.1 + 1, c.2.1, sMax 0 (c.2.2.1 - 50), c.2.2.2.1, c.2.2.2.2)
  else (c.1 + 1, sPace ls dr c, sArch kk c (sPace ls dr c), sMin ln (c.2.2.2.1 + sPace ls dr c / 10), sMax c.2.2.2.2 (sArch kk c (sPace ls dr c)))
/-- numbers within bounds -/
def gT (t : Tal) : Prop := 0 ≤ t.1.toInt ∧ t.1.toInt ≤ 7 ∧ 0 ≤ t.2.toInt ∧ t.2.toInt ≤ 40
def gS (b : Stg) : Prop := 0 ≤ b.1.toInt ∧ b.1.toInt ≤ 100 ∧ 0 ≤ b.2.1.toInt ∧ b.2.1.toInt ≤ 100 ∧ 0 ≤ b.2.2.1.toInt ∧ b.2.2.1.toInt ≤ 2 ∧ 1 ≤ b.2.2.2.toInt ∧ b.2.2.2.toInt ≤ 400
theorem zmul {x y : Int32} (h1 : -2147483648 ≤ x.toInt * y.toInt) (h2 : x.toInt * y.toInt < 2147483648) : (x * y).toInt = x.toInt * y.toInt := by
  rw [Int32.toInt_mul]; exact Int.bmod_eq_of_le (by omega) (by omega)
theorem zadd {x y : Int32} (h1 : -2147483648 ≤ x.toInt + y.toInt) (h2 : x.toInt + y.toInt < 2147483648) : (x + y).toInt = x.toInt + y.toInt := by
  rw [Int32.toInt_add]; exact Int.bmod_eq_of_le (by omega) (by omega)
theorem zsub {x y : Int32} (h1 : -2147483648 ≤ x.toInt - y.toInt) (h2 : x.toInt - y.toInt < 2147483648) : (x - y).toInt = x.toInt - y.toInt := by
  rw [Int32.toInt_sub]; exact Int.bmod_eq_of_le (by omega) (by omega)
theorem zdiv {x y : Int32} (hx : 0 ≤ x.toInt) (hy : 0 < y.toInt) : (x / y).toInt = x.toInt / y.toInt := lg_idiv_nonneg hx hy
theorem zmul_le {a b A B : Int} (ha : 0 ≤ a) (hb : 0 ≤ b) (hA : a ≤ A) (hB : b ≤ B) : 0 ≤ a * b ∧ a * b ≤ A * B :=
  ⟨Int.mul_nonneg ha hb, Int.mul_le_mul hA hB hb (Int.le_trans ha hA)⟩
theorem sKK_b {t : Tal} {b : Stg} (ht : gT t) (hb : gS b) : 0 ≤ (sKK t b).toInt ∧ (sKK t b).toInt ≤ 40 := by
  obtain ⟨_, _, h1, h2⟩ := ht
  obtain ⟨h3, h4, _⟩ := hb
  have h5 := zmul_le h1 h3 h2 h4
  have h6 : (t.2 * b.1).toInt = t.2.toInt * b.1.toInt := zmul (by omega) (by omega)
  have h7 : (sKK t b).toInt = t.2.toInt * b.1.toInt / 100 := by unfold sKK; rw [zdiv (by omega) (by decide), h6]; rfl
  omega
theorem sKick_b {t : Tal} {b : Stg} (ht : gT t) (hb : gS b) : 0 ≤ (sKick t b).toInt ∧ (sKick t b).toInt ≤ 40 := by
  have h0 := sKK_b ht hb
  unfold sKick
  split
  · exact h0
  split
  · have e1 : (100 - b.2.1).toInt = 100 - b.2.1.toInt := zsub (by have := hb.2.2; simp; omega) (by have := hb.2.2; simp; omega)
    have h2 := hb.2.2
    have h5 := zmul_le h0.1 (show 0 ≤ 100 - b.2.1.toInt by omega) h0.2 (show 100 - b.2.1.toInt ≤ 100 by omega)
    have e2 : (sKK t b * (100 - b.2.1)).toInt = (sKK t b).toInt * (100 - b.2.1.toInt) := by rw [zmul (by rw [e1]; omega) (by rw [e1]; omega), e1]
    rw [zdiv (by omega) (by decide), e2]
    show 0 ≤ _ / 100 ∧ _ / 100 ≤ 40
    omega
  split
  · unfold sKT
    obtain ⟨_, _, h1, h2⟩ := ht
    split
    · rw [zdiv h1 (by decide)]
      show 0 ≤ _ / 2 ∧ _ / 2 ≤ 40
      omega
    split
    · exact ⟨h1, h2⟩
    · decide
  split
  · rw [zdiv h0.1 (by decide)]
    show 0 ≤ _ / 2 ∧ _ / 2 ≤ 40
    omega
  · decide
theorem sDraw_b {t : Tal} (ht : gT t) : 0 ≤ (sDraw t).toInt ∧ (sDraw t).toInt ≤ 40 := by
  unfold sDraw
  split
  · exact ht.2.2
  · decide
theorem sHold_b {t : Tal} (ht : gT t) : 0 ≤ (sHold t).toInt ∧ (sHold t).toInt ≤ 40 := by
  unfold sHold
  split
  · exact ht.2.2
  split
  · rw [zdiv ht.2.2.1 (by decide)]
    have := ht.2.2
    show 0 ≤ _ / 4 ∧ _ / 4 ≤ 40
    omega
  · decide
theorem sLess_e {t : Tal} {b : Stg} (ht : gT t) (hb : gS b) : (sLess t b).toInt = 100 - (sKick t b).toInt - (sDraw t).toInt + (sHold t).toInt := by
  have h1 := sKick_b ht hb
  have h2 := sDraw_b ht
  have h3 := sHold_b ht
  unfold sLess
  have e1 : (100 - sKick t b).toInt = 100 - (sKick t b).toInt := zsub (by simp; omega) (by simp; omega)
  have e2 : (100 - sKick t b - sDraw t).toInt = 100 - (sKick t b).toInt - (sDraw t).toInt := by rw [zsub (by omega) (by omega), e1]
  rw [zadd (by omega) (by omega), e2]
theorem sLess_b {t : Tal} {b : Stg} (ht : gT t) (hb : gS b) : 20 ≤ (sLess t b).toInt ∧ (sLess t b).toInt ≤ 140 := by
  have h1 := sKick_b ht hb
  have h2 := sDraw_b ht
  have h3 := sHold_b ht
  rw [sLess_e ht hb]
  omega
theorem sLess_ne {t : Tal} {b : Stg} (ht : gT t) (hb : gS b) : ¬ sLess t b * 100 = 0 := by
  have h := sLess_b ht hb
  intro q
  have e : (sLess t b * 100).toInt = (sLess t b).toInt * 100 := zmul (by simp; omega) (by simp; omega)
  rw [q] at e
  simp at e
  omega
