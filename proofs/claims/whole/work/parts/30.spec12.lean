/-! ===== answers of the reference in the words of the class ===== -/
theorem neg_n0 {x : Int32} (h : x < 0) : ¬ x = 0 := fun e => by rw [e] at h; exact absurd h (by decide)
theorem r4_ge {x : Int32} (hx : x = 0 ∨ x = -1 ∨ x = -11 ∨ x = -12) (h : ¬ x < 0) : x = 0 := by
  rcases hx with e | e | e | e
  · exact e
  · rw [e] at h; exact absurd (by decide) h
  · rw [e] at h; exact absurd (by decide) h
  · rw [e] at h; exact absurd (by decide) h
theorem sStR_ge {sh : Nat → Shf} {d : Int32} (h : ¬ sStR sh d < 0) : sStR sh d = 0 := r4_ge (sStR_le sh d) h
theorem sRowR_ge {sh : Nat → Shf} {d : Int32} (h : ¬ sRowR sh d < 0) : sRowR sh d = 0 := r4_ge (sRowR_le sh d) h
theorem sFilmR_ge {sc : Scn} {sh : Nat → Shf} {d : Int32} (h : ¬ sFilmR sc sh d < 0) : sFilmR sc sh d = 0 := by
  unfold sFilmR at h ⊢
  by_cases c : sRowR sh d = 0
  · rw [if_pos c] at h ⊢
    by_cases c2 : (sh (iN d)).2.2.2.1 = sc.2.2.2.1
    · rw [if_pos c2]
    · rw [if_neg c2] at h; exact absurd (by decide) h
  · rw [if_neg c] at h ⊢; exact sRowR_ge h
theorem mFilmR_eq {hw kd fg so mn : Nat → Int32} {rw0 : Nat → Int64} {sc : Scn} {sh : Nat → Shf} (h : ∀ d, d < 8 → rS (sh d) (hw d) (kd d) (fg d) (so d) (mn d) (fun i => rw0 (100 * d + i))) {d : Int32} : mFilmR hw mn sc.2.2.2.1 d = sFilmR sc sh d := by
  have e := mRowR_eq (hw := hw) (sh := sh) (fun d hd => (h d hd).1) d
  unfold mFilmR sFilmR
  rw [e]
  by_cases c : sRowR sh d < 0
  · rw [if_pos c, if_neg (neg_n0 c)]
  · have z := sRowR_ge c
    have q := sRowR_0 z
    rw [if_neg c, if_pos z, ((h _ q.1.2).2.2 q.2).2.1]
theorem tc_pos {sc : Scn} (h : gScn sc) (c : ¬ sc.2.2.2.1 = 0) : 0 < sc.2.2.2.1 := by
  have a := h.2.2.2.2.1
  have b : ¬ sc.2.2.2.1.toInt = 0 := lv_neT (k := 0) c rfl
  exact i32lt.mpr (by have e0 : (0 : Int32).toInt = 0 := rfl; omega)
theorem tc_less {x : Int32} (h : x = nI (iN x) ∧ iN x ≤ 8) (c : ¬ x = 0) : iN (x - 1) ≤ iN x := by
  obtain ⟨m, hm⟩ : ∃ m, m = iN x := ⟨_, rfl⟩
  rw [← hm] at h ⊢
  rw [h.1]
  cases m with
  | zero => exact absurd h.1 c
  | succ k => rw [nI_pred, iN_nI (by omega)]; omega
theorem not05 {x : Int32} (n0 : ¬ x = 0) (n1 : ¬ x = 1) (n2 : ¬ x = 2) (n3 : ¬ x = 3) (n4 : ¬ x = 4) (n5 : ¬ x = 5) : ¬ bIn x 0 5 := by
  intro h
  have a := i32le.mp h.1
  have b := i32le.mp h.2
  have z0 : (0 : Int32).toInt = 0 := rfl
  have z5 : (5 : Int32).toInt = 5 := rfl
  have e0 : ¬ x.toInt = 0 := lv_neT (k := 0) n0 rfl
  have e1 : ¬ x.toInt = 1 := lv_neT (k := 1) n1 rfl
  have e2 : ¬ x.toInt = 2 := lv_neT (k := 2) n2 rfl
  have e3 : ¬ x.toInt = 3 := lv_neT (k := 3) n3 rfl
  have e4 : ¬ x.toInt = 4 := lv_neT (k := 4) n4 rfl
  have e5 : ¬ x.toInt = 5 := lv_neT (k := 5) n5 rfl
  omega
theorem not03 {x a b c d : Int32} (h : ¬ bIn x 0 3) : (if x = 0 then a else if x = 1 then b else if x = 2 then c else if x = 3 then d else -1) = -1 := by
  rw [if_neg (fun e => h (by rw [e]; decide)), if_neg (fun e => h (by rw [e]; decide)), if_neg (fun e => h (by rw [e]; decide)), if_neg (fun e => h (by rw [e]; decide))]
theorem bTry_m {sc : Scn} {i : Int32} (h : gScn sc) (b : bIn i 0 (sc.2.2.2.1 - 1)) : bTry sc.2.2.2.1 i := by
  have a := h.2.2.2.2.1
  have a2 := h.2.2.2.2.2.1
  have e1 : (1 : Int32).toInt = 1 := rfl
  have e8 : (8 : Int32).toInt = 8 := rfl
  have e : (sc.2.2.2.1 - 1).toInt = sc.2.2.2.1.toInt - 1 := zsub (by rw [e1]; omega) (by rw [e1]; omega)
  have c := i32le.mp b.2
  rw [e] at c
  exact ⟨b.1, i32lt.mpr (by omega), i32lt.mpr (by omega)⟩
theorem bTry_n {sc : Scn} {i : Int32} (h : gScn sc) (b : bTry sc.2.2.2.1 i) : bIn i 0 (sc.2.2.2.1 - 1) := by
  have a := h.2.2.2.2.1
  have a2 := h.2.2.2.2.2.1
  have e1 : (1 : Int32).toInt = 1 := rfl
  have e : (sc.2.2.2.1 - 1).toInt = sc.2.2.2.1.toInt - 1 := zsub (by rw [e1]; omega) (by rw [e1]; omega)
  have c := i32lt.mp b.2.1
  exact ⟨b.1, i32le.mpr (by rw [e]; omega)⟩
theorem tc_lt {sc : Scn} {i : Int32} (h : gScn sc) (b : bTry sc.2.2.2.1 i) : iN i < iN sc.2.2.2.1 := by
  have a := iN_e (i := sc.2.2.2.1) h.2.2.2.2.1
  have c := iN_e (i := i) (i32le.mp b.1)
  have d := i32lt.mp b.2.1
  omega
theorem toldM {told : Nat → Int32} {j : Nat} {s : Stg} {x : Int32} (h : rT told j s) (hw : x = nI (iN x) ∧ iN x ≤ 3) : told (4 * j + iN x) = if x = 0 then s.1 else if x = 1 then s.2.1 else if x = 2 then s.2.2.1 else if x = 3 then s.2.2.2 else -1 := by
  obtain ⟨h0, h1, h2, h3⟩ := h
  obtain ⟨m, hm⟩ : ∃ m, m = iN x := ⟨_, rfl⟩
  rw [← hm] at hw ⊢
  rcases (show m = 0 ∨ m = 1 ∨ m = 2 ∨ m = 3 by omega) with e | e | e | e
  · subst e; rw [hw.1]; exact h0
  · subst e; rw [hw.1]; exact h1
  · subst e; rw [hw.1]; exact h2
  · subst e; rw [hw.1]; exact h3
theorem ix4 {x y : Int32} {a b : Nat} (hx : x = nI a) (hy : y = nI b) : 4 * x + y = nI (4 * a + b) := by rw [hx, hy, nI_4, nI_add]
theorem far_m (x : Int32) : x - 1000000000 = -1000000000 + x := by rw [Int32.sub_eq_add_neg, Int32.add_comm]
section LK
variable {t : Tal} {b : Stg}
theorem less_pos (ht : gT t) (hb : gS b) : 0 < sLess t b := by
  have l := sLess_b ht hb
  exact i32lt.mpr (by have e0 : (0 : Int32).toInt = 0 := rfl; omega)
theorem less_nz (ht : gT t) (hb : gS b) : ¬ 100 * sLess t b = 0 := by
  intro h
  have l := sLess_b ht hb
  have e : (100 * sLess t b).toInt = 100 * (sLess t b).toInt := zmul (by have e0 : (100 : Int32).toInt = 100 := rfl; rw [e0]; omega) (by have e0 : (100 : Int32).toInt = 100 := rfl; rw [e0]; omega)
  rw [h] at e
  have e0 : (0 : Int32).toInt = 0 := rfl
  omega
theorem kick_n (ht : gT t) (hb : gS b) : sKick t b = nI (iN (sKick t b)) ∧ iN (sKick t b) < 2 ^ 31 := by
  have k := sKick_b ht hb
  have e := iN_e (i := sKick t b) k.1
  exact ⟨e.1, by omega⟩
theorem less_n (ht : gT t) (hb : gS b) : sLess t b = nI (iN (sLess t b)) ∧ iN (sLess t b) < 2 ^ 31 := by
  have k := sLess_b ht hb
  have e := iN_e (i := sLess t b) (by omega)
  exact ⟨e.1, by omega⟩
theorem sGS_gcd {a c : Nat} (ha : a < 2 ^ 31) (hc : c < 2 ^ 31) (ha0 : 0 < a) : ∀ m, m < 2 ^ 31 → Nat.gcd a c ≤ m → sGS (nI a) (nI c) m = nI (Nat.gcd a c)
  | 0, _, h => absurd h (Nat.not_le.mpr (Nat.gcd_pos_of_pos_left c ha0))
  | m + 1, hm, h => by
    have ra : nI a - nI a / nI (m + 1) * nI (m + 1) = nI (a % (m + 1)) := nI_rem ha (by omega) hm
    have rc : nI c - nI c / nI (m + 1) * nI (m + 1) = nI (c % (m + 1)) := nI_rem hc (by omega) hm
    have ma : a % (m + 1) < 2 ^ 31 := Nat.lt_of_le_of_lt (Nat.mod_le _ _) ha
    have mc : c % (m + 1) < 2 ^ 31 := Nat.lt_of_le_of_lt (Nat.mod_le _ _) hc
    have za : nI (a % (m + 1)) = 0 ↔ a % (m + 1) = 0 := nI_eq (b := 0) ma (by decide)
    have zc : nI (c % (m + 1)) = 0 ↔ c % (m + 1) = 0 := nI_eq (b := 0) mc (by decide)
    unfold sGS
    rw [ra, rc]
    by_cases q : 1 ≤ m ∧ nI (a % (m + 1)) = 0 ∧ nI (c % (m + 1)) = 0
    · rw [if_pos q]
      have da := Nat.dvd_of_mod_eq_zero (za.mp q.2.1)
      have dc := Nat.dvd_of_mod_eq_zero (zc.mp q.2.2)
      have d := Nat.le_of_dvd (Nat.gcd_pos_of_pos_left c ha0) (Nat.dvd_gcd da dc)
      rw [Nat.le_antisymm d h]
    · rw [if_neg q]
      rcases Nat.lt_or_ge (Nat.gcd a c) (m + 1) with w | w
      · exact sGS_gcd ha hc ha0 m (by omega) (by omega)
      · have e : Nat.gcd a c = m + 1 := Nat.le_antisymm h w
        have da : a % (m + 1) = 0 := Nat.mod_eq_zero_of_dvd (by rw [← e]; exact Nat.gcd_dvd_left a c)
        have dc : c % (m + 1) = 0 := Nat.mod_eq_zero_of_dvd (by rw [← e]; exact Nat.gcd_dvd_right a c)
        have m0 : m = 0 := by
          rcases Nat.lt_or_ge 0 m with p | p
          · exact absurd ⟨p, za.mpr da, zc.mpr dc⟩ q
          · omega
        subst m0
        rw [e]; rfl
theorem gcd_sGS (ht : gT t) (hb : gS b) (c : ¬ sKick t b = 0) : sGS (sKick t b) (sLess t b) (iN (sKick t b)) = nI (Nat.gcd (iN (sKick t b)) (iN (sLess t b))) := by
  have k := kick_n ht hb
  have l := less_n ht hb
  have kp : 0 < iN (sKick t b) := by
    rcases Nat.eq_zero_or_pos (iN (sKick t b)) with h | h
    · rw [h] at k; exact absurd k.1 c
    · exact h
  have g := sGS_gcd k.2 l.2 kp (iN (sKick t b)) k.2 (Nat.le_of_dvd kp (Nat.gcd_dvd_left _ _))
  rw [← k.1, ← l.1] at g
  exact g
theorem gcd_gp (ht : gT t) (hb : gS b) (c : ¬ sKick t b = 0) : 0 < sGS (sKick t b) (sLess t b) (iN (sKick t b)) := by
  have k := kick_n ht hb
  have kp : 0 < iN (sKick t b) := by
    rcases Nat.eq_zero_or_pos (iN (sKick t b)) with h | h
    · rw [h] at k; exact absurd k.1 c
    · exact h
  rw [gcd_sGS ht hb c]
  have g1 : Nat.gcd (iN (sKick t b)) (iN (sLess t b)) ≤ iN (sKick t b) := Nat.le_of_dvd kp (Nat.gcd_dvd_left _ _)
  have g0 : 0 < Nat.gcd (iN (sKick t b)) (iN (sLess t b)) := Nat.gcd_pos_of_pos_left _ kp
  exact nI_lt (a := 0) g0 (by omega)
theorem gcd_nz (ht : gT t) (hb : gS b) (c : ¬ sKick t b = 0) : ¬ nI (Nat.gcd (iN (sKick t b)) (iN (sLess t b))) = 0 := by
  have h := gcd_gp ht hb c
  rw [gcd_sGS ht hb c] at h
  intro e
  rw [e] at h
  exact absurd h (by decide)
end LK
theorem c_X7_divisorQ (l : Launch) (D : va_G) (cy : Nat → Nat) (n : Nat) (ad : Nat → Nat) (F : Nat → va_E) (sz : Nat) (a0 c0 : Nat) (a c : Int32) (ha0 : a0 < 2 ^ 31) (hc0 : c0 < 2 ^ 31) (hea : a = nI a0) (hec : c = nI c0) : Met l yX7_divisor (zw yX7_divisor cX7_divisor 5 (some .int)) (rmL 0) (zPc D cy n ad F sz [.int a, .int c]) (va_Qi (fun r F1 => r = nI (Nat.gcd a0 c0) ∧ F = F1) (zB D n ad) (zA n ad sz)) 0 0 (zA n ad sz) := by
  subst hea; subst hec; exact c_X7_divisor l D cy n ad F sz a0 c0 ha0 hc0
