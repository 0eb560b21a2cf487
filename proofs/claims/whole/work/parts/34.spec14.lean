/-! ===== searches in the reference ===== -/
theorem sArch0 {t : Tal} {b : Stg} (ht : gT t) (hb : gS b) : 0 ≤ (sArchAt t b 0).toInt ∧ (sArchAt t b 0).toInt ≤ 16000 := by
  have k := sKick_b ht hb
  have l := sLess_b ht hb
  have d := hb.2.2.2.2.2.2
  have nl : ¬ sLess t b ≤ 0 := fun q => by have := i32le.mp q; have e0 : (0 : Int32).toInt = 0 := rfl; omega
  rw [← archM ht hb, if_neg nl]
  have m1 := zmul_le k.1 (show 0 ≤ b.2.2.2.toInt by omega) k.2 d.2
  have e1 : (sKick t b * b.2.2.2).toInt = (sKick t b).toInt * b.2.2.2.toInt := zmul (by omega) (by omega)
  split
  · exact ⟨by decide, by decide⟩
  · rw [zdiv (by omega) (by omega), e1]
    refine ⟨Int.ediv_nonneg m1.1 (by omega), ?_⟩
    exact Int.ediv_le_of_le_mul (by omega) (Int.le_trans m1.2 (by omega))
theorem sArch0_le {t : Tal} {b : Stg} (ht : gT t) (hb : gS b) : 0 ≤ sArchAt t b 0 := i32le.mpr (by have := sArch0 ht hb; have e0 : (0 : Int32).toInt = 0 := rfl; omega)
theorem mAbs {x y : Int32} (hx : 0 ≤ x.toInt ∧ x.toInt ≤ 16000) (hy : 0 ≤ y.toInt ∧ y.toInt ≤ 16000) : (y < x → x - y = sAbs (x - y)) ∧ (¬ y < x → y - x = sAbs (x - y)) := by
  have e1 : (x - y).toInt = x.toInt - y.toInt := zsub (by omega) (by omega)
  have e2 : (y - x).toInt = y.toInt - x.toInt := zsub (by omega) (by omega)
  have e0 : (0 : Int32).toInt = 0 := rfl
  unfold sAbs
  refine ⟨fun h => ?_, fun h => ?_⟩
  · have := i32lt.mp h
    rw [if_pos (i32le.mpr (by rw [e1]; omega))]
  · have h1 : ¬ y.toInt < x.toInt := fun q => h (i32lt.mpr q)
    apply Int32.toInt_inj.mp
    by_cases c : 0 ≤ x - y
    · have := i32le.mp c
      rw [e1] at this
      rw [if_pos c, e1, e2]; omega
    · have e3 : (0 - (x - y)).toInt = 0 - (x - y).toInt := zsub (by rw [e1]; omega) (by rw [e1]; omega)
      rw [if_neg c, e3, e1, e2]; omega
theorem sUnl_ge {t u : Tal} {b : Stg} (ht : gT t) (hu : gT u) (hb : gS b) : sUnl t u b = sAbs (sArchAt t b 0 - sArchAt u b 0) :=
  if_neg (fun h => h.elim (Int32.not_lt.mpr (sArch0_le ht hb)) (Int32.not_lt.mpr (sArch0_le hu hb)))
theorem nI_dv {k c : Nat} (hk : k < 2 ^ 31) (hc : 0 < c) (hc2 : c < 2 ^ 31) : nI k / nI c = nI (k / c) := by
  have ea := nI_toInt hk
  have ec := nI_toInt hc2
  apply Int32.toInt_inj.mp
  rw [zdiv (by omega) (by omega), ea, ec, nI_toInt (Nat.lt_of_le_of_lt (Nat.div_le_self k c) hk)]
  rfl
theorem nI_d11 {k : Nat} (hk : k < 121) : nI k / 11 * 10 = nI (10 * (k / 11)) := by
  have h := nI_dv (k := k) (c := 11) (by omega) (by decide) (by decide)
  have e : nI k / 11 = nI (k / 11) := h
  rw [e]
  exact (nI_mul (k / 11) 10).trans (by rw [Nat.mul_comm])
theorem nI_r11 {k : Nat} (hk : k < 121) : (nI k - nI k / 11 * 11) * 10 = nI (10 * (k % 11)) := by
  have h := nI_rem (a := k) (c := 11) (by omega) (by decide) (by decide)
  have e : nI k - nI k / 11 * 11 = nI (k % 11) := h
  rw [e]
  exact (nI_mul (k % 11) 10).trans (by rw [Nat.mul_comm])
theorem mMostB {b : Stg} {k : Nat} (hk : k < 121) : (nI k / 11 * 10, (nI k - nI k / 11 * 11) * 10, b.2.2.1, b.2.2.2) = sMostB b k := by
  rw [nI_d11 hk, nI_r11 hk]; rfl
theorem gSmost {b : Stg} (h : gS b) {k : Nat} (hk : k < 121) : gS (sMostB b k) := gSm h (x := 10 * (k / 11)) (y := 10 * (k % 11)) (by omega) (by omega)
theorem gSlay {b : Stg} (h : gS b) {k : Nat} (hk : k < 3) : gS (sLayB b k) := by
  obtain ⟨h1, h2, h3, h4, h5, h6, h7⟩ := h
  refine ⟨h1, h2, h3, h4, ?_, ?_, h7⟩
  · show 0 ≤ (nI k).toInt; rw [nI_toInt (by omega)]; omega
  · show (nI k).toInt ≤ 2; rw [nI_toInt (by omega)]; omega
theorem sFilmR_m {sc : Scn} {sh : Nat → Shf} {d : Int32} (h : sFilmR sc sh d = 0) : (sh (iN d)).2.2.2.1 = sc.2.2.2.1 := by
  unfold sFilmR at h
  by_cases h1 : sRowR sh d = 0
  · rw [if_pos h1] at h
    by_cases h2 : (sh (iN d)).2.2.2.1 = sc.2.2.2.1
    · exact h2
    · rw [if_neg h2] at h; exact absurd h (by decide)
  · rw [if_neg h1] at h; exact absurd h h1
theorem bIn_i {x lo hi : Int32} {L H : Int} (h : bIn x lo hi) (hl : lo.toInt = L) (hh : hi.toInt = H) : L ≤ x.toInt ∧ x.toInt ≤ H := ⟨by rw [← hl]; exact i32le.mp h.1, by rw [← hh]; exact i32le.mp h.2⟩
