theorem bIn7 {d : Int32} : bIn d 0 7 ↔ bSh d := by
  have e7 : (7 : Int32).toInt = 7 := rfl
  have e8 : (8 : Int32).toInt = 8 := rfl
  constructor
  · intro h; exact ⟨h.1, i32lt.mpr (by have := i32le.mp h.2; omega)⟩
  · intro h; exact ⟨h.1, i32le.mpr (by have := i32lt.mp h.2; omega)⟩
/-! ===== a TICK keeps its bounds ===== -/
def gK (kk ls dr ln : Int32) : Prop := 0 ≤ kk.toInt ∧ kk.toInt ≤ 40 ∧ -20 ≤ ls.toInt ∧ ls.toInt ≤ 140 ∧ 1 ≤ dr.toInt ∧ dr.toInt ≤ 400 ∧ 10 ≤ ln.toInt ∧ ln.toInt ≤ 9999
theorem sMax_t (x y : Int32) : (sMax x y).toInt = if x.toInt < y.toInt then y.toInt else x.toInt := by
  unfold sMax
  by_cases h : x < y
  · rw [if_pos h, if_pos (i32lt.mp h)]
  · rw [if_neg h, if_neg (fun q => h (i32lt.mpr q))]
theorem sMin_t (x y : Int32) : (sMin x y).toInt = if y.toInt < x.toInt then y.toInt else x.toInt := by
  unfold sMin
  by_cases h : y < x
  · rw [if_pos h, if_pos (i32lt.mp h)]
  · rw [if_neg h, if_neg (fun q => h (i32lt.mpr q))]
theorem sPace_b {ls dr : Int32} {c : Crs} : 0 ≤ (sPace ls dr c).toInt ∧ (sPace ls dr c).toInt ≤ 3000 := by
  unfold sPace
  rw [sMax_t, sMin_t]
  have e0 : (0 : Int32).toInt = 0 := rfl
  have e3 : (3000 : Int32).toInt = 3000 := rfl
  rw [e0, e3]
  split <;> split <;> omega
theorem tdivp {x d : Int32} {D : Int} (hd : d.toInt = D) (hD : 1 < D) : (x / d).toInt = x.toInt.tdiv D := by
  rw [Int32.toInt_div_of_ne_right _ _ (by intro h; rw [h] at hd; have e : (-1 : Int32).toInt = -1 := rfl; rw [e] at hd; omega), hd]
theorem tdiv_b {a D L U : Int} (hD : 0 < D) (hl : L * D ≤ a) (hu : a ≤ U * D) (hL : L ≤ 0) (hU : 0 ≤ U) : L ≤ a.tdiv D ∧ a.tdiv D ≤ U := by
  rcases Int.le_total 0 a with h | h
  · rw [Int.tdiv_eq_ediv_of_nonneg h]
    refine ⟨Int.le_trans hL (Int.ediv_nonneg h (Int.le_of_lt hD)), ?_⟩
    exact Int.ediv_le_of_le_mul hD hu
  · have e : a.tdiv D = -((-a).tdiv D) := by rw [Int.neg_tdiv, Int.neg_neg]
    rw [e, Int.tdiv_eq_ediv_of_nonneg (by omega)]
    have h1 : (-a) / D ≤ -L := Int.ediv_le_of_le_mul hD (by rw [Int.neg_mul]; omega)
    have h2 : 0 ≤ (-a) / D := Int.ediv_nonneg (by omega) (Int.le_of_lt hD)
    omega
theorem sArch_b {kk : Int32} {c : Crs} {v : Int32} (hk : 0 ≤ kk.toInt ∧ kk.toInt ≤ 40) (hv : 0 ≤ v.toInt ∧ v.toInt ≤ 3000) (ha : 0 ≤ c.2.2.1.toInt ∧ c.2.2.1.toInt ≤ 36000) : 0 ≤ (sArch kk c v).toInt ∧ (sArch kk c v).toInt ≤ 36000 := by
  have m1 := zmul_le hv.1 hv.1 hv.2 hv.2
  have e1 : (v * v).toInt = v.toInt * v.toInt := zmul (by omega) (by omega)
  have m2 := zmul_le m1.1 hk.1 m1.2 hk.2
  have e2 : (v * v * kk).toInt = v.toInt * v.toInt * kk.toInt := by rw [zmul (by rw [e1]; omega) (by rw [e1]; omega), e1]
  have e3 : (v * v * kk / 10000).toInt = v.toInt * v.toInt * kk.toInt / 10000 := by rw [zdiv (by omega) (by decide), e2]; rfl
  have e4 : (v * v * kk / 10000 - c.2.2.1).toInt = v.toInt * v.toInt * kk.toInt / 10000 - c.2.2.1.toInt := by rw [zsub (by omega) (by omega), e3]
  have e5 : ((v * v * kk / 10000 - c.2.2.1) / 4).toInt = (v.toInt * v.toInt * kk.toInt / 10000 - c.2.2.1.toInt).tdiv 4 := by rw [tdivp (D := 4) rfl (by decide), e4]
  have hq : 0 ≤ v.toInt * v.toInt * kk.toInt / 10000 ∧ v.toInt * v.toInt * kk.toInt / 10000 ≤ 36000 := by omega
  generalize v.toInt * v.toInt * kk.toInt / 10000 = w at e5 hq
  have hb : -c.2.2.1.toInt ≤ (w - c.2.2.1.toInt).tdiv 4 ∧ (w - c.2.2.1.toInt).tdiv 4 ≤ 36000 - c.2.2.1.toInt := by
    rcases Int.le_total 0 (w - c.2.2.1.toInt) with h | h
    · rw [Int.tdiv_eq_ediv_of_nonneg h]; omega
    · have e : (w - c.2.2.1.toInt).tdiv 4 = -((-(w - c.2.2.1.toInt)).tdiv 4) := by rw [Int.neg_tdiv, Int.neg_neg]
      rw [e, Int.tdiv_eq_ediv_of_nonneg (by omega)]; omega
  unfold sArch
  rw [zadd (by rw [e5]; omega) (by rw [e5]; omega), e5]
  omega
theorem sStep_gC {kk ls dr ln : Int32} {c : Crs} (hk : gK kk ls dr ln) (h : gC ln c) : gC ln (sStep kk ls dr ln c) := by
  obtain ⟨k1, k2, k3, k4, k5, k6, k7, k8⟩ := hk
  obtain ⟨h1, h2, h3, h4, h5, h6⟩ := h
  unfold sStep
  split
  · refine ⟨h1, h2, ?_, ?_, h5, h6⟩
    · show 0 ≤ (sMax 0 (c.2.2.1 - 50)).toInt
      rw [sMax_t]
      have e0 : (0 : Int32).toInt = 0 := rfl
      rw [e0]; split <;> omega
    · show (sMax 0 (c.2.2.1 - 50)).toInt ≤ 36000
      rw [sMax_t, zsub (by simp; omega) (by simp; omega)]
      have e0 : (0 : Int32).toInt = 0 := rfl
      have e5 : (50 : Int32).toInt = 50 := rfl
      rw [e0, e5]; split <;> omega
  · have hp := sPace_b (ls := ls) (dr := dr) (c := c)
    have ha := sArch_b ⟨k1, k2⟩ hp ⟨h3, h4⟩
    refine ⟨hp.1, hp.2, ha.1, ha.2, ?_, ?_⟩
    · show 0 ≤ (sMin ln (c.2.2.2.1 + sPace ls dr c / 10)).toInt
      have e1 : (sPace ls dr c / 10).toInt = (sPace ls dr c).toInt / 10 := by rw [zdiv hp.1 (by decide)]; rfl
      have e2 : (c.2.2.2.1 + sPace ls dr c / 10).toInt = c.2.2.2.1.toInt + (sPace ls dr c).toInt / 10 := by rw [zadd (by rw [e1]; omega) (by rw [e1]; omega), e1]
      rw [sMin_t, e2]; split <;> omega
    · show (sMin ln (c.2.2.2.1 + sPace ls dr c / 10)).toInt ≤ ln.toInt
      rw [sMin_t]; split <;> omega
theorem gC_0 {ln : Int32} (h : 10 ≤ ln.toInt) : gC ln sCC := ⟨by decide, by decide, by decide, by decide, by decide, by show (0 : Int32).toInt ≤ ln.toInt; simp; omega⟩
theorem sIt_gC {kk ls dr ln : Int32} (hk : gK kk ls dr ln) {c : Crs} (h : gC ln c) : ∀ k, gC ln (sIt (sStep kk ls dr ln) k c)
  | 0 => h
  | k + 1 => sStep_gC hk (sIt_gC hk h k)
theorem gK_of {t : Tal} {b : Stg} {ln : Int32} (ht : gT t) (hb : gS b) (h1 : 10 ≤ ln.toInt) (h2 : ln.toInt ≤ 9999) : gK (sKick t b) (sLess t b) b.2.2.2 ln := by
  have a := sKick_b ht hb
  have l := sLess_b ht hb
  have d := hb.2.2.2.2.2.2
  exact ⟨a.1, a.2, by omega, l.2, d.1, d.2, h1, h2⟩
/-! ===== the reference's writing of the same ===== -/
theorem mMaxA {x : Int32} (h : 0 ≤ x.toInt) : (if x < 50 then (0 : Int32) else x - 50) = sMax 0 (x - 50) := by
  have e50 : (50 : Int32).toInt = 50 := rfl
  have e0 : (0 : Int32).toInt = 0 := rfl
  have hx := Int32.toInt_lt x
  have es : (x - 50).toInt = x.toInt - 50 := zsub (by rw [e50]; omega) (by rw [e50]; omega)
  apply Int32.toInt_inj.mp
  rw [sMax_t, es, e0]
  by_cases c : x < 50
  · have := i32lt.mp c
    rw [if_pos c, if_neg (by omega)]; rfl
  · have h1 : ¬ x.toInt < (50 : Int32).toInt := fun q => c (i32lt.mpr q)
    rw [if_neg c, es]
    split <;> omega
theorem mPace (v : Int32) : (if v < 0 then (0 : Int32) else if 3000 < v then 3000 else v) = sMax 0 (sMin 3000 v) := by
  have e0 : (0 : Int32).toInt = 0 := rfl
  have e3 : (3000 : Int32).toInt = 3000 := rfl
  apply Int32.toInt_inj.mp
  rw [sMax_t, sMin_t, e0, e3]
  by_cases c : v < 0
  · have h1 := i32lt.mp c
    rw [if_pos c, e0, if_neg (by split <;> omega)]
  · have h1 : ¬ v.toInt < 0 := fun q => c (i32lt.mpr q)
    rw [if_neg c]
    by_cases c2 : 3000 < v
    · have h2 := i32lt.mp c2
      rw [if_pos c2, e3]
      split <;> split <;> omega
    · have h2 : ¬ 3000 < v.toInt := fun q => c2 (i32lt.mpr (by rw [e3]; exact q))
      rw [if_neg c2]
      split <;> split <;> omega
theorem mOut (ln x : Int32) : (if ln < x then ln else x) = sMin ln x := by
  apply Int32.toInt_inj.mp
  rw [sMin_t]
  by_cases c : ln < x
  · have := i32lt.mp c
    rw [if_pos c, if_neg (by omega)]
  · have h : ¬ ln.toInt < x.toInt := fun q => c (i32lt.mpr q)
    rw [if_neg c]; split <;> omega
theorem archM {t : Tal} {b : Stg} (ht : gT t) (hb : gS b) : (if sKick t b = 0 then (0 : Int32) else if sLess t b ≤ 0 then -4 else sKick t b * b.2.2.2 / sLess t b) = sArchAt t b 0 := by
  have k := sKick_b ht hb
  have l := sLess_b ht hb
  have d := hb.2.2.2.2.2.2
  have nl : ¬ sLess t b ≤ 0 := fun q => by have := i32le.mp q; have e0 : (0 : Int32).toInt = 0 := rfl; omega
  have e100 : (100 : Int32).toInt = 100 := rfl
  have m1 := zmul_le k.1 (show 0 ≤ b.2.2.2.toInt by omega) k.2 d.2
  have e1 : (sKick t b * b.2.2.2).toInt = (sKick t b).toInt * b.2.2.2.toInt := zmul (by omega) (by omega)
  have e2 : ((100 : Int32) - 0).toInt = 100 := by decide
  have e3 : (sKick t b * b.2.2.2 * (100 - 0)).toInt = (sKick t b).toInt * b.2.2.2.toInt * 100 := by rw [zmul (by rw [e1, e2]; omega) (by rw [e1, e2]; omega), e1, e2]
  have e4 : (sLess t b * 100).toInt = (sLess t b).toInt * 100 := zmul (by rw [e100]; omega) (by rw [e100]; omega)
  have e5 : (sArchAt t b 0).toInt = (sKick t b).toInt * b.2.2.2.toInt / (sLess t b).toInt := by
    unfold sArchAt
    rw [if_neg nl, zdiv (by omega) (by omega), e3, e4]
    exact Int.mul_ediv_mul_of_pos_left _ _ (by decide)
  apply Int32.toInt_inj.mp
  rw [e5]
  by_cases c : sKick t b = 0
  · rw [if_pos c, c]; simp
  · rw [if_neg c, if_neg nl, zdiv (by omega) (by omega), e1]
theorem slantM {t : Tal} {b : Stg} {q : Int32} (ht : gT t) (hb : gS b) : (if sKick t b = 0 then (0 : Int32) else if sLess t b ≤ 0 then -4 else sKick t b * b.2.2.2 * (100 - q) / (100 * sLess t b)) = sArchAt t b q := by
  have l := sLess_b ht hb
  have nl : ¬ sLess t b ≤ 0 := fun q => by have := i32le.mp q; have e0 : (0 : Int32).toInt = 0 := rfl; omega
  unfold sArchAt
  rw [if_neg nl, Int32.mul_comm 100 (sLess t b)]
  by_cases c : sKick t b = 0
  · rw [if_pos c, if_neg nl, c, Int32.zero_mul, Int32.zero_mul, Int32.zero_div]
  · rw [if_neg c, if_neg nl]
