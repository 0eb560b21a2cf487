def TI (ch : Int32 → Int32) (t : Stg) (tc : Int32) (tr0 : Nat → Stg) (j : Nat) (wv : Int32) (tr1 : Nat → Stg) : Prop :=
  ((wv = -1 ∧ ∀ i, i < j → bOk ch t tc i) ∨ (∃ k, k < j ∧ (∀ i, i < k → bOk ch t tc i) ∧ ¬ bOk ch t tc k ∧ wv = (sU ch t k).1)) ∧ (∀ i, i < iN tc → tr1 i = tr0 i) ∧ (∀ i, i < 8 → gS (tr1 i)) ∧ (wv = -1 → ∀ i, i < j → tr1 (iN tc + i) = sTS ch t i)
def TPost (ch : Int32 → Int32) (t : Stg) (z tc : Int32) (tr0 : Nat → Stg) (r : Int32) (tr1 : Nat → Stg) (tc1 : Int32) : Prop :=
  ∃ N, Stop ch t z N ∧ N ≤ 34 ∧ r = sTRes ch t tc N ∧ (∀ i, i < iN tc → tr1 i = tr0 i) ∧ (∀ i, i < 8 → gS (tr1 i)) ∧ (bTGood ch t tc N → ∀ i, i < N → tr1 (iN tc + i) = sTS ch t i) ∧ tc1 = if bTGood ch t tc N then tc + nI N else tc
section TIL
variable {ch : Int32 → Int32} {t : Stg} {z tc wv : Int32} {tr0 tr1 : Nat → Stg} {j : Nat}
theorem m1_not : ¬ (0 : Int32) ≤ -1 := by decide
theorem TI_0 (h : ∀ i, i < 8 → gS (tr0 i)) : TI ch t tc tr0 0 (-1) tr0 := ⟨Or.inl ⟨rfl, fun i hi => absurd hi (Nat.not_lt_zero _)⟩, fun _ _ => rfl, h, fun _ i hi => absurd hi (Nat.not_lt_zero _)⟩
theorem TI_skip (h : TI ch t tc tr0 j wv tr1) (hw : 0 ≤ wv) : TI ch t tc tr0 (j + 1) wv tr1 := by
  obtain ⟨h1, h2, h3, h4⟩ := h
  refine ⟨Or.inr ?_, h2, h3, fun e => absurd (e ▸ hw) m1_not⟩
  rcases h1 with ⟨e, -⟩ | ⟨k, k1, k2, k3, k4⟩
  · exact absurd (e ▸ hw) m1_not
  · exact ⟨k, by omega, k2, k3, k4⟩
theorem TI_m1 (h : TI ch t tc tr0 j wv tr1) (hw : ¬ 0 ≤ wv) (hn : ∀ k, 0 ≤ (sU ch t k).1) : wv = -1 ∧ ∀ i, i < j → bOk ch t tc i := by
  rcases h.1 with e | ⟨k, k1, k2, k3, k4⟩
  · exact e
  · exact absurd (k4 ▸ hn k) hw
theorem TI_ok (h : TI ch t tc tr0 j wv tr1) (hw : ¬ 0 ≤ wv) (hn : ∀ k, 0 ≤ (sU ch t k).1) (hok : bOk ch t tc j) (hx : iN (tc + nI j) = iN tc + j) : TI ch t tc tr0 (j + 1) wv (va_up tr1 (iN (tc + nI j)) (sTS ch t j)) := by
  have hm := TI_m1 h hw hn
  obtain ⟨h1, h2, h3, h4⟩ := h
  rw [hx]
  refine ⟨Or.inl ⟨hm.1, fun i hi => ?_⟩, fun i hi => ?_, fun i hi => ?_, fun e i hi => ?_⟩
  · by_cases e : i = j
    · rw [e]; exact hok
    · exact hm.2 i (by omega)
  · rw [va_up_ne _ _ (by omega)]; exact h2 i hi
  · by_cases e : i = iN tc + j
    · rw [e, va_up_self]; exact gS_of hok.1
    · rw [va_up_ne _ _ e]; exact h3 i hi
  · by_cases e2 : i = j
    · rw [e2, va_up_self]
    · rw [va_up_ne _ _ (by omega)]; exact h4 e i (by omega)
theorem TI_bad (h : TI ch t tc tr0 j wv tr1) (hw : ¬ 0 ≤ wv) (hn : ∀ k, 0 ≤ (sU ch t k).1) (hok : ¬ bOk ch t tc j) : TI ch t tc tr0 (j + 1) (sU ch t j).1 tr1 := by
  have hm := TI_m1 h hw hn
  obtain ⟨h1, h2, h3, h4⟩ := h
  exact ⟨Or.inr ⟨j, by omega, hm.2, hok, rfl⟩, h2, h3, fun e => absurd (e ▸ hn j) m1_not⟩
theorem TPost_broken (h : TI ch t tc tr0 j wv tr1) (hS : Stop ch t z (j + 1)) (hN : j + 1 ≤ 34) (hb : ¬ (sU ch t (j + 1)).2 = 0) : TPost ch t z tc tr0 (-1000 - (sU ch t (j + 1)).1) tr1 tc :=
  ⟨j + 1, hS, hN, (if_neg hb).symm, h.2.1, h.2.2.1, fun g => absurd g.1 hb, (if_neg (fun g => hb g.1)).symm⟩
theorem TPost_bad (h : TI ch t tc tr0 (j + 1) wv tr1) (hS : Stop ch t z (j + 1)) (hN : j + 1 ≤ 34) (hb : (sU ch t (j + 1)).2 = 0) (hw : 0 ≤ wv) : TPost ch t z tc tr0 (-2000 - wv) tr1 tc := by
  obtain ⟨h1, h2, h3, h4⟩ := h
  rcases h1 with ⟨e, -⟩ | ⟨k, k1, k2, k3, k4⟩
  · exact absurd (e ▸ hw) m1_not
  · have e : zfb (bOk ch t tc) (j + 1) 0 = k := zfb_at (j + 1) 0 k (by omega) (by omega) (fun i _ hi => k2 i hi) k3
    have ng : ¬ bTGood ch t tc (j + 1) := fun g => by have := g.2; omega
    refine ⟨j + 1, hS, hN, ?_, h2, h3, fun g => absurd g ng, (if_neg ng).symm⟩
    unfold sTRes
    rw [if_pos hb, if_neg (by omega), e, k4]
theorem TPost_good (h : TI ch t tc tr0 (j + 1) wv tr1) (hS : Stop ch t z (j + 1)) (hN : j + 1 ≤ 34) (hb : (sU ch t (j + 1)).2 = 0) (hw : ¬ 0 ≤ wv) (hn : ∀ k, 0 ≤ (sU ch t k).1) : TPost ch t z tc tr0 (nI (j + 1)) tr1 (tc + nI (j + 1)) := by
  have hm := TI_m1 h hw hn
  have e : zfb (bOk ch t tc) (j + 1) 0 = j + 1 := by rw [zfb_all (j + 1) 0 (fun i _ hi => hm.2 i (by omega))]; omega
  have g : bTGood ch t tc (j + 1) := ⟨hb, e⟩
  refine ⟨j + 1, hS, hN, ?_, h.2.1, h.2.2.1, fun _ => h.2.2.2 hm.1, (if_pos g).symm⟩
  unfold sTRes
  rw [if_pos hb, if_pos e]
theorem tc_add {m : Nat} (ht : tc = nI m) (hm : m ≤ 8) (hj : j ≤ 100) : iN (tc + nI j) = iN tc + j := by
  rw [ht, nI_add, iN_nI (by omega), iN_nI (by omega)]
end TIL
