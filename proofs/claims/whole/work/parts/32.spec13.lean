/-! ===== TICKS and two shelves in the reference ===== -/
section TK
variable {t : Tal} {b : Stg} {sc : Scn}
theorem gK_sc (ht : gT t) (hg : gScn sc) : gK (sKick t sc.1) (sLess t sc.1) sc.1.2.2.2 sc.2.1 := gK_of ht hg.1 hg.2.1 hg.2.2.1
theorem sPB_0 (q : Nat) : sPB t sc 0 q = sIt (sF t sc) q sCC := by
  show sIt (sStep (sKick t sc.1) (sLess t sc.1 - 0) sc.1.2.2.2 sc.2.1) q sCC = _
  rw [Int32.sub_zero]
theorem less_more (k d m h : Int32) : 100 - k - (d + m) + h = 100 - k - d + h - m := by
  rw [Int32.sub_eq_add_neg, Int32.sub_eq_add_neg, Int32.sub_eq_add_neg, Int32.sub_eq_add_neg, Int32.neg_add, Int32.sub_eq_add_neg]
  ac_rfl
theorem gK_more (ht : gT t) (hg : gScn sc) {m : Int32} (hm : bIn m 0 40) : gK (sKick t sc.1) (100 - sKick t sc.1 - (sDraw t + m) + sHold t) sc.1.2.2.2 sc.2.1 := by
  rw [less_more]
  have k := gK_sc ht hg
  have l := sLess_b ht hg.1
  have a := i32le.mp hm.1
  have c := i32le.mp hm.2
  have e0 : (0 : Int32).toInt = 0 := rfl
  have e4 : (40 : Int32).toInt = 40 := rfl
  obtain ⟨k1, k2, k3, k4, k5⟩ := k
  have e : (sLess t sc.1 - m).toInt = (sLess t sc.1).toInt - m.toInt := zsub (by omega) (by omega)
  refine ⟨k1, k2, ?_, ?_, k5⟩
  · show -20 ≤ (sLess t sc.1 - m).toInt
    rw [e]; omega
  · show (sLess t sc.1 - m).toInt ≤ 140
    rw [e]; omega
theorem mScale (t : Tal) (sc : Scn) (q : Int32) (c : Crs) (h : c = sPB t sc 0 (iN q)) : 2 * (sc.2.1 - c.2.2.2.1) + c.2.1 * c.2.1 * sKick t sc.1 / 10000 = sScale t sc q := by
  subst h
  unfold sScale
  rw [Int32.mul_comm 2]
end TK
theorem zfind_0 (P : Nat → Bool) (i : Nat) : zfind P 0 i = -4 := rfl
def refK (a : Int32) (sh : Nat → Shf) (d : Int32) : Int32 := if bSh d then (if (sh (iN d)).1 = 0 then -11 else if (sh (iN d)).1 = a then 0 else -12) else -1
theorem refK_1 (sh : Nat → Shf) (d : Int32) : sStR sh d = refK 1 sh d := rfl
theorem refK_2 (sh : Nat → Shf) (d : Int32) : sRowR sh d = refK 2 sh d := rfl
section TWO
variable {a c : Int32} {hw : Nat → Int32} {sh : Nat → Shf} {d e : Int32}
theorem mTwo_neg (hH : ∀ d, d < 8 → hw d = (sh d).1) (h : mTwo hw d e < 0) : mTwo hw d e = sFirst (refK a sh d) (refK c sh e) := by
  unfold mTwo at h ⊢
  unfold refK
  by_cases h1 : bSh d
  · by_cases h2 : bSh e
    · rw [if_pos ⟨h1, h2⟩, hH _ (bSh_i h1).2, hH _ (bSh_i h2).2] at h ⊢
      rw [if_pos h1, if_pos h2]
      by_cases h3 : (sh (iN d)).1 = 0
      · rw [if_pos (Or.inl h3), if_pos h3]
        split
        · decide
        · split <;> decide
      · by_cases h4 : (sh (iN e)).1 = 0
        · rw [if_pos (Or.inr h4), if_neg h3, if_pos h4]
          split <;> decide
        · rw [if_neg (fun q => q.elim h3 h4)] at h
          exact absurd h (by decide)
    · rw [if_neg (fun q => h2 q.2), if_neg h2, if_pos h1]
      split
      · decide
      · split <;> decide
  · rw [if_neg (fun q => h1 q.1), if_neg h1]
    split
    · split
      · decide
      · split <;> decide
    · decide
theorem mTwo_ge (h : ¬ mTwo hw d e < 0) : (bSh d ∧ bSh e) ∧ ¬ hw (iN d) = 0 ∧ ¬ hw (iN e) = 0 := by
  unfold mTwo at h
  by_cases h1 : bSh d ∧ bSh e
  · rw [if_pos h1] at h
    by_cases h2 : hw (iN d) = 0 ∨ hw (iN e) = 0
    · rw [if_pos h2] at h; exact absurd (by decide) h
    · exact ⟨h1, fun q => h2 (Or.inl q), fun q => h2 (Or.inr q)⟩
  · rw [if_neg h1] at h; exact absurd (by decide) h
theorem two_12 (hH : ∀ d, d < 8 → hw d = (sh d).1) (h : (bSh d ∧ bSh e) ∧ ¬ hw (iN d) = 0 ∧ ¬ hw (iN e) = 0) (h2 : ¬ hw (iN d) = a ∨ ¬ hw (iN e) = c) : (-12 : Int32) = sFirst (refK a sh d) (refK c sh e) := by
  obtain ⟨⟨h1, h3⟩, h4, h5⟩ := h
  rw [hH _ (bSh_i h1).2] at h4 h2
  rw [hH _ (bSh_i h3).2] at h5 h2
  unfold refK
  rw [if_pos h1, if_pos h3, if_neg h4, if_neg h5]
  by_cases q : (sh (iN d)).1 = a
  · rw [if_pos q, if_neg (h2.resolve_left (fun x => x q))]; decide
  · rw [if_neg q]; split <;> decide
theorem two_0 (hH : ∀ d, d < 8 → hw d = (sh d).1) (h : (bSh d ∧ bSh e) ∧ ¬ hw (iN d) = 0 ∧ ¬ hw (iN e) = 0) (h2 : hw (iN d) = a) (h3 : hw (iN e) = c) : sFirst (refK a sh d) (refK c sh e) = 0 := by
  obtain ⟨⟨h1, h6⟩, h4, h5⟩ := h
  rw [hH _ (bSh_i h1).2] at h4 h2
  rw [hH _ (bSh_i h6).2] at h5 h3
  unfold refK
  rw [if_pos h1, if_pos h6, if_neg h4, if_neg h5, if_pos h2, if_pos h3]; decide
end TWO
