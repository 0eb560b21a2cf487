/-! ===== TRIES in the reference ===== -/
def TQ (sc : Scn) (sh : Nat → Shf) (d r : Int32) (tr1 : Nat → Stg) (tc1 : Int32) : Prop :=
  (((¬ sRowR sh d = 0 ∧ r = sRowR sh d) ∨ (sRowR sh d = 0 ∧ ¬ (sh (iN d)).2.2.1 = 0 ∧ r = -12)) ∧ tr1 = sc.2.2.1 ∧ tc1 = sc.2.2.2.1) ∨ (sRowR sh d = 0 ∧ (sh (iN d)).2.2.1 = 0 ∧ TPost (sNext (sh (iN d)).2.2.2.2 (nI (iN (sh (iN d)).2.2.2.1))) sc.1 (nI (iN (sh (iN d)).2.2.2.1)) sc.2.2.2.1 sc.2.2.1 r tr1 tc1)
section TQS
variable {sc : Scn} {sh : Nat → Shf} {d r : Int32} {tr1 : Nat → Stg} {tc1 : Int32}
theorem TQ_rf (h : TQ sc sh d r tr1 tc1) (h1 : ¬ sRowR sh d = 0) : sRowR sh d = r ∧ tr1 = sc.2.2.1 ∧ tc1 = sc.2.2.2.1 := by
  rcases h with ⟨h2 | h2, h3⟩ | h2
  · exact ⟨h2.2.symm, h3⟩
  · exact absurd h2.1 h1
  · exact absurd h2.1 h1
theorem TQ_12 (h : TQ sc sh d r tr1 tc1) (h1 : sRowR sh d = 0) (h0 : ¬ (sh (iN d)).2.2.1 = 0) : (-12 : Int32) = r ∧ tr1 = sc.2.2.1 ∧ tc1 = sc.2.2.2.1 := by
  rcases h with ⟨h2 | h2, h3⟩ | h2
  · exact absurd h1 h2.1
  · exact ⟨h2.2.2.symm, h3⟩
  · exact absurd h2.2.1 h0
theorem TQ_T (h : TQ sc sh d r tr1 tc1) (h1 : sRowR sh d = 0) (h0 : (sh (iN d)).2.2.1 = 0) : TPost (sNext (sh (iN d)).2.2.2.2 (nI (iN (sh (iN d)).2.2.2.1))) sc.1 (nI (iN (sh (iN d)).2.2.2.1)) sc.2.2.2.1 sc.2.2.1 r tr1 tc1 := by
  rcases h with ⟨h2 | h2, h3⟩ | h2
  · exact absurd h1 h2.1
  · exact absurd h0 h2.2.1
  · exact h2.2.2
end TQS
def TPU (U : Nat → Int32 × Int32) (S : Nat → Stg) (z tc : Int32) (tr0 : Nat → Stg) (r : Int32) (tr1 : Nat → Stg) (tc1 : Int32) : Prop :=
  ∃ N, (1 ≤ N ∧ (∀ i, 1 ≤ i → i < N → (U i).2 = 0 ∧ (U i).1 < z) ∧ (¬ (U N).2 = 0 ∨ z ≤ (U N).1)) ∧ N ≤ 34 ∧
    r = (if (U N).2 = 0 then (if zfb (fun i => bTold (S i) ∧ 0 ≤ tc + nI i ∧ tc + nI i < 8) N 0 = N then nI N else -2000 - (U (zfb (fun i => bTold (S i) ∧ 0 ≤ tc + nI i ∧ tc + nI i < 8) N 0)).1) else -1000 - (U N).1) ∧
    (∀ i, i < iN tc → tr1 i = tr0 i) ∧ (∀ i, i < 8 → gS (tr1 i)) ∧ (((U N).2 = 0 ∧ zfb (fun i => bTold (S i) ∧ 0 ≤ tc + nI i ∧ tc + nI i < 8) N 0 = N) → ∀ i, i < N → tr1 (iN tc + i) = S i) ∧
    tc1 = if (U N).2 = 0 ∧ zfb (fun i => bTold (S i) ∧ 0 ≤ tc + nI i ∧ tc + nI i < 8) N 0 = N then tc + nI N else tc
theorem TPost_U (ch : Int32 → Int32) (t : Stg) (z tc : Int32) (tr0 : Nat → Stg) (r : Int32) (tr1 : Nat → Stg) (tc1 : Int32) : TPost ch t z tc tr0 r tr1 tc1 = TPU (sU ch t) (sTS ch t) z tc tr0 r tr1 tc1 := rfl
theorem TPost_E {ch ch' : Int32 → Int32} {t : Stg} {z tc : Int32} {tr0 : Nat → Stg} {r : Int32} {tr1 : Nat → Stg} {tc1 : Int32} (h : chE ch ch') (hT : TPost ch t z tc tr0 r tr1 tc1) : TPost ch' t z tc tr0 r tr1 tc1 := by
  rw [TPost_U] at hT ⊢
  rw [← funext (chE_sU (t := t) h), ← funext (chE_sTS (t := t) h)]
  exact hT
section TPL
variable {ch : Int32 → Int32} {t : Stg} {z tc : Int32} {tr0 : Nat → Stg} {r : Int32} {tr1 : Nat → Stg} {tc1 : Int32} {j : Nat}
theorem TP_bad (hT : TPost ch t z tc tr0 r tr1 tc1) (hS : Stop ch t z j) (hb : ¬ (sU ch t j).2 = 0) : -1000 - (sU ch t j).1 = r ∧ tc1 = tc ∧ ∀ i, i < iN tc → tr1 i = tr0 i := by
  obtain ⟨N, h1, h2, h3, h4, h5, h6, h7⟩ := hT
  have e := Stop_uniq h1 hS
  subst e
  refine ⟨?_, h7.trans (if_neg (fun q => hb q.1)), h4⟩
  rw [h3]; unfold sTRes; rw [if_neg hb]
theorem TP_no (hT : TPost ch t z tc tr0 r tr1 tc1) (hS : Stop ch t z j) (hb : (sU ch t j).2 = 0) {k : Nat} (hk : k < j) (h0 : ∀ i, i < k → bOk ch t tc i) (h9 : ¬ bOk ch t tc k) : -2000 - (sU ch t k).1 = r ∧ tc1 = tc ∧ ∀ i, i < iN tc → tr1 i = tr0 i := by
  obtain ⟨N, h1, h2, h3, h4, h5, h6, h7⟩ := hT
  have e := Stop_uniq h1 hS
  subst e
  have ez : zfb (bOk ch t tc) N 0 = k := zfb_at N 0 k (by omega) (by omega) (fun i _ hi => h0 i hi) h9
  refine ⟨?_, h7.trans (if_neg (fun q => by have := q.2; omega)), h4⟩
  rw [h3]; unfold sTRes; rw [if_pos hb, if_neg (by omega), ez]
theorem TP_ok (hT : TPost ch t z tc tr0 r tr1 tc1) (hS : Stop ch t z j) (hb : (sU ch t j).2 = 0) (h0 : ∀ i, i < j → bOk ch t tc i) : nI j = r ∧ tc1 = tc + nI j ∧ (∀ i, i < iN tc → tr1 i = tr0 i) ∧ ∀ i, i < j → tr1 (iN tc + i) = sTS ch t i := by
  obtain ⟨N, h1, h2, h3, h4, h5, h6, h7⟩ := hT
  have e := Stop_uniq h1 hS
  subst e
  have ez : zfb (bOk ch t tc) N 0 = N := by rw [zfb_all N 0 (fun i _ hi => h0 i (by omega))]; omega
  refine ⟨?_, h7.trans (if_pos ⟨hb, ez⟩), h4, h6 ⟨hb, ez⟩⟩
  rw [h3]; unfold sTRes; rw [if_pos hb, if_pos ez]
end TPL
/-- behind j STATEMENTS: where the reference stands -/
def LI (ch : Int32 → Int32) (t : Stg) (z : Int32) (j : Nat) (u : Int32 × Int32) (pl nu : Nat → Int32) : Prop :=
  u = sU ch t j ∧ (∀ i, i < j → pl i = (sU ch t i).1) ∧ (∀ i, i < j → rT nu i (sTS ch t i)) ∧ (∀ i, 1 ≤ i → i < j → (sU ch t i).2 = 0 ∧ (sU ch t i).1 < z) ∧ j ≤ 34
section LIS
variable {ch : Int32 → Int32} {t : Stg} {z : Int32} {zn j : Nat} {u : Int32 × Int32} {pl nu : Nat → Int32}
theorem LI_0 : LI ch t z 0 (0, 0) pl nu := ⟨rfl, fun i h => absurd h (Nat.not_lt_zero _), fun i h => absurd h (Nat.not_lt_zero _), fun i _ h => absurd h (Nat.not_lt_zero _), Nat.zero_le _⟩
theorem LI_G (hP : PR ch (zn : Int)) (h : LI ch t z j u pl nu) : Gq (zn : Int) u := by rw [h.1]; exact (sU_G (by omega) hP j).1
theorem LI_33 (hP : PR ch (zn : Int)) (hz : z = nI zn) (hzn : zn ≤ 100) (h : LI ch t z j u pl nu) (hb : u.2 = 0) (hc : nI j = 0 ∨ ¬ z ≤ u.1) : j ≤ 33 := by
  have hj := h.2.2.2.2
  rcases hc with hc | hc
  · have := (nI_eq (a := j) (b := 0) (by omega) (by decide)).mp hc; omega
  · have a := i32lt.mp (Int32.not_le.mp hc)
    rw [hz, nI_toInt (by omega)] at a
    have b := (sU_G (t := t) (by omega) hP j).2 (by rw [← h.1]; exact hb)
    rw [← h.1] at b
    omega
theorem LI_s (hP : PR ch (zn : Int)) (hz : z = nI zn) (hzn : zn ≤ 100) (h : LI ch t z j u pl nu) (hb : u.2 = 0) (hc : nI j = 0 ∨ ¬ z ≤ u.1) {y : Stg × Int32 × Int32} (hy : y = sStm ch t u) :
    LI ch t z (j + 1) y.2 (upd pl j u.1) (upd (upd (upd (upd nu (4 * j) y.1.1) (4 * j + 1) y.1.2.1) (4 * j + 2) y.1.2.2.1) (4 * j + 3) y.1.2.2.2) := by
  have hl := LI_33 hP hz hzn h hb hc
  obtain ⟨h1, h2, h3, h4, h5⟩ := h
  have e2 : y.2 = sU ch t (j + 1) := by rw [hy, h1]; rfl
  have e1 : y.1 = sTS ch t j := by rw [hy, h1]; rfl
  refine ⟨e2, fun i hi => ?_, fun i hi => ?_, fun i h6 hi => ?_, by omega⟩
  · by_cases c : i = j
    · subst c; rw [upd_at, h1]
    · rw [upd_nt _ _ c]; exact h2 i (by omega)
  · by_cases c : i = j
    · subst c
      rw [← e1]
      refine ⟨?_, ?_, ?_, ?_⟩
      · rw [upd_nt _ _ (by omega), upd_nt _ _ (by omega), upd_nt _ _ (by omega), upd_at]
      · rw [upd_nt _ _ (by omega), upd_nt _ _ (by omega), upd_at]
      · rw [upd_nt _ _ (by omega), upd_at]
      · rw [upd_at]
    · obtain ⟨a0, a1, a2, a3⟩ := h3 i (by omega)
      refine ⟨?_, ?_, ?_, ?_⟩
      · rw [upd_nt _ _ (by omega), upd_nt _ _ (by omega), upd_nt _ _ (by omega), upd_nt _ _ (by omega)]; exact a0
      · rw [upd_nt _ _ (by omega), upd_nt _ _ (by omega), upd_nt _ _ (by omega), upd_nt _ _ (by omega)]; exact a1
      · rw [upd_nt _ _ (by omega), upd_nt _ _ (by omega), upd_nt _ _ (by omega), upd_nt _ _ (by omega)]; exact a2
      · rw [upd_nt _ _ (by omega), upd_nt _ _ (by omega), upd_nt _ _ (by omega), upd_nt _ _ (by omega)]; exact a3
  · by_cases c : i = j
    · subst c
      rw [← h1]
      refine ⟨hb, ?_⟩
      rcases hc with hc | hc
      · have := (nI_eq (a := i) (b := 0) (by omega) (by decide)).mp hc; omega
      · exact Int32.not_le.mp hc
    · exact h4 i h6 (by omega)
theorem LI_bad (h : LI ch t z j u pl nu) (hb : ¬ u.2 = 0) : Stop ch t z j ∧ ¬ (sU ch t j).2 = 0 := by
  have h9 : ¬ (sU ch t j).2 = 0 := by rw [← h.1]; exact hb
  refine ⟨⟨?_, h.2.2.2.1, Or.inl h9⟩, h9⟩
  rcases Nat.eq_zero_or_pos j with c | c
  · subst c; exact absurd rfl h9
  · exact c
theorem LI_end (h : LI ch t z j u pl nu) (hb : u.2 = 0) (h0 : ¬ nI j = 0) (hs : z ≤ u.1) : Stop ch t z j ∧ (sU ch t j).2 = 0 := by
  refine ⟨⟨?_, h.2.2.2.1, Or.inr (by rw [← h.1]; exact hs)⟩, by rw [← h.1]; exact hb⟩
  rcases Nat.eq_zero_or_pos j with c | c
  · subst c; exact absurd rfl h0
  · exact c
end LIS
/-- what is read is not below 0 -/
theorem sDig_b {ch : Int32 → Int32} {q : Int32 × Int32} : 0 ≤ (sDig ch q).1.toInt ∧ (sDig ch q).1.toInt ≤ 9 := by
  unfold sDig
  split
  · rename_i h
    have a := i32le.mp h.2.1
    have b := i32le.mp h.2.2
    have e1 : (48 : Int32).toInt = 48 := rfl
    have e2 : (57 : Int32).toInt = 57 := rfl
    show 0 ≤ (ch q.1 - 48).toInt ∧ (ch q.1 - 48).toInt ≤ 9
    rw [zsub (by omega) (by omega)]; omega
  · show 0 ≤ (0 : Int32).toInt ∧ (0 : Int32).toInt ≤ 9
    decide
theorem sMore_b {ch : Int32 → Int32} {u : Int32 × Int32 × Int32} {B : Int} (h : 0 ≤ u.1.toInt ∧ u.1.toInt ≤ B) (hB : B ≤ 99) : 0 ≤ (sMore ch u).1.toInt ∧ (sMore ch u).1.toInt ≤ 10 * B + 9 := by
  unfold sMore
  split
  · have d := sDig_b (ch := ch) (q := u.2)
    have e : (10 : Int32).toInt = 10 := rfl
    have m : (10 * u.1).toInt = 10 * u.1.toInt := by rw [zmul (by rw [e]; omega) (by rw [e]; omega), e]
    show 0 ≤ (10 * u.1 + (sDig ch u.2).1).toInt ∧ (10 * u.1 + (sDig ch u.2).1).toInt ≤ _
    rw [zadd (by rw [m]; omega) (by rw [m]; omega), m]; omega
  · omega
theorem sNum_b {ch : Int32 → Int32} {q : Int32 × Int32} : 0 ≤ (sNum ch q).1.toInt ∧ (sNum ch q).1.toInt ≤ 999 := by
  unfold sNum
  have a := sMore_b (ch := ch) (sDig_b (ch := ch) (q := q)) (by decide)
  exact sMore_b (ch := ch) a (by decide)
theorem sOpt_b {ch : Int32 → Int32} {g v : Int32} {b : Bool} {q : Int32 × Int32} (hv : 0 ≤ v.toInt) : 0 ≤ (sOpt ch g b v q).1.toInt := by
  by_cases h : bAcc ch g q
  · cases b
    · rw [sOpt_posD h]; exact sDig_b.1
    · rw [sOpt_posN h]; exact sNum_b.1
  · rw [sOpt_neg h]; exact hv
theorem sTS_b {ch : Int32 → Int32} {t : Stg} (ht : gS t) (j : Nat) : 0 ≤ (sTS ch t j).1.toInt ∧ 0 ≤ (sTS ch t j).2.1.toInt ∧ 0 ≤ (sTS ch t j).2.2.1.toInt := by
  obtain ⟨h1, h2, h3, h4, h5, h6, h7⟩ := ht
  unfold sTS
  generalize sU ch t j = q
  unfold sStm
  dsimp only
  exact ⟨(sNum_b (ch := ch) (q := sNeed ch 114 q)).1, sOpt_b h3, sOpt_b h5⟩
theorem rX_tr {told im hw kd fg so mn told1 : Nat → Int32} {rw0 : Nat → Int64} {pic : Int32} {sc ps : Scn} {sh : Nat → Shf} (h : rX told im hw kd fg so mn rw0 pic sc ps sh) {tr1 : Nat → Stg} {tc1 : Int32} (ht : ∀ i, i < iN tc1 → rT told1 i (tr1 i)) : rX told1 im hw kd fg so mn rw0 pic (sc.1, sc.2.1, tr1, tc1, sc.2.2.2.2) ps sh := ⟨ht, h.2⟩
def zdi (f g : Nat → Int32) (b n : Nat) : Nat → Int32 := fun k => if b ≤ k ∧ k < b + n then g (k - b) else f k
theorem zdi_0 (f g : Nat → Int32) (b : Nat) : zdi f g b 0 = f := by funext k; unfold zdi; rw [if_neg (by omega)]
theorem zdi_s (f g : Nat → Int32) (b n : Nat) : upd (zdi f g b n) (b + n) (g n) = zdi f g b (n + 1) := by
  funext k; unfold upd zdi
  by_cases c : k = b + n
  · rw [if_pos c, if_pos (by omega), c, Nat.add_sub_cancel_left]
  · rw [if_neg c]
    by_cases d : b ≤ k ∧ k < b + n
    · rw [if_pos d, if_pos (by omega)]
    · rw [if_neg d, if_neg (by omega)]
theorem rT_old {f g : Nat → Int32} {b n i : Nat} {s : Stg} (h : rT f i s) (hi : i < b) : rT (zdi f g (4 * b) n) i s := by
  obtain ⟨a0, a1, a2, a3⟩ := h
  unfold zdi
  exact ⟨(if_neg (by omega)).trans a0, (if_neg (by omega)).trans a1, (if_neg (by omega)).trans a2, (if_neg (by omega)).trans a3⟩
theorem rT_new {f g : Nat → Int32} {b n i : Nat} {s : Stg} (h : rT g i s) (hi : i < n) : rT (zdi f g (4 * b) (4 * n)) (b + i) s := by
  obtain ⟨a0, a1, a2, a3⟩ := h
  unfold zdi
  refine ⟨(if_pos (by omega)).trans ?_, (if_pos (by omega)).trans ?_, (if_pos (by omega)).trans ?_, (if_pos (by omega)).trans ?_⟩
  · rw [show 4 * (b + i) - 4 * b = 4 * i by omega]; exact a0
  · rw [show 4 * (b + i) + 1 - 4 * b = 4 * i + 1 by omega]; exact a1
  · rw [show 4 * (b + i) + 2 - 4 * b = 4 * i + 2 by omega]; exact a2
  · rw [show 4 * (b + i) + 3 - 4 * b = 4 * i + 3 by omega]; exact a3
section OKS
variable {ch : Int32 → Int32} {t : Stg} {tc : Int32} {nu : Nat → Int32} {i m : Nat}
theorem ok_of (ht : gS t) (hn : rT nu i (sTS ch t i)) (htc : tc = nI m ∧ m ≤ 8) (hi : i ≤ 40) (h0 : ¬ 100 < nu (4 * i)) (h1 : ¬ 100 < nu (4 * i + 1)) (h2 : ¬ 2 < nu (4 * i + 2)) (h3 : bIn (nu (4 * i + 3)) 1 400) (h4 : tc + nI i < 8) : bOk ch t tc i := by
  obtain ⟨a0, a1, a2, a3⟩ := hn
  have b := sTS_b (ch := ch) ht i
  have z0 : (0 : Int32).toInt = 0 := rfl
  rw [a0] at h0; rw [a1] at h1; rw [a2] at h2; rw [a3] at h3
  refine ⟨⟨⟨i32le.mpr (by omega), Int32.not_lt.mp h0⟩, ⟨i32le.mpr (by omega), Int32.not_lt.mp h1⟩, ⟨i32le.mpr (by omega), Int32.not_lt.mp h2⟩, h3⟩, ?_, h4⟩
  rw [htc.1, nI_add]; exact nI_pos' (by omega)
theorem ok_no (hn : rT nu i (sTS ch t i)) (h : 100 < nu (4 * i) ∨ 100 < nu (4 * i + 1) ∨ 2 < nu (4 * i + 2) ∨ ¬ bIn (nu (4 * i + 3)) 1 400 ∨ 8 ≤ tc + nI i) : ¬ bOk ch t tc i := by
  obtain ⟨a0, a1, a2, a3⟩ := hn
  rw [a0, a1, a2, a3] at h
  intro q
  rcases h with h | h | h | h | h
  · exact absurd q.1.1.2 (Int32.not_le.mpr h)
  · exact absurd q.1.2.1.2 (Int32.not_le.mpr h)
  · exact absurd q.1.2.2.1.2 (Int32.not_le.mpr h)
  · exact h q.1.2.2.2
  · exact absurd q.2.2 (Int32.not_lt.mpr h)
theorem ok_room {j : Nat} (htc : tc = nI m ∧ m ≤ 8) (hj : 1 ≤ j ∧ j ≤ 34) (h : ∀ i, i < j → bOk ch t tc i) : m + j ≤ 8 := by
  have a := i32lt.mp (h (j - 1) (by omega)).2.2
  rw [htc.1, nI_add, nI_toInt (by omega)] at a
  have e : (8 : Int32).toInt = 8 := rfl
  omega
end OKS
theorem told_old {told : Nat → Int32} {tc : Int32} {tr0 tr1 : Nat → Stg} (h : ∀ i, i < iN tc → rT told i (tr0 i)) (h2 : ∀ i, i < iN tc → tr1 i = tr0 i) : ∀ i, i < iN tc → rT told i (tr1 i) := fun i hi => by rw [h2 i hi]; exact h i hi
theorem told_new {told nu : Nat → Int32} {tc : Int32} {tr0 tr1 S : Nat → Stg} {j : Nat} (h : ∀ i, i < iN tc → rT told i (tr0 i)) (h2 : ∀ i, i < iN tc → tr1 i = tr0 i) (h3 : ∀ i, i < j → tr1 (iN tc + i) = S i) (h4 : ∀ i, i < j → rT nu i (S i)) (htc : tc = nI (iN tc) ∧ iN tc ≤ 8) (hj : j ≤ 34) :
    ∀ i, i < iN (tc + nI j) → rT (zdi told nu (4 * iN tc) (4 * j)) i (tr1 i) := by
  intro i hi
  rw [tc_add htc.1 htc.2 (by omega)] at hi
  rcases Nat.lt_or_ge i (iN tc) with q | q
  · rw [h2 i q]; exact rT_old (h i q) q
  · obtain ⟨k, hk⟩ : ∃ k, i = iN tc + k := ⟨i - iN tc, by omega⟩
    rw [hk, h3 k (by omega)]
    exact rT_new (h4 k (by omega)) (by omega)
theorem all_s {P : Nat → Prop} {i : Nat} (h : ∀ k, k < i → P k) (h1 : P i) : ∀ k, k < i + 1 → P k := fun k hk => by
  by_cases c : k = i
  · rw [c]; exact h1
  · exact h k (by omega)
