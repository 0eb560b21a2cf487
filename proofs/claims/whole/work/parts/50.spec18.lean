/-! ===== what every call keeps ===== -/
theorem i32n0 : (0 : Int32).toInt = 0 := rfl
theorem g_sh_up {sh : Nat → Shf} (h : ∀ d, d < 8 → gShf (sh d)) (m : Nat) {s : Shf} (hs : gShf s) : ∀ d, d < 8 → gShf (va_up sh m s d) := fun d hd => by
  by_cases e : d = m
  · rw [e, va_up_self]; exact hs
  · rw [va_up_ne _ _ e]; exact h d hd
section GX
variable {sc ps : Scn} {sh : Nat → Shf}
theorem gX_set (h : gX sc ps sh) (what q : Int32) : gX (sSetN sc what q) ps sh := by
  refine ⟨?_, h.2⟩
  have hg := h.1
  unfold sSetN
  by_cases c : bMay what q ∧ ¬ bSetNo sc what q
  · rw [if_pos c]
    obtain ⟨hm, hno⟩ := c
    obtain ⟨⟨s1, s2, s3, s4, s5, s6, s7, s8⟩, l1, l2, tr, t1, t2, ⟨c1, c2, c3, c4, c5, c6⟩, k1, k2⟩ := hg
    rcases hm with ⟨e, b1, b2⟩ | ⟨e, b1, b2⟩ | ⟨e, b1, b2⟩ | ⟨e, b1, b2⟩
    · have a1 := i32le.mp b1
      have a2 := i32le.mp b2
      rcases e with e | e
      · subst e
        rw [sSetS_0]
        exact ⟨⟨a1, a2, s3, s4, s5, s6, s7, s8⟩, l1, l2, tr, t1, t2, ⟨c1, c2, c3, c4, c5, c6⟩, k1, k2⟩
      · subst e
        rw [sSetS_1]
        exact ⟨⟨s1, s2, a1, a2, s5, s6, s7, s8⟩, l1, l2, tr, t1, t2, ⟨c1, c2, c3, c4, c5, c6⟩, k1, k2⟩
    · have a1 := i32le.mp b1
      have a2 := i32le.mp b2
      subst e
      rw [sSetS_2]
      exact ⟨⟨s1, s2, s3, s4, a1, a2, s7, s8⟩, l1, l2, tr, t1, t2, ⟨c1, c2, c3, c4, c5, c6⟩, k1, k2⟩
    · have a1 := i32le.mp b1
      have a2 := i32le.mp b2
      subst e
      rw [sSetS_3]
      have a3 : sc.2.2.2.2.2.2.2.1.toInt ≤ q.toInt := by
        rcases Int.le_total sc.2.2.2.2.2.2.2.1.toInt q.toInt with x | x
        · exact x
        · exact absurd ⟨rfl, i32le.mpr x⟩ hno
      exact ⟨⟨s1, s2, s3, s4, s5, s6, s7, s8⟩, a1, a2, tr, t1, t2, ⟨c1, c2, c3, c4, c5, a3⟩, k1, k2⟩
    · have a1 := i32le.mp b1
      have a2 := i32le.mp b2
      subst e
      rw [sSetS_4]
      exact ⟨⟨s1, s2, s3, s4, s5, s6, a1, a2⟩, l1, l2, tr, t1, t2, ⟨c1, c2, c3, c4, c5, c6⟩, k1, k2⟩
  · rw [if_neg c]; exact hg
theorem gX_leave (h : gX sc ps sh) : gX (if 0 < sc.2.2.2.1 then (sc.1, sc.2.1, sc.2.2.1, sc.2.2.2.1 - 1, sc.2.2.2.2) else sc) ps sh := by
  refine ⟨?_, h.2⟩
  obtain ⟨g1, l1, l2, tr, t1, t2, g7⟩ := h.1
  by_cases c : 0 < sc.2.2.2.1
  · rw [if_pos c]
    have a := i32lt.mp c
    have e1 : (1 : Int32).toInt = 1 := rfl
    have e : (sc.2.2.2.1 - 1).toInt = sc.2.2.2.1.toInt - 1 := zsub (by rw [e1]; omega) (by rw [e1]; omega)
    have z := i32n0
    exact ⟨g1, l1, l2, tr, by show 0 ≤ (sc.2.2.2.1 - 1).toInt; omega, by show (sc.2.2.2.1 - 1).toInt ≤ 8; omega, g7⟩
  · rw [if_neg c]; exact h.1
theorem gX_anew (h : gX sc ps sh) : gX (sc.1, sc.2.1, sc.2.2.1, sc.2.2.2.1, sCC) ps sh := by
  refine ⟨?_, h.2⟩
  obtain ⟨g1, l1, l2, tr, t1, t2, g7⟩ := h.1
  exact ⟨g1, l1, l2, tr, t1, t2, gC_0 l1, by show (0 : Int) ≤ (0 : Int32).toInt; decide, by show (0 : Int32).toInt ≤ 9999; decide⟩
theorem gX_image (h : gX sc ps sh) : gX sc sc sh := ⟨h.1, h.1, h.2.2⟩
theorem gX_restore (h : gX sc ps sh) (pic : Int32) : gX (if pic = 0 then sc else ps) ps sh := by
  refine ⟨?_, h.2⟩
  split
  · exact h.1
  · exact h.2.1
theorem sIt_tick (kk ls dr ln : Int32) (c : Crs) : ∀ k, (sIt (sStep kk ls dr ln) k c).1 = c.1 + nI k
  | 0 => by show c.1 = c.1 + nI 0; rw [nI_0, Int32.add_zero]
  | k + 1 => by
    show (sStep kk ls dr ln (sIt (sStep kk ls dr ln) k c)).1 = _
    have ih := sIt_tick kk ls dr ln c k
    have e : (sStep kk ls dr ln (sIt (sStep kk ls dr ln) k c)).1 = (sIt (sStep kk ls dr ln) k c).1 + 1 := by unfold sStep; split <;> rfl
    rw [e, ih, Int32.add_assoc, nI_1]
theorem gX_run (h : gX sc ps sh) (d q : Int32) : gX (sRunS sc sh d q) ps sh := by
  refine ⟨?_, h.2⟩
  unfold sRunS
  by_cases c : bRun d q ∧ sc.2.2.2.2.1 + q ≤ 9999 ∧ sStR sh d = 0
  · rw [if_pos c]
    obtain ⟨⟨-, hq⟩, hle, hz⟩ := c
    have hd := sStR_0 hz
    have ht := (h.2.2 _ hd.1.2).1 hd.2
    obtain ⟨g1, l1, l2, tr, t1, t2, g7, k1, k2⟩ := h.1
    have hk := gK_sc (t := (sh (iN d)).2.1) ht h.1
    have hc := sIt_gC hk g7 (iN q)
    have hqn := bIn_n (N := 500) hq (by decide) rfl
    have q1 := i32le.mp hq.1
    have q2 := i32le.mp hq.2
    have e1 : (1 : Int32).toInt = 1 := rfl
    have e5 : (500 : Int32).toInt = 500 := rfl
    have e9 : (9999 : Int32).toInt = 9999 := rfl
    have ht2 : (sRunC sc sh d q).1 = sc.2.2.2.2.1 + q := by
      unfold sRunC
      rw [sIt_tick]
      rw [← hqn.1]
    have hs : (sc.2.2.2.2.1 + q).toInt = sc.2.2.2.2.1.toInt + q.toInt := zadd (by omega) (by omega)
    have h9 := i32le.mp hle
    refine ⟨g1, l1, l2, tr, t1, t2, hc, ?_, ?_⟩
    · show 0 ≤ (sRunC sc sh d q).1.toInt
      rw [ht2]; omega
    · show (sRunC sc sh d q).1.toInt ≤ 9999
      rw [ht2]; omega
  · rw [if_neg c]; exact h.1
theorem zfb_spec {P : Nat → Prop} [DecidablePred P] : ∀ (f i : Nat), zfb P f i = i + f → ∀ j, i ≤ j → j < i + f → P j
  | 0, i, _, j, h1, h2 => absurd h2 (by omega)
  | f + 1, i, h, j, h1, h2 => by
    have h3 : (if P i then zfb P f (i + 1) else i) = i + (f + 1) := h
    by_cases c : P i
    · rw [if_pos c] at h3
      by_cases e : j = i
      · rw [e]; exact c
      · exact zfb_spec f (i + 1) (by omega) j (by omega) (by omega)
    · rw [if_neg c] at h3; omega
theorem gX_tries {d r : Int32} {tr1 : Nat → Stg} {tc1 : Int32} (h : gX sc ps sh) (hT : TQ sc sh d r tr1 tc1) : gX (sc.1, sc.2.1, tr1, tc1, sc.2.2.2.2) ps sh := by
  refine ⟨?_, h.2⟩
  have htc := tc_n h.1
  obtain ⟨g1, l1, l2, tr, t1, t2, g7⟩ := h.1
  rcases hT with ⟨-, e1, e2⟩ | ⟨-, -, hT⟩
  · rw [e1, e2]; exact ⟨g1, l1, l2, tr, t1, t2, g7⟩
  · obtain ⟨N, hS, hN, -, -, htr, -, etc⟩ := hT
    generalize sNext (sh (iN d)).2.2.2.2 (nI (iN (sh (iN d)).2.2.2.1)) = ch at hS etc
    by_cases c : bTGood ch sc.1 sc.2.2.2.1 N
    · rw [if_pos c] at etc
      have hall : ∀ i, i < N → bOk ch sc.1 sc.2.2.2.1 i := fun i hi => zfb_spec N 0 (by rw [c.2]; omega) i (Nat.zero_le _) (by omega)
      have hroom := ok_room htc ⟨hS.1, hN⟩ hall
      have e : tc1 = nI (iN sc.2.2.2.1 + N) := by rw [etc, ← nI_add, ← htc.1]
      refine ⟨g1, l1, l2, htr, ?_, ?_, g7⟩
      · show 0 ≤ tc1.toInt
        rw [e, nI_toInt (by omega)]; omega
      · show tc1.toInt ≤ 8
        rw [e, nI_toInt (by omega)]; omega
    · rw [if_neg c] at etc
      exact ⟨g1, l1, l2, htr, by show 0 ≤ tc1.toInt; rw [etc]; exact t1, by show tc1.toInt ≤ 8; rw [etc]; exact t2, g7⟩
theorem gX_keep (h : gX sc ps sh) (d what k f : Int32) : gX sc ps (sKeepS sh d what k f) := by
  refine ⟨h.1, h.2.1, ?_⟩
  unfold sKeepS
  by_cases c : bKeep d what k f
  · rw [if_pos c]
    obtain ⟨⟨hd, hw⟩, hk⟩ := c
    have g := h.2.2 _ (bSh_i hd).2
    refine g_sh_up h.2.2 _ ?_
    by_cases e : what = 0
    · rw [if_pos e]
      exact ⟨fun q => absurd (show (0 : Int32) = 1 from q) (by decide), g.2⟩
    · rw [if_neg e]
      rcases hk with hk | ⟨⟨a1, a2⟩, a3, a4⟩
      · exact absurd hk e
      · exact ⟨fun _ => ⟨i32le.mp a1, i32le.mp a2, i32le.mp a3, i32le.mp a4⟩, g.2⟩
  · rw [if_neg c]; exact h.2.2
theorem gX_row (h : gX sc ps sh) (d so q : Int32) : gX sc ps (sRowS sh d so q) := by
  refine ⟨h.1, h.2.1, ?_⟩
  unfold sRowS
  by_cases c : bRow d so q ∧ ¬ q < 0
  · rw [if_pos c]
    obtain ⟨⟨hd, ⟨a1, a2⟩, a3⟩, a4⟩ := c
    refine g_sh_up h.2.2 _ ⟨fun q => absurd (show (2 : Int32) = 1 from q) (by decide), i32le.mp (Int32.not_lt.mp a4), i32le.mp a3, i32le.mp a1, i32le.mp a2, fun _ i hi => ?_⟩
    show -128 ≤ (zfill (sh (iN d)).2.2.2.2 100 i).toInt ∧ (zfill (sh (iN d)).2.2.2.2 100 i).toInt ≤ 127
    unfold zfill
    rw [if_pos hi]; decide
  · rw [if_neg c]; exact h.2.2
theorem sNar_b (v : Int32) : -128 ≤ (sNar 0 v).toInt ∧ (sNar 0 v).toInt ≤ 127 := by
  unfold sNar
  rw [if_pos rfl, Int8.toInt_toInt32]
  exact ⟨Int8.le_toInt _, Int.lt_add_one_iff.mp (Int8.toInt_lt _)⟩
theorem gX_put (h : gX sc ps sh) (d i v : Int32) : gX sc ps (sPutS sh d i v) := by
  refine ⟨h.1, h.2.1, ?_⟩
  unfold sPutS
  by_cases c : sRowR sh d = 0 ∧ bPlace (sh (iN d)).2.2.2.1 i
  · rw [if_pos c]
    have hd := sRowR_0 c.1
    obtain ⟨b1, b2, b3, b4, b5, b6⟩ := h.2.2 _ hd.1.2
    refine g_sh_up h.2.2 _ ⟨b1, b2, b3, b4, b5, fun e k hk => ?_⟩
    have e : (sh (iN d)).2.2.1 = 0 := e
    show -128 ≤ (upd (sh (iN d)).2.2.2.2 (iN i) (sNar (sh (iN d)).2.2.1 v) k).toInt ∧ (upd (sh (iN d)).2.2.2.2 (iN i) (sNar (sh (iN d)).2.2.1 v) k).toInt ≤ 127
    rw [e]
    by_cases q : k = iN i
    · rw [q, upd_at]; exact sNar_b v
    · rw [upd_nt _ _ q]; exact b6 e k hk
  · rw [if_neg c]; exact h.2.2
theorem gX_copy (h : gX sc ps sh) (d i e j q : Int32) : gX sc ps (sCopyS sh d i e j q) := by
  refine ⟨h.1, h.2.1, ?_⟩
  unfold sCopyS
  by_cases c : sFirst (sRowR sh d) (sRowR sh e) = 0 ∧ (sh (iN d)).2.2.1 = (sh (iN e)).2.2.1 ∧ bCopy sh d i e j q
  · rw [if_pos c]
    obtain ⟨hz, hs, hc⟩ := c
    have hz2 := sFirst_0 (sRowR_le sh d) (sRowR_le sh e) hz
    have hd := sRowR_0 hz2.1
    have he := sRowR_0 hz2.2
    have gd := h.2.2 _ hd.1.2
    obtain ⟨b1, b2, b3, b4, b5, b6⟩ := h.2.2 _ he.1.2
    have hi := bStretch_in hc.1 gd.2.1 gd.2.2.1
    refine g_sh_up h.2.2 _ ⟨b1, b2, b3, b4, b5, fun e0 k hk => ?_⟩
    have e0 : (sh (iN e)).2.2.1 = 0 := e0
    have ed : (sh (iN d)).2.2.1 = 0 := hs.trans e0
    show -128 ≤ (va_cpy (sh (iN d)).2.2.2.2 (sh (iN e)).2.2.2.2 (iN i) (iN j) (iN q) k).toInt ∧ (va_cpy (sh (iN d)).2.2.2.2 (sh (iN e)).2.2.2.2 (iN i) (iN j) (iN q) k).toInt ≤ 127
    unfold va_cpy
    have h9 : iN i + iN q ≤ 100 := hi.2.2
    by_cases w : iN j ≤ k ∧ k < iN j + iN q
    · rw [if_pos w]; exact gd.2.2.2.2.2 ed _ (by omega)
    · rw [if_neg w]; exact b6 e0 k hk
  · rw [if_neg c]; exact h.2.2
end GX
theorem gX_0 : gX sc0 sc0 (fun _ => sf0) := by
  have hs : gS bst0 := ⟨by decide, by decide, by decide, by decide, by decide, by decide, by decide, by decide⟩
  have h : gScn sc0 := ⟨hs, by decide, by decide, fun _ _ => hs, by decide, by decide, gC_0 (by decide), by decide, by decide⟩
  have hf : gShf sf0 := ⟨fun q => absurd (show (0 : Int32) = 1 from q) (by decide), by decide, by decide, by decide, by decide, fun _ i _ => by show -128 ≤ (0 : Int32).toInt ∧ (0 : Int32).toInt ≤ 127; decide⟩
  exact ⟨h, h, fun d _ => hf⟩
/-! ===== one side's cells under the other's writing ===== -/
section FRS
variable {ad cy : Nat → Nat} {F F1 : Nat → va_E}
theorem RM_fr {th pic : Int32} {sc ps : Scn} {sh : Nat → Shf} (h : RM ad cy F th pic sc ps sh) (hF : fr56 F F1) : RM ad cy F1 th pic sc ps sh := RM_mv h (fun _ _ => rfl) (fun j h1 _ => hF j h1)
theorem RX_fr {pic : Int32} {sc ps : Scn} {sh : Nat → Shf} {rd : Rdr} {dr : Stg} {fa : Tal} {mi : Crs} (h : RX ad cy F pic sc ps sh rd dr fa mi) (hF : ∀ j, j < 56 → F1 j = F j) : RX ad cy F1 pic sc ps sh rd dr fa mi := by
  obtain ⟨h1, h2, h3, h4, h5, h6, h7, h8, h9, h10⟩ := h
  exact ⟨(hF _ (by omega)).trans h1, RS_fr h2 (fun q _ _ => hF q (by omega)), RS_fr h3 (fun q _ _ => hF q (by omega)), (hF _ (by omega)).trans h4, fun i hi => RSh_fr (h5 i hi) (fun q _ _ => hF q (by omega)), RRd_fr h6 (fun q _ _ => hF q (by omega)), (hF _ (by omega)).trans h7, (hF _ (by omega)).trans h8, (hF _ (by omega)).trans h9, (hF _ (by omega)).trans h10⟩
end FRS
