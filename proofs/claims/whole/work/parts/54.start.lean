theorem dL_law_23 : decode cL_law 23 = .ok (.iload 4, 2) := by decide +kernel
theorem dL_law_25 : decode cL_law 25 = .ok (.aload_n 0, 1) := by decide +kernel
theorem dL_law_26 : decode cL_law 26 = .ok (.arraylength, 1) := by decide +kernel
theorem dL_law_27 : decode cL_law 27 = .ok (.bipush 6, 2) := by decide +kernel
theorem dL_law_29 : decode cL_law 29 = .ok (.isub, 1) := by decide +kernel
theorem dL_law_30 : decode cL_law 30 = .ok (.if_icmp .gt 1314, 3) := by decide +kernel
theorem dL_law_33 : decode cL_law 33 = .ok (.aload_n 0, 1) := by decide +kernel
theorem dL_law_34 : decode cL_law 34 = .ok (.iload 4, 2) := by decide +kernel
theorem dL_law_36 : decode cL_law 36 = .ok (.iaload, 1) := by decide +kernel
theorem dL_law_37 : decode cL_law 37 = .ok (.bipush 31, 2) := by decide +kernel
theorem dL_law_39 : decode cL_law 39 = .ok (.iand, 1) := by decide +kernel
theorem dL_law_40 : decode cL_law 40 = .ok (.tableswitch 1298 0 31 #[144, 181, 206, 243, 256, 293, 330, 343, 368, 405, 442, 491, 540, 601, 626, 651, 688, 713, 738, 787, 824, 861, 898, 911, 924, 949, 1010, 1059, 1108, 1175, 1248, 1273], 144) := by decide +kernel
theorem dL_law_1338 : decode cL_law 1338 = .ok (.iinc 4 6, 3) := by decide +kernel
theorem dL_law_1341 : decode cL_law 1341 = .ok (.goto (-1318), 3) := by decide +kernel
theorem dL_law_1344 : decode cL_law 1344 = .ok (.iconst 1, 1) := by decide +kernel
theorem dL_law_1345 : decode cL_law 1345 = .ok (.ireturn, 1) := by decide +kernel
theorem dL_law_0 : decode cL_law 0 = .ok (.new 8, 3) := by decide +kernel
theorem dL_law_3 : decode cL_law 3 = .ok (.dup, 1) := by decide +kernel
theorem dL_law_4 : decode cL_law 4 = .ok (.invokespecial 17, 3) := by decide +kernel
theorem dL_law_7 : decode cL_law 7 = .ok (.astore_n 1, 1) := by decide +kernel
theorem dL_law_8 : decode cL_law 8 = .ok (.new 18, 3) := by decide +kernel
theorem dL_law_11 : decode cL_law 11 = .ok (.dup, 1) := by decide +kernel
theorem dL_law_12 : decode cL_law 12 = .ok (.invokespecial 20, 3) := by decide +kernel
theorem dL_law_15 : decode cL_law 15 = .ok (.astore_n 2, 1) := by decide +kernel
theorem dL_law_16 : decode cL_law 16 = .ok (.iconst 1, 1) := by decide +kernel
theorem dL_law_17 : decode cL_law 17 = .ok (.newarray .long, 2) := by decide +kernel
theorem dL_law_19 : decode cL_law 19 = .ok (.astore_n 3, 1) := by decide +kernel
theorem dL_law_20 : decode cL_law 20 = .ok (.iconst 0, 1) := by decide +kernel
theorem dL_law_21 : decode cL_law 21 = .ok (.istore 4, 2) := by decide +kernel
theorem nL_8 : zNew RL 8 6 9 [.null, .null, .int 0, .null, .null, .null, .null, .null, .null] := ⟨RX6, TX6, tyX6, rfl, inX6, tyX6_ok, gt_of 61 (by decide +kernel) rfl, gt_of 62 (by decide +kernel) rfl, gt_of 45 (by decide +kernel) rfl, fun j hj => match j, hj with | 0, _ => rfl | 1, _ => rfl | 2, _ => rfl | 3, _ => rfl | 4, _ => rfl | 5, _ => rfl | 6, _ => rfl | 7, _ => rfl | 8, _ => rfl | j + 9, h => absurd h (by omega)⟩
theorem nL_18 : zNew RL 18 7 39 [.int 0, .int 0, .int 0, .int 0, .int 0, .int 0, .null, .int 0, .int 0, .int 0, .int 0, .int 0, .int 0, .int 0, .int 0, .int 0, .int 0, .int 0, .null, .null, .int 0, .int 0, .int 0, .int 0, .int 0, .int 0, .int 0, .int 0, .int 0, .null, .int 0, .int 0, .null, .null, .null, .null, .null, .null, .null] := ⟨RX7, TX7, tyX7, rfl, inX7, tyX7_ok, gt_of 752 (by decide +kernel) rfl, gt_of 753 (by decide +kernel) rfl, gt_of 52 (by decide +kernel) rfl, fun j hj => match j, hj with | 0, _ => rfl | 1, _ => rfl | 2, _ => rfl | 3, _ => rfl | 4, _ => rfl | 5, _ => rfl | 6, _ => rfl | 7, _ => rfl | 8, _ => rfl | 9, _ => rfl | 10, _ => rfl | 11, _ => rfl | 12, _ => rfl | 13, _ => rfl | 14, _ => rfl | 15, _ => rfl | 16, _ => rfl | 17, _ => rfl | 18, _ => rfl | 19, _ => rfl | 20, _ => rfl | 21, _ => rfl | 22, _ => rfl | 23, _ => rfl | 24, _ => rfl | 25, _ => rfl | 26, _ => rfl | 27, _ => rfl | 28, _ => rfl | 29, _ => rfl | 30, _ => rfl | 31, _ => rfl | 32, _ => rfl | 33, _ => rfl | 34, _ => rfl | 35, _ => rfl | 36, _ => rfl | 37, _ => rfl | 38, _ => rfl | j + 39, h => absurd h (by omega)⟩
theorem kL_17 : zLk RL 17 yX6_init := Or.inl (gt_of 63 (by decide +kernel) rfl)
theorem iL_17 : zInit RL 17 yX6_init cX6_init 2 := ⟨mX6_init, rfl, gt_of 64 (by decide +kernel) rfl, kL_17⟩
theorem kL_20 : zLk RL 20 yX7_init := Or.inl (gt_of 754 (by decide +kernel) rfl)
theorem iL_20 : zInit RL 20 yX7_init cX7_init 1 := ⟨mX7_init, rfl, gt_of 755 (by decide +kernel) rfl, kL_20⟩
set_option maxRecDepth 100000 in
set_option maxHeartbeats 4000000 in
theorem law_loop {p : Program} {l : Launch} {e : Env} {s : State} {m : MethodId} {below : List Frame} {meth : Method} {c : Code} {b L : Nat} {xs : Nat → Int32} {D : va_G} {cy sa ad : Nat → Nat} (hw : zLaw p l s m meth c b L xs D cy sa) :
    ∀ (N t : Nat) (ls : Array Slot) (F : Nat → va_E) (H : Heap) (locs : List Loc), L + 6 - 6 * t < N → 6 * t ≤ L + 5 → zH D (AL s) s.heap 69 ad F H locs → zJ ad cy F → lv_has ls 8 [(4, .int (nI (6 * t))), (3, .ref (ad 68)), (2, .ref (ad 56)), (1, .ref (ad 0)), (0, .ref b)] →
      W p l e room_1 s m #[Value.ref b] below meth c H locs (69 + t) (2403 + 6 * t) (lw_Z below #[Value.ref b] s) (F0 m 23 ls []) := by
  obtain ⟨hC, hX, hb9, hr, hlocks, hXs, hl9, hL⟩ := id hw
  have hx := hC.1.1
  have hb := hC.1.2.1
  intro N
  induction N with
  | zero => intro t ls F H locs h; exact absurd h (Nat.not_lt_zero _)
  | succ N ih =>
    intro t ls F H locs hN ht hZ hJ hl
    have hk : 6 * t + 6 ≤ L → ∀ (F1 : Nat → va_E) (H1 : Heap) (locs1 : List Loc) (ls1 : Array Slot), zH D (AL s) s.heap 69 ad F1 H1 locs1 → zJ ad cy F1 → lv_has ls1 8 [(4, .int (nI (6 * t))), (3, .ref (ad 68)), (2, .ref (ad 56)), (1, .ref (ad 0)), (0, .ref b)] → W p l e room_1 s m #[Value.ref b] below meth c H1 locs1 (69 + t + 1) (2403 + 6 * t + 6) (lw_Z below #[Value.ref b] s) (F0 m 1338 ls1 []) := by
      intro ht6 F1 H1 locs1 ls1 hZ1 hJ1 hl1
      refine lv_iinc (v := nI (6 * (t + 1))) (lv' := [(4, .int (nI (6 * (t + 1)))), (3, .ref (ad 68)), (2, .ref (ad 56)), (1, .ref (ad 0)), (0, .ref b)]) hx hb dL_law_1338 hl1 (k := 0) rfl (show nI (6 * t) + 6 = nI (6 * (t + 1)) from nI_c (6 * t) 6 6 rfl) (by decide) rfl (fun ls hl => ?_)
      refine lv_goto (tgt := 23) hx hb dL_law_1341 (by decide) ?_
      refine W.widen (k := 69 + (t + 1)) (n := 2403 + 6 * (t + 1)) (by omega) (by omega) ?_
      exact ih (t + 1) ls F1 H1 locs1 (by omega) (by omega) hZ1 hJ1 hl
    refine lv_iload hx hb dL_law_23 (lv_at hl 0 rfl) ?_
    refine lv_aload_n hx hb dL_law_25 rfl (lv_at hl 4 rfl) ?_
    refine zslen hw hZ.2.2 dL_law_26 ?_
    refine lv_bipush (v := 6) hx hb dL_law_27 (by decide) ?_
    refine lv_isub hx hb dL_law_29 ?_
    have e6 : (6 : Int32).toInt = 6 := rfl
    have eL : (nI L).toInt = L := nI_toInt (by omega)
    have eT : (nI (6 * t)).toInt = ((6 * t : Nat) : Int) := nI_toInt (by omega)
    have eS : (nI L - 6).toInt = (L : Int) - 6 := by rw [zsub (by rw [eL, e6]; omega) (by rw [eL, e6]; omega), eL, e6]
    refine lv_icmp_gt (tgt := 1344) hx hb dL_law_30 (by decide) (fun c_30 => ?_) (fun c_30 => ?_)
    · refine lv_iconst (v := 1) hx hb dL_law_1344 (by decide) ?_
      refine va_forget (fun q hq => hZ.2.2.2.2 q hq) ?_
      refine W.widen (k := 600128) (n := 7301098) (by omega) (by omega) ?_
      exact lw_ret hx hb hr hlocks dL_law_1345
    · have ht6 : 6 * t + 6 ≤ L := by
        have h9 : ¬ (nI L - 6).toInt < (nI (6 * t)).toInt := fun q => c_30 (i32lt.mpr q)
        rw [eS, eT] at h9
        omega
      have hcs : 69 + t + 1 ≤ 600128 ∧ 2403 + 6 * t + 6 ≤ 7301098 := ⟨by omega, by omega⟩
      obtain ⟨p0, hp0⟩ : ∃ y, xs (6 * t) = y := ⟨_, rfl⟩
      refine lv_aload_n hx hb dL_law_33 rfl (lv_at hl 4 rfl) ?_
      refine lv_iload hx hb dL_law_34 (lv_at hl 0 rfl) ?_
      refine zsld hw hZ.2.2 rfl (by omega) hp0 dL_law_36 ?_
      refine lv_bipush (v := 31) hx hb dL_law_37 (by decide) ?_
      refine lv_iand hx hb dL_law_39 ?_
      refine lv_topi (fun v hv => ?_)
      by_cases c0 : v = 0
      · refine lv_tableIn (off := 144) (tgt := 184) hx hb dL_law_40 (by rw [c0]; decide) (by rw [c0]; decide) (by rw [c0]; rfl) (by decide) ?_
        exact lk_0 hw ht6 hcs hZ hJ hl (hk ht6)
      by_cases c1 : v = 1
      · refine lv_tableIn (off := 181) (tgt := 221) hx hb dL_law_40 (by rw [c1]; decide) (by rw [c1]; decide) (by rw [c1]; rfl) (by decide) ?_
        exact lk_1 hw ht6 hcs hZ hJ hl (hk ht6)
      by_cases c2 : v = 2
      · refine lv_tableIn (off := 206) (tgt := 246) hx hb dL_law_40 (by rw [c2]; decide) (by rw [c2]; decide) (by rw [c2]; rfl) (by decide) ?_
        exact lk_2 hw ht6 hcs hZ hJ hl (hk ht6)
      by_cases c3 : v = 3
      · refine lv_tableIn (off := 243) (tgt := 283) hx hb dL_law_40 (by rw [c3]; decide) (by rw [c3]; decide) (by rw [c3]; rfl) (by decide) ?_
        exact lk_3 hw ht6 hcs hZ hJ hl (hk ht6)
      by_cases c4 : v = 4
      · refine lv_tableIn (off := 256) (tgt := 296) hx hb dL_law_40 (by rw [c4]; decide) (by rw [c4]; decide) (by rw [c4]; rfl) (by decide) ?_
        exact lk_4 hw ht6 hcs hZ hJ hl (hk ht6)
      by_cases c5 : v = 5
      · refine lv_tableIn (off := 293) (tgt := 333) hx hb dL_law_40 (by rw [c5]; decide) (by rw [c5]; decide) (by rw [c5]; rfl) (by decide) ?_
        exact lk_5 hw ht6 hcs hZ hJ hl (hk ht6)
      by_cases c6 : v = 6
      · refine lv_tableIn (off := 330) (tgt := 370) hx hb dL_law_40 (by rw [c6]; decide) (by rw [c6]; decide) (by rw [c6]; rfl) (by decide) ?_
        exact lk_6 hw ht6 hcs hZ hJ hl (hk ht6)
      by_cases c7 : v = 7
      · refine lv_tableIn (off := 343) (tgt := 383) hx hb dL_law_40 (by rw [c7]; decide) (by rw [c7]; decide) (by rw [c7]; rfl) (by decide) ?_
        exact lk_7 hw ht6 hcs hZ hJ hl (hk ht6)
      by_cases c8 : v = 8
      · refine lv_tableIn (off := 368) (tgt := 408) hx hb dL_law_40 (by rw [c8]; decide) (by rw [c8]; decide) (by rw [c8]; rfl) (by decide) ?_
        exact lk_8 hw ht6 hcs hZ hJ hl (hk ht6)
      by_cases c9 : v = 9
      · refine lv_tableIn (off := 405) (tgt := 445) hx hb dL_law_40 (by rw [c9]; decide) (by rw [c9]; decide) (by rw [c9]; rfl) (by decide) ?_
        exact lk_9 hw ht6 hcs hZ hJ hl (hk ht6)
      by_cases c10 : v = 10
      · refine lv_tableIn (off := 442) (tgt := 482) hx hb dL_law_40 (by rw [c10]; decide) (by rw [c10]; decide) (by rw [c10]; rfl) (by decide) ?_
        exact lk_10 hw ht6 hcs hZ hJ hl (hk ht6)
      by_cases c11 : v = 11
      · refine lv_tableIn (off := 491) (tgt := 531) hx hb dL_law_40 (by rw [c11]; decide) (by rw [c11]; decide) (by rw [c11]; rfl) (by decide) ?_
        exact lk_11 hw ht6 hcs hZ hJ hl (hk ht6)
      by_cases c12 : v = 12
      · refine lv_tableIn (off := 540) (tgt := 580) hx hb dL_law_40 (by rw [c12]; decide) (by rw [c12]; decide) (by rw [c12]; rfl) (by decide) ?_
        exact lk_12 hw ht6 hcs hZ hJ hl (hk ht6)
      by_cases c13 : v = 13
      · refine lv_tableIn (off := 601) (tgt := 641) hx hb dL_law_40 (by rw [c13]; decide) (by rw [c13]; decide) (by rw [c13]; rfl) (by decide) ?_
        exact lk_13 hw ht6 hcs hZ hJ hl (hk ht6)
      by_cases c14 : v = 14
      · refine lv_tableIn (off := 626) (tgt := 666) hx hb dL_law_40 (by rw [c14]; decide) (by rw [c14]; decide) (by rw [c14]; rfl) (by decide) ?_
        exact lk_14 hw ht6 hcs hZ hJ hl (hk ht6)
      by_cases c15 : v = 15
      · refine lv_tableIn (off := 651) (tgt := 691) hx hb dL_law_40 (by rw [c15]; decide) (by rw [c15]; decide) (by rw [c15]; rfl) (by decide) ?_
        exact lk_15 hw ht6 hcs hZ hJ hl (hk ht6)
      by_cases c16 : v = 16
      · refine lv_tableIn (off := 688) (tgt := 728) hx hb dL_law_40 (by rw [c16]; decide) (by rw [c16]; decide) (by rw [c16]; rfl) (by decide) ?_
        exact lk_16 hw ht6 hcs hZ hJ hl (hk ht6)
      by_cases c17 : v = 17
      · refine lv_tableIn (off := 713) (tgt := 753) hx hb dL_law_40 (by rw [c17]; decide) (by rw [c17]; decide) (by rw [c17]; rfl) (by decide) ?_
        exact lk_17 hw ht6 hcs hZ hJ hl (hk ht6)
      by_cases c18 : v = 18
      · refine lv_tableIn (off := 738) (tgt := 778) hx hb dL_law_40 (by rw [c18]; decide) (by rw [c18]; decide) (by rw [c18]; rfl) (by decide) ?_
        exact lk_18 hw ht6 hcs hZ hJ hl (hk ht6)
      by_cases c19 : v = 19
      · refine lv_tableIn (off := 787) (tgt := 827) hx hb dL_law_40 (by rw [c19]; decide) (by rw [c19]; decide) (by rw [c19]; rfl) (by decide) ?_
        exact lk_19 hw ht6 hcs hZ hJ hl (hk ht6)
      by_cases c20 : v = 20
      · refine lv_tableIn (off := 824) (tgt := 864) hx hb dL_law_40 (by rw [c20]; decide) (by rw [c20]; decide) (by rw [c20]; rfl) (by decide) ?_
        exact lk_20 hw ht6 hcs hZ hJ hl (hk ht6)
      by_cases c21 : v = 21
      · refine lv_tableIn (off := 861) (tgt := 901) hx hb dL_law_40 (by rw [c21]; decide) (by rw [c21]; decide) (by rw [c21]; rfl) (by decide) ?_
        exact lk_21 hw ht6 hcs hZ hJ hl (hk ht6)
      by_cases c22 : v = 22
      · refine lv_tableIn (off := 898) (tgt := 938) hx hb dL_law_40 (by rw [c22]; decide) (by rw [c22]; decide) (by rw [c22]; rfl) (by decide) ?_
        exact lk_22 hw ht6 hcs hZ hJ hl (hk ht6)
      by_cases c23 : v = 23
      · refine lv_tableIn (off := 911) (tgt := 951) hx hb dL_law_40 (by rw [c23]; decide) (by rw [c23]; decide) (by rw [c23]; rfl) (by decide) ?_
        exact lk_23 hw ht6 hcs hZ hJ hl (hk ht6)
      by_cases c24 : v = 24
      · refine lv_tableIn (off := 924) (tgt := 964) hx hb dL_law_40 (by rw [c24]; decide) (by rw [c24]; decide) (by rw [c24]; rfl) (by decide) ?_
        exact lk_24 hw ht6 hcs hZ hJ hl (hk ht6)
      by_cases c25 : v = 25
      · refine lv_tableIn (off := 949) (tgt := 989) hx hb dL_law_40 (by rw [c25]; decide) (by rw [c25]; decide) (by rw [c25]; rfl) (by decide) ?_
        exact lk_25 hw ht6 hcs hZ hJ hl (hk ht6)
      by_cases c26 : v = 26
      · refine lv_tableIn (off := 1010) (tgt := 1050) hx hb dL_law_40 (by rw [c26]; decide) (by rw [c26]; decide) (by rw [c26]; rfl) (by decide) ?_
        exact lk_26 hw ht6 hcs hZ hJ hl (hk ht6)
      by_cases c27 : v = 27
      · refine lv_tableIn (off := 1059) (tgt := 1099) hx hb dL_law_40 (by rw [c27]; decide) (by rw [c27]; decide) (by rw [c27]; rfl) (by decide) ?_
        exact lk_27 hw ht6 hcs hZ hJ hl (hk ht6)
      by_cases c28 : v = 28
      · refine lv_tableIn (off := 1108) (tgt := 1148) hx hb dL_law_40 (by rw [c28]; decide) (by rw [c28]; decide) (by rw [c28]; rfl) (by decide) ?_
        exact lk_28 hw ht6 hcs hZ hJ hl (hk ht6)
      by_cases c29 : v = 29
      · refine lv_tableIn (off := 1175) (tgt := 1215) hx hb dL_law_40 (by rw [c29]; decide) (by rw [c29]; decide) (by rw [c29]; rfl) (by decide) ?_
        exact lk_29 hw ht6 hcs hZ hJ hl (hk ht6)
      by_cases c30 : v = 30
      · refine lv_tableIn (off := 1248) (tgt := 1288) hx hb dL_law_40 (by rw [c30]; decide) (by rw [c30]; decide) (by rw [c30]; rfl) (by decide) ?_
        exact lk_30 hw ht6 hcs hZ hJ hl (hk ht6)
      by_cases c31 : v = 31
      · refine lv_tableIn (off := 1273) (tgt := 1313) hx hb dL_law_40 (by rw [c31]; decide) (by rw [c31]; decide) (by rw [c31]; rfl) (by decide) ?_
        exact lk_31 hw ht6 hcs hZ hJ hl (hk ht6)
      refine lv_tableOut (tgt := 1338) hx hb dL_law_40 (by have e100 : ¬ v.toInt = 0 := lv_neT (k := 0) c0 rfl; have e101 : ¬ v.toInt = 1 := lv_neT (k := 1) c1 rfl; have e102 : ¬ v.toInt = 2 := lv_neT (k := 2) c2 rfl; have e103 : ¬ v.toInt = 3 := lv_neT (k := 3) c3 rfl; have e104 : ¬ v.toInt = 4 := lv_neT (k := 4) c4 rfl; have e105 : ¬ v.toInt = 5 := lv_neT (k := 5) c5 rfl; have e106 : ¬ v.toInt = 6 := lv_neT (k := 6) c6 rfl; have e107 : ¬ v.toInt = 7 := lv_neT (k := 7) c7 rfl; have e108 : ¬ v.toInt = 8 := lv_neT (k := 8) c8 rfl; have e109 : ¬ v.toInt = 9 := lv_neT (k := 9) c9 rfl; have e110 : ¬ v.toInt = 10 := lv_neT (k := 10) c10 rfl; have e111 : ¬ v.toInt = 11 := lv_neT (k := 11) c11 rfl; have e112 : ¬ v.toInt = 12 := lv_neT (k := 12) c12 rfl; have e113 : ¬ v.toInt = 13 := lv_neT (k := 13) c13 rfl; have e114 : ¬ v.toInt = 14 := lv_neT (k := 14) c14 rfl; have e115 : ¬ v.toInt = 15 := lv_neT (k := 15) c15 rfl; have e116 : ¬ v.toInt = 16 := lv_neT (k := 16) c16 rfl; have e117 : ¬ v.toInt = 17 := lv_neT (k := 17) c17 rfl; have e118 : ¬ v.toInt = 18 := lv_neT (k := 18) c18 rfl; have e119 : ¬ v.toInt = 19 := lv_neT (k := 19) c19 rfl; have e120 : ¬ v.toInt = 20 := lv_neT (k := 20) c20 rfl; have e121 : ¬ v.toInt = 21 := lv_neT (k := 21) c21 rfl; have e122 : ¬ v.toInt = 22 := lv_neT (k := 22) c22 rfl; have e123 : ¬ v.toInt = 23 := lv_neT (k := 23) c23 rfl; have e124 : ¬ v.toInt = 24 := lv_neT (k := 24) c24 rfl; have e125 : ¬ v.toInt = 25 := lv_neT (k := 25) c25 rfl; have e126 : ¬ v.toInt = 26 := lv_neT (k := 26) c26 rfl; have e127 : ¬ v.toInt = 27 := lv_neT (k := 27) c27 rfl; have e128 : ¬ v.toInt = 28 := lv_neT (k := 28) c28 rfl; have e129 : ¬ v.toInt = 29 := lv_neT (k := 29) c29 rfl; have e130 : ¬ v.toInt = 30 := lv_neT (k := 30) c30 rfl; have e131 : ¬ v.toInt = 31 := lv_neT (k := 31) c31 rfl; omega) (by decide) ?_
      refine W.widen (k := 69 + t + 1) (n := 2403 + 6 * t + 6) (by omega) (by omega) ?_
      exact hk ht6 F H locs ls hZ hJ hl
theorem zK_int {s : State} {b : Nat} (h : (Cond.arrayClass .int).before #[Value.ref b] s = true) : ∃ cA : ClassId, ArrOfT s cA .int ∧ va_RA s cA .int := by
  obtain ⟨cA, kA, comp, h1, h2, h3⟩ := Cond.arrayClass_spec h
  exact ⟨cA, fun n z => ⟨(fun k h => by cases h), kA, h2, comp, h3⟩, h1⟩
theorem zK_long {s : State} {b : Nat} (h : (Cond.arrayClass .long).before #[Value.ref b] s = true) : ∃ cA : ClassId, ArrOfT s cA .long ∧ va_RA s cA .long := by
  obtain ⟨cA, kA, comp, h1, h2, h3⟩ := Cond.arrayClass_spec h
  exact ⟨cA, fun n z => ⟨(fun k h => by cases h), kA, h2, comp, h3⟩, h1⟩
theorem zK_obj {s : State} {b : Nat} {C : String} (h : (Cond.arrayOver (.object C)).before #[Value.ref b] s = true) : ∃ cA : ClassId, ArrOfT s cA (.object C) ∧ va_RA s cA (.object C) := by
  obtain ⟨comp, cA, kA, h1, h2, h3, h4, h5⟩ := Cond.arrayOver_spec h
  exact ⟨cA, fun n z => ⟨(fun k h => by cases h), kA, h3, comp, h4⟩, kA, comp, h3, h4, h1, h5⟩
theorem zstr {s : State} {b : Nat} {own tx : String} {k : Nat} (h1 : (Cond.stringRef own k tx).before #[Value.ref b] s = true) (h2 : (Cond.exactly (.string own k) "java/lang/String").before #[Value.ref b] s = true) : ∃ a : Nat, vk_R own k tx a s := by
  obtain ⟨a, c, cell, kk, q1, -⟩ := Cond.exactly_spec (args := #[Value.ref b]) (first := s) (o := none) (s := s) (idx := []) (t := .string own k) (cls := "java/lang/String") h2
  exact ⟨a, vk_R.of h1 q1⟩
set_option maxRecDepth 100000 in
set_option maxHeartbeats 4000000 in
/-- the tables' words at the law's entry, in the forms that the contracts want -/
theorem law_ready {p : Program} {s : State} {m : MethodId} {meth : Method} {c : Code} (l : Launch) (hflags : l.flags = flags0) {b L : Nat} {xs : Nat → Int32} (hL : L ≤ 384) (C0 : lw_At p s m meth c b L xs) : ∃ (D : va_G) (cy sa : Nat → Nat), zLaw p l s m meth c b L xs D cy sa := by
  obtain ⟨hx, hb, hr, hml, hown, hts, hX, hbl, hlocks, hgv⟩ := id C0
  have htg : ∀ w ∈ gtbl, w.before #[Value.ref b] s = true := fun w h => hts w (gt_in h)
  obtain ⟨c0, i0, hk0⟩ := u_known (C := RX0) (T := TX0) (N := 5) (n := 5) htg inX0 (htg _ (gt_of 109 (by decide +kernel) rfl))
  obtain ⟨c1, i1, hk1⟩ := u_known (C := RX1) (T := TX1) (N := 4) (n := 4) htg inX1 (htg _ (gt_of 202 (by decide +kernel) rfl))
  obtain ⟨c2, i2, hk2⟩ := u_known (C := RX2) (T := TX2) (N := 5) (n := 5) htg inX2 (htg _ (gt_of 70 (by decide +kernel) rfl))
  obtain ⟨c3, i3, hk3⟩ := u_known (C := RX3) (T := TX3) (N := 4) (n := 4) htg inX3 (htg _ (gt_of 76 (by decide +kernel) rfl))
  obtain ⟨c4, i4, hk4⟩ := u_known (C := RX4) (T := TX4) (N := 5) (n := 5) htg inX4 (htg _ (gt_of 159 (by decide +kernel) rfl))
  obtain ⟨c5, i5, hk5⟩ := u_known (C := RX5) (T := TX5) (N := 2) (n := 2) htg inX5 (htg _ (gt_of 165 (by decide +kernel) rfl))
  obtain ⟨c6, i6, hk6⟩ := u_known (C := RX6) (T := TX6) (N := 9) (n := 9) htg inX6 (htg _ (gt_of 62 (by decide +kernel) rfl))
  obtain ⟨c7, i7, hk7⟩ := u_known (C := RX7) (T := TX7) (N := 39) (n := 39) htg inX7 (htg _ (gt_of 753 (by decide +kernel) rfl))
  obtain ⟨dC, dI, hKc⟩ : ∃ (dC : Nat → ClassId) (dI : Nat → Nat → Nat), ∀ (k : Nat) (q : vw_C), vwCl[k]? = some q → u_Kn s q.1 q.2.1 q.2.2 (dC k) (dI k) := by
    refine ⟨fun k => match k with | 0 => c0 | 1 => c1 | 2 => c2 | 3 => c3 | 4 => c4 | 5 => c5 | 6 => c6 | _ => c7, fun k => match k with | 0 => i0 | 1 => i1 | 2 => i2 | 3 => i3 | 4 => i4 | 5 => i5 | 6 => i6 | _ => i7, ?_⟩
    intro k q hq
    match k, hq with
    | 0, hq => cases hq; exact hk0
    | 1, hq => cases hq; exact hk1
    | 2, hq => cases hq; exact hk2
    | 3, hq => cases hq; exact hk3
    | 4, hq => cases hq; exact hk4
    | 5, hq => cases hq; exact hk5
    | 6, hq => cases hq; exact hk6
    | 7, hq => cases hq; exact hk7
    | k + 8, hq => simp [vwCl] at hq
  obtain ⟨y0, hy0⟩ := zK_int (htg _ (gt_of 200 (by decide +kernel) rfl))
  obtain ⟨y1, hy1⟩ := zK_long (htg _ (gt_of 876 (by decide +kernel) rfl))
  obtain ⟨y2, hy2⟩ := zK_obj (C := RX3) (hts _ (List.mem_of_getElem? (i := 107) (by decide +kernel)))
  obtain ⟨y3, hy3⟩ := zK_obj (C := RX4) (hts _ (List.mem_of_getElem? (i := 158) (by decide +kernel)))
  obtain ⟨cy, g0, g1, g2, g3⟩ : ∃ cy : Nat → Nat, cy 0 = y0 ∧ cy 1 = y1 ∧ cy 2 = y2 ∧ cy 3 = y3 := ⟨fun k => match k with | 0 => y0 | 1 => y1 | 2 => y2 | _ => y3, rfl, rfl, rfl, rfl⟩
  have hK : va_K (dC, dI) vwCl (zT cy) s := by
    refine ⟨hKc, fun k q hq => ?_⟩
    match k, hq with
    | 0, hq => cases hq; rw [g0]; exact hy0
    | 1, hq => cases hq; rw [g1]; exact hy1
    | 2, hq => cases hq; rw [g2]; exact hy2
    | 3, hq => cases hq; rw [g3]; exact hy3
    | k + 4, hq => simp [zT] at hq
  have hN : zN s := by
    intro w hw hn
    have h := hts w hw
    match w, hn with
    | .fieldLinkNest _ _ _ _ _ _, _ => exact va_any rfl h
    | .methodLinkNest _ _ _ _, _ => exact va_any rfl h
    | .arrayOver (.object C), _ => exact va_AO.of h
  have hNX : zNX s := fun w hw hn => va_any (nestX_on hn) (hts w hw)
  have hs := flat_of_before _ hgv
  have n1 := va_Nc.of (hs (.not (.castable sUOE sIAE)) (by decide +kernel))
  have n2 := va_Nc.of (hs (.not (.castable sISE sIAE)) (by decide +kernel))
  have n3 := va_Nc.of (hs (.not (.castable sISE sUOE)) (by decide +kernel))
  obtain ⟨a0, r0⟩ := zstr (own := RX5) (k := 64) (tx := "a bent one fails") (hts _ (List.mem_of_getElem? (i := 676) (by decide +kernel))) (hs (.exactly (.string RX5 64) "java/lang/String") (by decide +kernel))
  obtain ⟨a1, r1⟩ := zstr (own := RX5) (k := 71) (tx := "one of none fails") (hts _ (List.mem_of_getElem? (i := 712) (by decide +kernel))) (hs (.exactly (.string RX5 71) "java/lang/String") (by decide +kernel))
  obtain ⟨a2, r2⟩ := zstr (own := RX5) (k := 76) (tx := "a story fails") (hts _ (List.mem_of_getElem? (i := 728) (by decide +kernel))) (hs (.exactly (.string RX5 76) "java/lang/String") (by decide +kernel))
  obtain ⟨a3, r3⟩ := zstr (own := RX6) (k := 275) (tx := "no such shelf") (hts _ (List.mem_of_getElem? (i := 744) (by decide +kernel))) (hs (.exactly (.string RX6 275) "java/lang/String") (by decide +kernel))
  obtain ⟨a4, r4⟩ := zstr (own := RX6) (k := 285) (tx := "no row, or no such place") (hts _ (List.mem_of_getElem? (i := 750) (by decide +kernel))) (hs (.exactly (.string RX6 285) "java/lang/String") (by decide +kernel))
  have hAL : ∀ a : Nat, a < s.heap.size → ¬ AL s a := fun a h => Nat.not_le.mpr h
  have z1 : vx_Zq Bundle.tN "UNASSIGNED_STACK" Bundle.steD (AL s) s s.heap := vx_Zqof (hts _ (List.mem_of_getElem? (i := 662) (by decide +kernel))) (htg _ (gt_of 54 (by decide +kernel) rfl)) (hs (.isRef (.static Bundle.tN "UNASSIGNED_STACK" Bundle.steD)) (by decide +kernel)) hAL
  have z2 : vx_Zq Bundle.tN "SUPPRESSED_SENTINEL" Bundle.listD (AL s) s s.heap := vx_Zqof (hts _ (List.mem_of_getElem? (i := 664) (by decide +kernel))) (htg _ (gt_of 54 (by decide +kernel) rfl)) (hs (.isRef (.static Bundle.tN "SUPPRESSED_SENTINEL" Bundle.listD)) (by decide +kernel)) hAL
  obtain ⟨sa, q0, q1, q2, q3, q4⟩ : ∃ sa : Nat → Nat, sa 0 = a0 ∧ sa 1 = a1 ∧ sa 2 = a2 ∧ sa 3 = a3 ∧ sa 4 = a4 := ⟨fun k => match k with | 0 => a0 | 1 => a1 | 2 => a2 | 3 => a3 | _ => a4, rfl, rfl, rfl, rfl, rfl⟩
  refine ⟨(dC, dI), cy, sa, ⟨⟨hx, hb, hml, hown, htg⟩, hK, hN⟩, hX, hbl, hr, hlocks, ⟨hNX, ⟨n1, n2, n3⟩, ⟨by rw [q0]; exact r0, by rw [q1]; exact r1, by rw [q2]; exact r2, by rw [q3]; exact r3, by rw [q4]; exact r4⟩, z1, z2⟩, ?_, hL⟩
  unfold Launch.stackTraces
  rw [hflags]
  decide +kernel
set_option maxRecDepth 100000 in
set_option maxHeartbeats 4000000 in
/-- THE LAW, from its entry -/
theorem whole_start {p : Program} {e : Env} {s : State} {m : MethodId} {below : List Frame} {meth : Method} {c : Code} (l : Launch) (hflags : l.flags = flags0) {b L : Nat} {xs : Nat → Int32} (hL : L ≤ 384) (C0 : lw_At p s m meth c b L xs) : W p l e room_1 s m #[Value.ref b] below meth c s.heap [] 0 0 (lw_Z below #[Value.ref b] s) (entryFrame m ([Value.ref b] : List Value).toArray 8) := by
  obtain ⟨D, cy, sa, hw⟩ := law_ready l hflags hL C0
  obtain ⟨hC, hX, hb9, hr, hlocks, hXs, hl9, -⟩ := id hw
  have hx := hC.1.1
  have hb := hC.1.2.1
  have hA : ∀ q, s.heap.size ≤ q → AL s q := fun _ h => h
  have hl := lv_entry ([.ref b]) (n := 8) (Nat.le_of_ble_eq_true rfl)
  rw [lg_entry_eq]
  generalize (lg_sl ([.ref b]) ++ List.replicate (8 - (lg_sl ([.ref b])).length) Slot.unset).toArray = ls at hl ⊢
  have hl : lv_has ls 8 [(0, .ref b)] := hl
  have hZ : zH D (AL s) s.heap 0 (fun _ => 0) (fun _ => .inr (0, [])) s.heap [] := ⟨fun k q h => by simp [zW] at h, ⟨fun i j p q h => by simp [zW] at h, fun k q h => by simp [zW] at h⟩, va_S.rf⟩
  refine znew hC hZ hA nL_8 (Nat.le_of_ble_eq_true rfl) (Nat.le_of_ble_eq_true rfl) dL_law_0 (fun ad1 F1 had1 hF1 H hZ => ?_)
  have hZ : zH D (AL s) s.heap 1 ad1 F1 H [] := hZ
  obtain ⟨b0, hb0⟩ : ∃ a, ad1 0 = a := ⟨_, rfl⟩
  rw [hb0]
  have h0 := zeq hF1
  refine W.widen (k := 1) (n := 9) (Nat.le_of_ble_eq_true rfl) (Nat.le_of_ble_eq_true rfl) ?_
  refine lv_dup hx hb dL_law_3 rfl ?_
  refine zgovN hZ hA (zrunI (rest := [.ref b0]) (k := 0) hb0 hC hZ (c_X6_init l D cy ad1 F1 H.size h0) iL_17 (zRjL rfl) hl.1 (Nat.le_of_ble_eq_true rfl) dL_law_4 ⟨(Nat.le_of_ble_eq_true rfl), (Nat.le_of_ble_eq_true rfl)⟩) (fun ad2 F2 hp H locs hZ => ?_)
  obtain ⟨had2, -, hRX⟩ := hp
  dsimp only at had2 hRX
  have hZ : zH D (AL s) s.heap 56 ad2 F2 H locs := hZ
  have hb02 : ad2 0 = b0 := (had2 0 (by omega)).trans hb0
  refine W.widen (k := 56) (n := 1098) (Nat.le_of_ble_eq_true rfl) (Nat.le_of_ble_eq_true rfl) ?_
  refine lv_astore_n (lv' := [(1, .ref b0), (0, .ref b)]) hx hb dL_law_7 rfl hl (by decide) rfl (fun ls hl => ?_)
  refine znew hC hZ hA nL_18 (Nat.le_of_ble_eq_true rfl) (Nat.le_of_ble_eq_true rfl) dL_law_8 (fun ad3 F3 had3 hF3 H hZ => ?_)
  have hZ : zH D (AL s) s.heap 57 ad3 F3 H locs := hZ
  obtain ⟨b1, hb1⟩ : ∃ a, ad3 56 = a := ⟨_, rfl⟩
  rw [hb1]
  have h56 := zeq hF3
  refine W.widen (k := 57) (n := 1137) (Nat.le_of_ble_eq_true rfl) (Nat.le_of_ble_eq_true rfl) ?_
  refine lv_dup hx hb dL_law_11 rfl ?_
  refine zgovN hZ hA (zrunI (rest := [.ref b1]) (k := 56) hb1 hC hZ (c_X7_init l D cy ad3 F3 H.size h56) iL_20 (zRjL rfl) hl.1 (Nat.le_of_ble_eq_true rfl) dL_law_12 ⟨(Nat.le_of_ble_eq_true rfl), (Nat.le_of_ble_eq_true rfl)⟩) (fun ad4 F4 hp H locs hZ => ?_)
  obtain ⟨had4, hfr4, hRM⟩ := hp
  dsimp only at had4 hfr4 hRM
  have hZ : zH D (AL s) s.heap 68 ad4 F4 H locs := hZ
  have hb14 : ad4 56 = b1 := (had4 56 (by omega)).trans hb1
  refine W.widen (k := 68) (n := 2402) (Nat.le_of_ble_eq_true rfl) (Nat.le_of_ble_eq_true rfl) ?_
  refine lv_astore_n (lv' := [(2, .ref b1), (1, .ref b0), (0, .ref b)]) hx hb dL_law_15 rfl hl (by decide) rfl (fun ls hl => ?_)
  refine lv_iconst (v := 1) hx hb dL_law_16 (by decide) ?_
  refine znewl (N := 1) hC hZ hA (gt_of 876 (by decide +kernel) rfl) (by decide) (by decide) (Nat.le_of_ble_eq_true rfl) (Nat.le_of_ble_eq_true rfl) (Nat.le_of_ble_eq_true rfl) dL_law_17 (fun ad5 F5 had5 hF5 H hZ => ?_)
  have hZ : zH D (AL s) s.heap 69 ad5 F5 H locs := hZ
  obtain ⟨b2, hb2⟩ : ∃ a, ad5 68 = a := ⟨_, rfl⟩
  rw [hb2]
  refine W.widen (k := 69) (n := 2403) (Nat.le_of_ble_eq_true rfl) (Nat.le_of_ble_eq_true rfl) ?_
  refine lv_astore_n (lv' := [(3, .ref b2), (2, .ref b1), (1, .ref b0), (0, .ref b)]) hx hb dL_law_19 rfl hl (by decide) rfl (fun ls hl => ?_)
  refine lv_iconst (v := 0) hx hb dL_law_20 (by decide) ?_
  refine lv_istore (lv' := [(4, .int 0), (3, .ref b2), (2, .ref b1), (1, .ref b0), (0, .ref b)]) hx hb dL_law_21 hl (by decide) rfl (fun ls hl => ?_)
  have ha5 : ∀ j, j < 56 → ad5 j = ad2 j := fun j hj => by rw [had5 j (by omega), had4 j (by omega), had3 j (by omega)]
  have hF5' : ∀ j, j < 56 → F5 j = F2 j := fun j hj => by rw [znu hF5 (by omega), hfr4 j (by omega), znu hF3 (by omega)]
  obtain ⟨F6, hZ6, hf6, hRX6⟩ := RX_mv hZ (by omega) hRX ha5 hF5'
  have hRM6 : RM ad5 cy F6 0 0 sc0 sc0 (fun _ => sf0) := RM_mv hRM (fun j hj => had5 j (by omega)) (fun j h1 h2 => by rw [hf6 j h1, znu hF5 (by omega)])
  have h68 : F6 68 = oLongs cy 1 (fun _ => 0) := (hf6 68 (by omega)).trans (zeq hF5)
  have e0 : ad5 0 = b0 := (ha5 0 (by omega)).trans hb02
  have e1 : ad5 56 = b1 := (had5 56 (by omega)).trans hb14
  rw [← hb2, ← e1, ← e0] at hl
  exact law_loop hw (L + 7) 0 ls F6 H locs (by omega) (by omega) hZ6 ⟨_, _, _, _, _, _, _, _, _, _, hRX6, hRM6, gX_0, h68⟩ hl
