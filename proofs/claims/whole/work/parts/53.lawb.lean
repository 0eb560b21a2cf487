theorem dL_law_728 : decode cL_law 728 = .ok (.aload_n 1, 1) := by decide +kernel
theorem dL_law_729 : decode cL_law 729 = .ok (.aload_n 0, 1) := by decide +kernel
theorem dL_law_730 : decode cL_law 730 = .ok (.iload 4, 2) := by decide +kernel
theorem dL_law_732 : decode cL_law 732 = .ok (.iconst 1, 1) := by decide +kernel
theorem dL_law_733 : decode cL_law 733 = .ok (.iadd, 1) := by decide +kernel
theorem dL_law_734 : decode cL_law 734 = .ok (.iaload, 1) := by decide +kernel
theorem vX6_rested : zMi yX6_rested := ⟨gt_of 520 (by decide +kernel) rfl, gt_of 521 (by decide +kernel) rfl⟩
theorem kL_90 : zLk RL 90 yX6_rested := Or.inl (gt_of 519 (by decide +kernel) rfl)
theorem dL_law_735 : decode cL_law 735 = .ok (.invokevirtual 90, 3) := by decide +kernel
theorem dL_law_738 : decode cL_law 738 = .ok (.aload_n 2, 1) := by decide +kernel
theorem dL_law_739 : decode cL_law 739 = .ok (.aload_n 0, 1) := by decide +kernel
theorem dL_law_740 : decode cL_law 740 = .ok (.iload 4, 2) := by decide +kernel
theorem dL_law_742 : decode cL_law 742 = .ok (.iconst 1, 1) := by decide +kernel
theorem dL_law_743 : decode cL_law 743 = .ok (.iadd, 1) := by decide +kernel
theorem dL_law_744 : decode cL_law 744 = .ok (.iaload, 1) := by decide +kernel
theorem vX7_rested : zMi yX7_rested := ⟨gt_of 1057 (by decide +kernel) rfl, gt_of 1058 (by decide +kernel) rfl⟩
theorem kL_93 : zLk RL 93 yX7_rested := Or.inl (gt_of 1056 (by decide +kernel) rfl)
theorem dL_law_745 : decode cL_law 745 = .ok (.invokevirtual 93, 3) := by decide +kernel
theorem dL_law_748 : decode cL_law 748 = .ok (.if_icmp .eq 590, 3) := by decide +kernel
set_option maxRecDepth 100000 in
set_option maxHeartbeats 4000000 in
theorem lk_16 {p : Program} {l : Launch} {e : Env} {s : State} {m : MethodId} {below : List Frame} {meth : Method} {c : Code} {Q : State → Prop} {b L : Nat} {xs : Nat → Int32} {D : va_G} {cy sa ad : Nat → Nat} (hw : zLaw p l s m meth c b L xs D cy sa) {t cells slots : Nat} (ht : 6 * t + 6 ≤ L) (hc : cells + 1 ≤ 600128 ∧ slots + 6 ≤ 7301098) {ls : Array Slot} {F : Nat → va_E} {H : Heap} {locs : List Loc} (hZ : zH D (AL s) s.heap 69 ad F H locs) (hJ : zJ ad cy F) (hl : lv_has ls 8 [(4, .int (nI (6 * t))), (3, .ref (ad 68)), (2, .ref (ad 56)), (1, .ref (ad 0)), (0, .ref b)])
    (kk : ∀ (F1 : Nat → va_E) (H1 : Heap) (locs1 : List Loc) (ls1 : Array Slot), zH D (AL s) s.heap 69 ad F1 H1 locs1 → zJ ad cy F1 → lv_has ls1 8 [(4, .int (nI (6 * t))), (3, .ref (ad 68)), (2, .ref (ad 56)), (1, .ref (ad 0)), (0, .ref b)] → W p l e room_1 s m #[Value.ref b] below meth c H1 locs1 (cells + 1) (slots + 6) Q (F0 m 1338 ls1 [])) :
    W p l e room_1 s m #[Value.ref b] below meth c H locs cells slots Q (F0 m 728 ls []) := by
  obtain ⟨hC, hX, hb9, hr, hlocks, hXs, hl9, hL⟩ := id hw
  obtain ⟨pic, sc, ps, sh, rd, dr, fa, mi, th, f, hRX, hRM, hG, h68⟩ := hJ
  have hx := hC.1.1
  have hb := hC.1.2.1
  have hA : ∀ q, s.heap.size ≤ q → AL s q := fun _ h => h
  have hcs : cells ≤ room_1.cells ∧ slots ≤ room_1.slots := ⟨by show cells ≤ 600128; omega, by show slots ≤ 7301098; omega⟩
  obtain ⟨p1, hp1⟩ : ∃ y, xs (6 * t + 1) = y := ⟨_, rfl⟩
  obtain ⟨p2, hp2⟩ : ∃ y, xs (6 * t + 2) = y := ⟨_, rfl⟩
  obtain ⟨p3, hp3⟩ : ∃ y, xs (6 * t + 3) = y := ⟨_, rfl⟩
  obtain ⟨p4, hp4⟩ : ∃ y, xs (6 * t + 4) = y := ⟨_, rfl⟩
  obtain ⟨p5, hp5⟩ : ∃ y, xs (6 * t + 5) = y := ⟨_, rfl⟩
  refine lv_aload_n hx hb dL_law_728 rfl (lv_at hl 3 rfl) ?_
  refine lv_aload_n hx hb dL_law_729 rfl (lv_at hl 4 rfl) ?_
  refine lv_iload hx hb dL_law_730 (lv_at hl 0 rfl) ?_
  refine lv_iconst (v := 1) hx hb dL_law_732 (by decide) ?_
  refine lv_iadd hx hb dL_law_733 ?_
  refine zsld hw hZ.2.2 (nI_c (6 * t) 1 1 rfl) (by omega) hp1 dL_law_734 ?_
  refine zgoi hZ hA (zrunV (As := [.int p1]) (rest := []) (k := 0) hC hZ (c_X6_rested l D cy 69 ad F H.size pic sc ps sh rd dr fa mi (Nat.le_of_ble_eq_true rfl) hRX p1) mX6_rested vX6_rested kL_90 (zRjL rfl) (Nat.le_of_ble_eq_true rfl) hRX.1 rfl rfl hl.1 rfl (Nat.le_of_ble_eq_true rfl) dL_law_735 hcs) (fun r1 F1 hp H locs hZ => ?_)
  obtain ⟨hq1, v1, hRX1, hfr1⟩ := hp
  have hRM1 := RM_fr hRM hfr1
  have h681 := (hfr1 68 (by omega)).trans h68
  refine lv_aload_n hx hb dL_law_738 rfl (lv_at hl 2 rfl) ?_
  refine lv_aload_n hx hb dL_law_739 rfl (lv_at hl 4 rfl) ?_
  refine lv_iload hx hb dL_law_740 (lv_at hl 0 rfl) ?_
  refine lv_iconst (v := 1) hx hb dL_law_742 (by decide) ?_
  refine lv_iadd hx hb dL_law_743 ?_
  refine zsld hw hZ.2.2 (nI_c (6 * t) 1 1 rfl) (by omega) hp1 dL_law_744 ?_
  obtain ⟨fs9, h56⟩ := RM_56 hRM1
  refine zgoi hZ hA (zrunV (As := [.int p1]) (rest := [.int r1]) (k := 56) hC hZ (c_X7_rested l D cy 69 ad F1 H.size th pic sc ps sh (Nat.le_of_ble_eq_true rfl) hRM1 hG p1) mX7_rested vX7_rested kL_93 (zRjL rfl) (Nat.le_of_ble_eq_true rfl) h56 rfl rfl hl.1 rfl (Nat.le_of_ble_eq_true rfl) dL_law_745 hcs) (fun r2 F2 hp H locs hZ => ?_)
  obtain ⟨hq2, hRM2, hfm2⟩ := hp
  refine lv_icmp_eq (tgt := 1338) hx hb dL_law_748 (by decide) (fun _ => ?_) (fun h9 => absurd (hq1.trans hq2.symm) h9)
  refine W.widen (k := cells + 1) (n := slots + 6) (by omega) (by omega) ?_
  exact kk F2 H locs ls hZ ⟨_, _, _, _, _, _, _, _, _, _, RX_fr hRX1 (fun j hj => hfm2 j (Or.inl hj)), hRM2, hG, (hfm2 68 (Or.inr (by omega))).trans h681⟩ hl

theorem dL_law_753 : decode cL_law 753 = .ok (.aload_n 1, 1) := by decide +kernel
theorem dL_law_754 : decode cL_law 754 = .ok (.aload_n 0, 1) := by decide +kernel
theorem dL_law_755 : decode cL_law 755 = .ok (.iload 4, 2) := by decide +kernel
theorem dL_law_757 : decode cL_law 757 = .ok (.iconst 1, 1) := by decide +kernel
theorem dL_law_758 : decode cL_law 758 = .ok (.iadd, 1) := by decide +kernel
theorem dL_law_759 : decode cL_law 759 = .ok (.iaload, 1) := by decide +kernel
theorem vX6_when : zMi yX6_when := ⟨gt_of 524 (by decide +kernel) rfl, gt_of 525 (by decide +kernel) rfl⟩
theorem kL_94 : zLk RL 94 yX6_when := Or.inl (gt_of 523 (by decide +kernel) rfl)
theorem dL_law_760 : decode cL_law 760 = .ok (.invokevirtual 94, 3) := by decide +kernel
theorem dL_law_763 : decode cL_law 763 = .ok (.aload_n 2, 1) := by decide +kernel
theorem dL_law_764 : decode cL_law 764 = .ok (.aload_n 0, 1) := by decide +kernel
theorem dL_law_765 : decode cL_law 765 = .ok (.iload 4, 2) := by decide +kernel
theorem dL_law_767 : decode cL_law 767 = .ok (.iconst 1, 1) := by decide +kernel
theorem dL_law_768 : decode cL_law 768 = .ok (.iadd, 1) := by decide +kernel
theorem dL_law_769 : decode cL_law 769 = .ok (.iaload, 1) := by decide +kernel
theorem vX7_when : zMi yX7_when := ⟨gt_of 1061 (by decide +kernel) rfl, gt_of 1062 (by decide +kernel) rfl⟩
theorem kL_97 : zLk RL 97 yX7_when := Or.inl (gt_of 1060 (by decide +kernel) rfl)
theorem dL_law_770 : decode cL_law 770 = .ok (.invokevirtual 97, 3) := by decide +kernel
theorem dL_law_773 : decode cL_law 773 = .ok (.if_icmp .eq 565, 3) := by decide +kernel
set_option maxRecDepth 100000 in
set_option maxHeartbeats 4000000 in
theorem lk_17 {p : Program} {l : Launch} {e : Env} {s : State} {m : MethodId} {below : List Frame} {meth : Method} {c : Code} {Q : State → Prop} {b L : Nat} {xs : Nat → Int32} {D : va_G} {cy sa ad : Nat → Nat} (hw : zLaw p l s m meth c b L xs D cy sa) {t cells slots : Nat} (ht : 6 * t + 6 ≤ L) (hc : cells + 1 ≤ 600128 ∧ slots + 6 ≤ 7301098) {ls : Array Slot} {F : Nat → va_E} {H : Heap} {locs : List Loc} (hZ : zH D (AL s) s.heap 69 ad F H locs) (hJ : zJ ad cy F) (hl : lv_has ls 8 [(4, .int (nI (6 * t))), (3, .ref (ad 68)), (2, .ref (ad 56)), (1, .ref (ad 0)), (0, .ref b)])
    (kk : ∀ (F1 : Nat → va_E) (H1 : Heap) (locs1 : List Loc) (ls1 : Array Slot), zH D (AL s) s.heap 69 ad F1 H1 locs1 → zJ ad cy F1 → lv_has ls1 8 [(4, .int (nI (6 * t))), (3, .ref (ad 68)), (2, .ref (ad 56)), (1, .ref (ad 0)), (0, .ref b)] → W p l e room_1 s m #[Value.ref b] below meth c H1 locs1 (cells + 1) (slots + 6) Q (F0 m 1338 ls1 [])) :
    W p l e room_1 s m #[Value.ref b] below meth c H locs cells slots Q (F0 m 753 ls []) := by
  obtain ⟨hC, hX, hb9, hr, hlocks, hXs, hl9, hL⟩ := id hw
  obtain ⟨pic, sc, ps, sh, rd, dr, fa, mi, th, f, hRX, hRM, hG, h68⟩ := hJ
  have hx := hC.1.1
  have hb := hC.1.2.1
  have hA : ∀ q, s.heap.size ≤ q → AL s q := fun _ h => h
  have hcs : cells ≤ room_1.cells ∧ slots ≤ room_1.slots := ⟨by show cells ≤ 600128; omega, by show slots ≤ 7301098; omega⟩
  obtain ⟨p1, hp1⟩ : ∃ y, xs (6 * t + 1) = y := ⟨_, rfl⟩
  obtain ⟨p2, hp2⟩ : ∃ y, xs (6 * t + 2) = y := ⟨_, rfl⟩
  obtain ⟨p3, hp3⟩ : ∃ y, xs (6 * t + 3) = y := ⟨_, rfl⟩
  obtain ⟨p4, hp4⟩ : ∃ y, xs (6 * t + 4) = y := ⟨_, rfl⟩
  obtain ⟨p5, hp5⟩ : ∃ y, xs (6 * t + 5) = y := ⟨_, rfl⟩
  refine lv_aload_n hx hb dL_law_753 rfl (lv_at hl 3 rfl) ?_
  refine lv_aload_n hx hb dL_law_754 rfl (lv_at hl 4 rfl) ?_
  refine lv_iload hx hb dL_law_755 (lv_at hl 0 rfl) ?_
  refine lv_iconst (v := 1) hx hb dL_law_757 (by decide) ?_
  refine lv_iadd hx hb dL_law_758 ?_
  refine zsld hw hZ.2.2 (nI_c (6 * t) 1 1 rfl) (by omega) hp1 dL_law_759 ?_
  refine zgoi hZ hA (zrunV (As := [.int p1]) (rest := []) (k := 0) hC hZ (c_X6_when l D cy 69 ad F H.size pic sc ps sh rd dr fa mi (Nat.le_of_ble_eq_true rfl) hRX p1) mX6_when vX6_when kL_94 (zRjL rfl) (Nat.le_of_ble_eq_true rfl) hRX.1 rfl rfl hl.1 rfl (Nat.le_of_ble_eq_true rfl) dL_law_760 hcs) (fun r1 F1 hp H locs hZ => ?_)
  obtain ⟨hq1, v1, hRX1, hfr1⟩ := hp
  have hRM1 := RM_fr hRM hfr1
  have h681 := (hfr1 68 (by omega)).trans h68
  refine lv_aload_n hx hb dL_law_763 rfl (lv_at hl 2 rfl) ?_
  refine lv_aload_n hx hb dL_law_764 rfl (lv_at hl 4 rfl) ?_
  refine lv_iload hx hb dL_law_765 (lv_at hl 0 rfl) ?_
  refine lv_iconst (v := 1) hx hb dL_law_767 (by decide) ?_
  refine lv_iadd hx hb dL_law_768 ?_
  refine zsld hw hZ.2.2 (nI_c (6 * t) 1 1 rfl) (by omega) hp1 dL_law_769 ?_
  obtain ⟨fs9, h56⟩ := RM_56 hRM1
  refine zgoi hZ hA (zrunV (As := [.int p1]) (rest := [.int r1]) (k := 56) hC hZ (c_X7_when l D cy 69 ad F1 H.size th pic sc ps sh (Nat.le_of_ble_eq_true rfl) hRM1 hG p1) mX7_when vX7_when kL_97 (zRjL rfl) (Nat.le_of_ble_eq_true rfl) h56 rfl rfl hl.1 rfl (Nat.le_of_ble_eq_true rfl) dL_law_770 hcs) (fun r2 F2 hp H locs hZ => ?_)
  obtain ⟨hq2, hRM2, hfm2⟩ := hp
  refine lv_icmp_eq (tgt := 1338) hx hb dL_law_773 (by decide) (fun _ => ?_) (fun h9 => absurd (hq1.trans hq2.symm) h9)
  refine W.widen (k := cells + 1) (n := slots + 6) (by omega) (by omega) ?_
  exact kk F2 H locs ls hZ ⟨_, _, _, _, _, _, _, _, _, _, RX_fr hRX1 (fun j hj => hfm2 j (Or.inl hj)), hRM2, hG, (hfm2 68 (Or.inr (by omega))).trans h681⟩ hl

theorem dL_law_778 : decode cL_law 778 = .ok (.aload_n 1, 1) := by decide +kernel
theorem dL_law_779 : decode cL_law 779 = .ok (.aload_n 0, 1) := by decide +kernel
theorem dL_law_780 : decode cL_law 780 = .ok (.iload 4, 2) := by decide +kernel
theorem dL_law_782 : decode cL_law 782 = .ok (.iconst 1, 1) := by decide +kernel
theorem dL_law_783 : decode cL_law 783 = .ok (.iadd, 1) := by decide +kernel
theorem dL_law_784 : decode cL_law 784 = .ok (.iaload, 1) := by decide +kernel
theorem dL_law_785 : decode cL_law 785 = .ok (.aload_n 0, 1) := by decide +kernel
theorem dL_law_786 : decode cL_law 786 = .ok (.iload 4, 2) := by decide +kernel
theorem dL_law_788 : decode cL_law 788 = .ok (.iconst 2, 1) := by decide +kernel
theorem dL_law_789 : decode cL_law 789 = .ok (.iadd, 1) := by decide +kernel
theorem dL_law_790 : decode cL_law 790 = .ok (.iaload, 1) := by decide +kernel
theorem dL_law_791 : decode cL_law 791 = .ok (.aload_n 0, 1) := by decide +kernel
theorem dL_law_792 : decode cL_law 792 = .ok (.iload 4, 2) := by decide +kernel
theorem dL_law_794 : decode cL_law 794 = .ok (.iconst 3, 1) := by decide +kernel
theorem dL_law_795 : decode cL_law 795 = .ok (.iadd, 1) := by decide +kernel
theorem dL_law_796 : decode cL_law 796 = .ok (.iaload, 1) := by decide +kernel
theorem vX6_floor : zMi yX6_floor := ⟨gt_of 528 (by decide +kernel) rfl, gt_of 529 (by decide +kernel) rfl⟩
theorem kL_98 : zLk RL 98 yX6_floor := Or.inl (gt_of 527 (by decide +kernel) rfl)
theorem dL_law_797 : decode cL_law 797 = .ok (.invokevirtual 98, 3) := by decide +kernel
theorem dL_law_800 : decode cL_law 800 = .ok (.aload_n 2, 1) := by decide +kernel
theorem dL_law_801 : decode cL_law 801 = .ok (.aload_n 0, 1) := by decide +kernel
theorem dL_law_802 : decode cL_law 802 = .ok (.iload 4, 2) := by decide +kernel
theorem dL_law_804 : decode cL_law 804 = .ok (.iconst 1, 1) := by decide +kernel
theorem dL_law_805 : decode cL_law 805 = .ok (.iadd, 1) := by decide +kernel
theorem dL_law_806 : decode cL_law 806 = .ok (.iaload, 1) := by decide +kernel
theorem dL_law_807 : decode cL_law 807 = .ok (.aload_n 0, 1) := by decide +kernel
theorem dL_law_808 : decode cL_law 808 = .ok (.iload 4, 2) := by decide +kernel
theorem dL_law_810 : decode cL_law 810 = .ok (.iconst 2, 1) := by decide +kernel
theorem dL_law_811 : decode cL_law 811 = .ok (.iadd, 1) := by decide +kernel
theorem dL_law_812 : decode cL_law 812 = .ok (.iaload, 1) := by decide +kernel
theorem dL_law_813 : decode cL_law 813 = .ok (.aload_n 0, 1) := by decide +kernel
theorem dL_law_814 : decode cL_law 814 = .ok (.iload 4, 2) := by decide +kernel
theorem dL_law_816 : decode cL_law 816 = .ok (.iconst 3, 1) := by decide +kernel
theorem dL_law_817 : decode cL_law 817 = .ok (.iadd, 1) := by decide +kernel
theorem dL_law_818 : decode cL_law 818 = .ok (.iaload, 1) := by decide +kernel
theorem vX7_floor : zMi yX7_floor := ⟨gt_of 1065 (by decide +kernel) rfl, gt_of 1066 (by decide +kernel) rfl⟩
theorem kL_101 : zLk RL 101 yX7_floor := Or.inl (gt_of 1064 (by decide +kernel) rfl)
theorem dL_law_819 : decode cL_law 819 = .ok (.invokevirtual 101, 3) := by decide +kernel
theorem dL_law_822 : decode cL_law 822 = .ok (.if_icmp .eq 516, 3) := by decide +kernel
set_option maxRecDepth 100000 in
set_option maxHeartbeats 4000000 in
theorem lk_18 {p : Program} {l : Launch} {e : Env} {s : State} {m : MethodId} {below : List Frame} {meth : Method} {c : Code} {Q : State → Prop} {b L : Nat} {xs : Nat → Int32} {D : va_G} {cy sa ad : Nat → Nat} (hw : zLaw p l s m meth c b L xs D cy sa) {t cells slots : Nat} (ht : 6 * t + 6 ≤ L) (hc : cells + 1 ≤ 600128 ∧ slots + 6 ≤ 7301098) {ls : Array Slot} {F : Nat → va_E} {H : Heap} {locs : List Loc} (hZ : zH D (AL s) s.heap 69 ad F H locs) (hJ : zJ ad cy F) (hl : lv_has ls 8 [(4, .int (nI (6 * t))), (3, .ref (ad 68)), (2, .ref (ad 56)), (1, .ref (ad 0)), (0, .ref b)])
    (kk : ∀ (F1 : Nat → va_E) (H1 : Heap) (locs1 : List Loc) (ls1 : Array Slot), zH D (AL s) s.heap 69 ad F1 H1 locs1 → zJ ad cy F1 → lv_has ls1 8 [(4, .int (nI (6 * t))), (3, .ref (ad 68)), (2, .ref (ad 56)), (1, .ref (ad 0)), (0, .ref b)] → W p l e room_1 s m #[Value.ref b] below meth c H1 locs1 (cells + 1) (slots + 6) Q (F0 m 1338 ls1 [])) :
    W p l e room_1 s m #[Value.ref b] below meth c H locs cells slots Q (F0 m 778 ls []) := by
  obtain ⟨hC, hX, hb9, hr, hlocks, hXs, hl9, hL⟩ := id hw
  obtain ⟨pic, sc, ps, sh, rd, dr, fa, mi, th, f, hRX, hRM, hG, h68⟩ := hJ
  have hx := hC.1.1
  have hb := hC.1.2.1
  have hA : ∀ q, s.heap.size ≤ q → AL s q := fun _ h => h
  have hcs : cells ≤ room_1.cells ∧ slots ≤ room_1.slots := ⟨by show cells ≤ 600128; omega, by show slots ≤ 7301098; omega⟩
  obtain ⟨p1, hp1⟩ : ∃ y, xs (6 * t + 1) = y := ⟨_, rfl⟩
  obtain ⟨p2, hp2⟩ : ∃ y, xs (6 * t + 2) = y := ⟨_, rfl⟩
  obtain ⟨p3, hp3⟩ : ∃ y, xs (6 * t + 3) = y := ⟨_, rfl⟩
  obtain ⟨p4, hp4⟩ : ∃ y, xs (6 * t + 4) = y := ⟨_, rfl⟩
  obtain ⟨p5, hp5⟩ : ∃ y, xs (6 * t + 5) = y := ⟨_, rfl⟩
  refine lv_aload_n hx hb dL_law_778 rfl (lv_at hl 3 rfl) ?_
  refine lv_aload_n hx hb dL_law_779 rfl (lv_at hl 4 rfl) ?_
  refine lv_iload hx hb dL_law_780 (lv_at hl 0 rfl) ?_
  refine lv_iconst (v := 1) hx hb dL_law_782 (by decide) ?_
  refine lv_iadd hx hb dL_law_783 ?_
  refine zsld hw hZ.2.2 (nI_c (6 * t) 1 1 rfl) (by omega) hp1 dL_law_784 ?_
  refine lv_aload_n hx hb dL_law_785 rfl (lv_at hl 4 rfl) ?_
  refine lv_iload hx hb dL_law_786 (lv_at hl 0 rfl) ?_
  refine lv_iconst (v := 2) hx hb dL_law_788 (by decide) ?_
  refine lv_iadd hx hb dL_law_789 ?_
  refine zsld hw hZ.2.2 (nI_c (6 * t) 2 2 rfl) (by omega) hp2 dL_law_790 ?_
  refine lv_aload_n hx hb dL_law_791 rfl (lv_at hl 4 rfl) ?_
  refine lv_iload hx hb dL_law_792 (lv_at hl 0 rfl) ?_
  refine lv_iconst (v := 3) hx hb dL_law_794 (by decide) ?_
  refine lv_iadd hx hb dL_law_795 ?_
  refine zsld hw hZ.2.2 (nI_c (6 * t) 3 3 rfl) (by omega) hp3 dL_law_796 ?_
  refine zgoi hZ hA (zrunV (As := [.int p1, .int p2, .int p3]) (rest := []) (k := 0) hC hZ (c_X6_floor l D cy 69 ad F H.size pic sc ps sh rd dr fa mi (Nat.le_of_ble_eq_true rfl) hRX p1 p2 p3) mX6_floor vX6_floor kL_98 (zRjL rfl) (Nat.le_of_ble_eq_true rfl) hRX.1 rfl rfl hl.1 rfl (Nat.le_of_ble_eq_true rfl) dL_law_797 hcs) (fun r1 F1 hp H locs hZ => ?_)
  obtain ⟨hq1, v1, hRX1, hfr1⟩ := hp
  have hRM1 := RM_fr hRM hfr1
  have h681 := (hfr1 68 (by omega)).trans h68
  refine lv_aload_n hx hb dL_law_800 rfl (lv_at hl 2 rfl) ?_
  refine lv_aload_n hx hb dL_law_801 rfl (lv_at hl 4 rfl) ?_
  refine lv_iload hx hb dL_law_802 (lv_at hl 0 rfl) ?_
  refine lv_iconst (v := 1) hx hb dL_law_804 (by decide) ?_
  refine lv_iadd hx hb dL_law_805 ?_
  refine zsld hw hZ.2.2 (nI_c (6 * t) 1 1 rfl) (by omega) hp1 dL_law_806 ?_
  refine lv_aload_n hx hb dL_law_807 rfl (lv_at hl 4 rfl) ?_
  refine lv_iload hx hb dL_law_808 (lv_at hl 0 rfl) ?_
  refine lv_iconst (v := 2) hx hb dL_law_810 (by decide) ?_
  refine lv_iadd hx hb dL_law_811 ?_
  refine zsld hw hZ.2.2 (nI_c (6 * t) 2 2 rfl) (by omega) hp2 dL_law_812 ?_
  refine lv_aload_n hx hb dL_law_813 rfl (lv_at hl 4 rfl) ?_
  refine lv_iload hx hb dL_law_814 (lv_at hl 0 rfl) ?_
  refine lv_iconst (v := 3) hx hb dL_law_816 (by decide) ?_
  refine lv_iadd hx hb dL_law_817 ?_
  refine zsld hw hZ.2.2 (nI_c (6 * t) 3 3 rfl) (by omega) hp3 dL_law_818 ?_
  obtain ⟨fs9, h56⟩ := RM_56 hRM1
  refine zgoi hZ hA (zrunV (As := [.int p1, .int p2, .int p3]) (rest := [.int r1]) (k := 56) hC hZ (c_X7_floor l D cy 69 ad F1 H.size th pic sc ps sh (Nat.le_of_ble_eq_true rfl) hRM1 hG p1 p2 p3) mX7_floor vX7_floor kL_101 (zRjL rfl) (Nat.le_of_ble_eq_true rfl) h56 rfl rfl hl.1 rfl (Nat.le_of_ble_eq_true rfl) dL_law_819 hcs) (fun r2 F2 hp H locs hZ => ?_)
  obtain ⟨hq2, hRM2, hfm2⟩ := hp
  refine lv_icmp_eq (tgt := 1338) hx hb dL_law_822 (by decide) (fun _ => ?_) (fun h9 => absurd (hq1.trans hq2.symm) h9)
  refine W.widen (k := cells + 1) (n := slots + 6) (by omega) (by omega) ?_
  exact kk F2 H locs ls hZ ⟨_, _, _, _, _, _, _, _, _, _, RX_fr hRX1 (fun j hj => hfm2 j (Or.inl hj)), hRM2, hG, (hfm2 68 (Or.inr (by omega))).trans h681⟩ hl

theorem dL_law_827 : decode cL_law 827 = .ok (.aload_n 1, 1) := by decide +kernel
theorem dL_law_828 : decode cL_law 828 = .ok (.aload_n 0, 1) := by decide +kernel
theorem dL_law_829 : decode cL_law 829 = .ok (.iload 4, 2) := by decide +kernel
theorem dL_law_831 : decode cL_law 831 = .ok (.iconst 1, 1) := by decide +kernel
theorem dL_law_832 : decode cL_law 832 = .ok (.iadd, 1) := by decide +kernel
theorem dL_law_833 : decode cL_law 833 = .ok (.iaload, 1) := by decide +kernel
theorem dL_law_834 : decode cL_law 834 = .ok (.aload_n 0, 1) := by decide +kernel
theorem dL_law_835 : decode cL_law 835 = .ok (.iload 4, 2) := by decide +kernel
theorem dL_law_837 : decode cL_law 837 = .ok (.iconst 2, 1) := by decide +kernel
theorem dL_law_838 : decode cL_law 838 = .ok (.iadd, 1) := by decide +kernel
theorem dL_law_839 : decode cL_law 839 = .ok (.iaload, 1) := by decide +kernel
theorem vX6_scale : zMi yX6_scale := ⟨gt_of 532 (by decide +kernel) rfl, gt_of 533 (by decide +kernel) rfl⟩
theorem kL_102 : zLk RL 102 yX6_scale := Or.inl (gt_of 531 (by decide +kernel) rfl)
theorem dL_law_840 : decode cL_law 840 = .ok (.invokevirtual 102, 3) := by decide +kernel
theorem dL_law_843 : decode cL_law 843 = .ok (.aload_n 2, 1) := by decide +kernel
theorem dL_law_844 : decode cL_law 844 = .ok (.aload_n 0, 1) := by decide +kernel
theorem dL_law_845 : decode cL_law 845 = .ok (.iload 4, 2) := by decide +kernel
theorem dL_law_847 : decode cL_law 847 = .ok (.iconst 1, 1) := by decide +kernel
theorem dL_law_848 : decode cL_law 848 = .ok (.iadd, 1) := by decide +kernel
theorem dL_law_849 : decode cL_law 849 = .ok (.iaload, 1) := by decide +kernel
theorem dL_law_850 : decode cL_law 850 = .ok (.aload_n 0, 1) := by decide +kernel
theorem dL_law_851 : decode cL_law 851 = .ok (.iload 4, 2) := by decide +kernel
theorem dL_law_853 : decode cL_law 853 = .ok (.iconst 2, 1) := by decide +kernel
theorem dL_law_854 : decode cL_law 854 = .ok (.iadd, 1) := by decide +kernel
theorem dL_law_855 : decode cL_law 855 = .ok (.iaload, 1) := by decide +kernel
theorem vX7_scale : zMi yX7_scale := ⟨gt_of 1069 (by decide +kernel) rfl, gt_of 1070 (by decide +kernel) rfl⟩
theorem kL_105 : zLk RL 105 yX7_scale := Or.inl (gt_of 1068 (by decide +kernel) rfl)
theorem dL_law_856 : decode cL_law 856 = .ok (.invokevirtual 105, 3) := by decide +kernel
theorem dL_law_859 : decode cL_law 859 = .ok (.if_icmp .eq 479, 3) := by decide +kernel
set_option maxRecDepth 100000 in
set_option maxHeartbeats 4000000 in
theorem lk_19 {p : Program} {l : Launch} {e : Env} {s : State} {m : MethodId} {below : List Frame} {meth : Method} {c : Code} {Q : State → Prop} {b L : Nat} {xs : Nat → Int32} {D : va_G} {cy sa ad : Nat → Nat} (hw : zLaw p l s m meth c b L xs D cy sa) {t cells slots : Nat} (ht : 6 * t + 6 ≤ L) (hc : cells + 1 ≤ 600128 ∧ slots + 6 ≤ 7301098) {ls : Array Slot} {F : Nat → va_E} {H : Heap} {locs : List Loc} (hZ : zH D (AL s) s.heap 69 ad F H locs) (hJ : zJ ad cy F) (hl : lv_has ls 8 [(4, .int (nI (6 * t))), (3, .ref (ad 68)), (2, .ref (ad 56)), (1, .ref (ad 0)), (0, .ref b)])
    (kk : ∀ (F1 : Nat → va_E) (H1 : Heap) (locs1 : List Loc) (ls1 : Array Slot), zH D (AL s) s.heap 69 ad F1 H1 locs1 → zJ ad cy F1 → lv_has ls1 8 [(4, .int (nI (6 * t))), (3, .ref (ad 68)), (2, .ref (ad 56)), (1, .ref (ad 0)), (0, .ref b)] → W p l e room_1 s m #[Value.ref b] below meth c H1 locs1 (cells + 1) (slots + 6) Q (F0 m 1338 ls1 [])) :
    W p l e room_1 s m #[Value.ref b] below meth c H locs cells slots Q (F0 m 827 ls []) := by
  obtain ⟨hC, hX, hb9, hr, hlocks, hXs, hl9, hL⟩ := id hw
  obtain ⟨pic, sc, ps, sh, rd, dr, fa, mi, th, f, hRX, hRM, hG, h68⟩ := hJ
  have hx := hC.1.1
  have hb := hC.1.2.1
  have hA : ∀ q, s.heap.size ≤ q → AL s q := fun _ h => h
  have hcs : cells ≤ room_1.cells ∧ slots ≤ room_1.slots := ⟨by show cells ≤ 600128; omega, by show slots ≤ 7301098; omega⟩
  obtain ⟨p1, hp1⟩ : ∃ y, xs (6 * t + 1) = y := ⟨_, rfl⟩
  obtain ⟨p2, hp2⟩ : ∃ y, xs (6 * t + 2) = y := ⟨_, rfl⟩
  obtain ⟨p3, hp3⟩ : ∃ y, xs (6 * t + 3) = y := ⟨_, rfl⟩
  obtain ⟨p4, hp4⟩ : ∃ y, xs (6 * t + 4) = y := ⟨_, rfl⟩
  obtain ⟨p5, hp5⟩ : ∃ y, xs (6 * t + 5) = y := ⟨_, rfl⟩
  refine lv_aload_n hx hb dL_law_827 rfl (lv_at hl 3 rfl) ?_
  refine lv_aload_n hx hb dL_law_828 rfl (lv_at hl 4 rfl) ?_
  refine lv_iload hx hb dL_law_829 (lv_at hl 0 rfl) ?_
  refine lv_iconst (v := 1) hx hb dL_law_831 (by decide) ?_
  refine lv_iadd hx hb dL_law_832 ?_
  refine zsld hw hZ.2.2 (nI_c (6 * t) 1 1 rfl) (by omega) hp1 dL_law_833 ?_
  refine lv_aload_n hx hb dL_law_834 rfl (lv_at hl 4 rfl) ?_
  refine lv_iload hx hb dL_law_835 (lv_at hl 0 rfl) ?_
  refine lv_iconst (v := 2) hx hb dL_law_837 (by decide) ?_
  refine lv_iadd hx hb dL_law_838 ?_
  refine zsld hw hZ.2.2 (nI_c (6 * t) 2 2 rfl) (by omega) hp2 dL_law_839 ?_
  refine zgoi hZ hA (zrunV (As := [.int p1, .int p2]) (rest := []) (k := 0) hC hZ (c_X6_scale l D cy 69 ad F H.size pic sc ps sh rd dr fa mi (Nat.le_of_ble_eq_true rfl) hRX p1 p2) mX6_scale vX6_scale kL_102 (zRjL rfl) (Nat.le_of_ble_eq_true rfl) hRX.1 rfl rfl hl.1 rfl (Nat.le_of_ble_eq_true rfl) dL_law_840 hcs) (fun r1 F1 hp H locs hZ => ?_)
  obtain ⟨hq1, v1, hRX1, hfr1⟩ := hp
  have hRM1 := RM_fr hRM hfr1
  have h681 := (hfr1 68 (by omega)).trans h68
  refine lv_aload_n hx hb dL_law_843 rfl (lv_at hl 2 rfl) ?_
  refine lv_aload_n hx hb dL_law_844 rfl (lv_at hl 4 rfl) ?_
  refine lv_iload hx hb dL_law_845 (lv_at hl 0 rfl) ?_
  refine lv_iconst (v := 1) hx hb dL_law_847 (by decide) ?_
  refine lv_iadd hx hb dL_law_848 ?_
  refine zsld hw hZ.2.2 (nI_c (6 * t) 1 1 rfl) (by omega) hp1 dL_law_849 ?_
  refine lv_aload_n hx hb dL_law_850 rfl (lv_at hl 4 rfl) ?_
  refine lv_iload hx hb dL_law_851 (lv_at hl 0 rfl) ?_
  refine lv_iconst (v := 2) hx hb dL_law_853 (by decide) ?_
  refine lv_iadd hx hb dL_law_854 ?_
  refine zsld hw hZ.2.2 (nI_c (6 * t) 2 2 rfl) (by omega) hp2 dL_law_855 ?_
  obtain ⟨fs9, h56⟩ := RM_56 hRM1
  refine zgoi hZ hA (zrunV (As := [.int p1, .int p2]) (rest := [.int r1]) (k := 56) hC hZ (c_X7_scale l D cy 69 ad F1 H.size th pic sc ps sh (Nat.le_of_ble_eq_true rfl) hRM1 hG p1 p2) mX7_scale vX7_scale kL_105 (zRjL rfl) (Nat.le_of_ble_eq_true rfl) h56 rfl rfl hl.1 rfl (Nat.le_of_ble_eq_true rfl) dL_law_856 hcs) (fun r2 F2 hp H locs hZ => ?_)
  obtain ⟨hq2, hRM2, hfm2⟩ := hp
  refine lv_icmp_eq (tgt := 1338) hx hb dL_law_859 (by decide) (fun _ => ?_) (fun h9 => absurd (hq1.trans hq2.symm) h9)
  refine W.widen (k := cells + 1) (n := slots + 6) (by omega) (by omega) ?_
  exact kk F2 H locs ls hZ ⟨_, _, _, _, _, _, _, _, _, _, RX_fr hRX1 (fun j hj => hfm2 j (Or.inl hj)), hRM2, hG, (hfm2 68 (Or.inr (by omega))).trans h681⟩ hl

theorem dL_law_864 : decode cL_law 864 = .ok (.aload_n 1, 1) := by decide +kernel
theorem dL_law_865 : decode cL_law 865 = .ok (.aload_n 0, 1) := by decide +kernel
theorem dL_law_866 : decode cL_law 866 = .ok (.iload 4, 2) := by decide +kernel
theorem dL_law_868 : decode cL_law 868 = .ok (.iconst 1, 1) := by decide +kernel
theorem dL_law_869 : decode cL_law 869 = .ok (.iadd, 1) := by decide +kernel
theorem dL_law_870 : decode cL_law 870 = .ok (.iaload, 1) := by decide +kernel
theorem dL_law_871 : decode cL_law 871 = .ok (.aload_n 0, 1) := by decide +kernel
theorem dL_law_872 : decode cL_law 872 = .ok (.iload 4, 2) := by decide +kernel
theorem dL_law_874 : decode cL_law 874 = .ok (.iconst 2, 1) := by decide +kernel
theorem dL_law_875 : decode cL_law 875 = .ok (.iadd, 1) := by decide +kernel
theorem dL_law_876 : decode cL_law 876 = .ok (.iaload, 1) := by decide +kernel
theorem vX6_slant : zMi yX6_slant := ⟨gt_of 536 (by decide +kernel) rfl, gt_of 537 (by decide +kernel) rfl⟩
theorem kL_106 : zLk RL 106 yX6_slant := Or.inl (gt_of 535 (by decide +kernel) rfl)
theorem dL_law_877 : decode cL_law 877 = .ok (.invokevirtual 106, 3) := by decide +kernel
theorem dL_law_880 : decode cL_law 880 = .ok (.aload_n 2, 1) := by decide +kernel
theorem dL_law_881 : decode cL_law 881 = .ok (.aload_n 0, 1) := by decide +kernel
theorem dL_law_882 : decode cL_law 882 = .ok (.iload 4, 2) := by decide +kernel
theorem dL_law_884 : decode cL_law 884 = .ok (.iconst 1, 1) := by decide +kernel
theorem dL_law_885 : decode cL_law 885 = .ok (.iadd, 1) := by decide +kernel
theorem dL_law_886 : decode cL_law 886 = .ok (.iaload, 1) := by decide +kernel
theorem dL_law_887 : decode cL_law 887 = .ok (.aload_n 0, 1) := by decide +kernel
theorem dL_law_888 : decode cL_law 888 = .ok (.iload 4, 2) := by decide +kernel
theorem dL_law_890 : decode cL_law 890 = .ok (.iconst 2, 1) := by decide +kernel
theorem dL_law_891 : decode cL_law 891 = .ok (.iadd, 1) := by decide +kernel
theorem dL_law_892 : decode cL_law 892 = .ok (.iaload, 1) := by decide +kernel
theorem vX7_slant : zMi yX7_slant := ⟨gt_of 1073 (by decide +kernel) rfl, gt_of 1074 (by decide +kernel) rfl⟩
theorem kL_109 : zLk RL 109 yX7_slant := Or.inl (gt_of 1072 (by decide +kernel) rfl)
theorem dL_law_893 : decode cL_law 893 = .ok (.invokevirtual 109, 3) := by decide +kernel
theorem dL_law_896 : decode cL_law 896 = .ok (.if_icmp .eq 442, 3) := by decide +kernel
set_option maxRecDepth 100000 in
set_option maxHeartbeats 4000000 in
theorem lk_20 {p : Program} {l : Launch} {e : Env} {s : State} {m : MethodId} {below : List Frame} {meth : Method} {c : Code} {Q : State → Prop} {b L : Nat} {xs : Nat → Int32} {D : va_G} {cy sa ad : Nat → Nat} (hw : zLaw p l s m meth c b L xs D cy sa) {t cells slots : Nat} (ht : 6 * t + 6 ≤ L) (hc : cells + 1 ≤ 600128 ∧ slots + 6 ≤ 7301098) {ls : Array Slot} {F : Nat → va_E} {H : Heap} {locs : List Loc} (hZ : zH D (AL s) s.heap 69 ad F H locs) (hJ : zJ ad cy F) (hl : lv_has ls 8 [(4, .int (nI (6 * t))), (3, .ref (ad 68)), (2, .ref (ad 56)), (1, .ref (ad 0)), (0, .ref b)])
    (kk : ∀ (F1 : Nat → va_E) (H1 : Heap) (locs1 : List Loc) (ls1 : Array Slot), zH D (AL s) s.heap 69 ad F1 H1 locs1 → zJ ad cy F1 → lv_has ls1 8 [(4, .int (nI (6 * t))), (3, .ref (ad 68)), (2, .ref (ad 56)), (1, .ref (ad 0)), (0, .ref b)] → W p l e room_1 s m #[Value.ref b] below meth c H1 locs1 (cells + 1) (slots + 6) Q (F0 m 1338 ls1 [])) :
    W p l e room_1 s m #[Value.ref b] below meth c H locs cells slots Q (F0 m 864 ls []) := by
  obtain ⟨hC, hX, hb9, hr, hlocks, hXs, hl9, hL⟩ := id hw
  obtain ⟨pic, sc, ps, sh, rd, dr, fa, mi, th, f, hRX, hRM, hG, h68⟩ := hJ
  have hx := hC.1.1
  have hb := hC.1.2.1
  have hA : ∀ q, s.heap.size ≤ q → AL s q := fun _ h => h
  have hcs : cells ≤ room_1.cells ∧ slots ≤ room_1.slots := ⟨by show cells ≤ 600128; omega, by show slots ≤ 7301098; omega⟩
  obtain ⟨p1, hp1⟩ : ∃ y, xs (6 * t + 1) = y := ⟨_, rfl⟩
  obtain ⟨p2, hp2⟩ : ∃ y, xs (6 * t + 2) = y := ⟨_, rfl⟩
  obtain ⟨p3, hp3⟩ : ∃ y, xs (6 * t + 3) = y := ⟨_, rfl⟩
  obtain ⟨p4, hp4⟩ : ∃ y, xs (6 * t + 4) = y := ⟨_, rfl⟩
  obtain ⟨p5, hp5⟩ : ∃ y, xs (6 * t + 5) = y := ⟨_, rfl⟩
  refine lv_aload_n hx hb dL_law_864 rfl (lv_at hl 3 rfl) ?_
  refine lv_aload_n hx hb dL_law_865 rfl (lv_at hl 4 rfl) ?_
  refine lv_iload hx hb dL_law_866 (lv_at hl 0 rfl) ?_
  refine lv_iconst (v := 1) hx hb dL_law_868 (by decide) ?_
  refine lv_iadd hx hb dL_law_869 ?_
  refine zsld hw hZ.2.2 (nI_c (6 * t) 1 1 rfl) (by omega) hp1 dL_law_870 ?_
  refine lv_aload_n hx hb dL_law_871 rfl (lv_at hl 4 rfl) ?_
  refine lv_iload hx hb dL_law_872 (lv_at hl 0 rfl) ?_
  refine lv_iconst (v := 2) hx hb dL_law_874 (by decide) ?_
  refine lv_iadd hx hb dL_law_875 ?_
  refine zsld hw hZ.2.2 (nI_c (6 * t) 2 2 rfl) (by omega) hp2 dL_law_876 ?_
  refine zgoi hZ hA (zrunV (As := [.int p1, .int p2]) (rest := []) (k := 0) hC hZ (c_X6_slant l D cy 69 ad F H.size pic sc ps sh rd dr fa mi (Nat.le_of_ble_eq_true rfl) hRX hG p1 p2) mX6_slant vX6_slant kL_106 (zRjL rfl) (Nat.le_of_ble_eq_true rfl) hRX.1 rfl rfl hl.1 rfl (Nat.le_of_ble_eq_true rfl) dL_law_877 hcs) (fun r1 F1 hp H locs hZ => ?_)
  obtain ⟨hq1, hFF⟩ := hp
  have hRX1 : RX ad cy F1 pic sc ps sh rd dr fa mi := by rw [← hFF]; exact hRX
  have hfr1 : fr56 F F1 := by rw [← hFF]; exact fr56_rf
  have hRM1 := RM_fr hRM hfr1
  have h681 := (hfr1 68 (by omega)).trans h68
  refine lv_aload_n hx hb dL_law_880 rfl (lv_at hl 2 rfl) ?_
  refine lv_aload_n hx hb dL_law_881 rfl (lv_at hl 4 rfl) ?_
  refine lv_iload hx hb dL_law_882 (lv_at hl 0 rfl) ?_
  refine lv_iconst (v := 1) hx hb dL_law_884 (by decide) ?_
  refine lv_iadd hx hb dL_law_885 ?_
  refine zsld hw hZ.2.2 (nI_c (6 * t) 1 1 rfl) (by omega) hp1 dL_law_886 ?_
  refine lv_aload_n hx hb dL_law_887 rfl (lv_at hl 4 rfl) ?_
  refine lv_iload hx hb dL_law_888 (lv_at hl 0 rfl) ?_
  refine lv_iconst (v := 2) hx hb dL_law_890 (by decide) ?_
  refine lv_iadd hx hb dL_law_891 ?_
  refine zsld hw hZ.2.2 (nI_c (6 * t) 2 2 rfl) (by omega) hp2 dL_law_892 ?_
  obtain ⟨fs9, h56⟩ := RM_56 hRM1
  refine zgoi hZ hA (zrunV (As := [.int p1, .int p2]) (rest := [.int r1]) (k := 56) hC hZ (c_X7_slant l D cy 69 ad F1 H.size th pic sc ps sh (Nat.le_of_ble_eq_true rfl) hRM1 hG p1 p2) mX7_slant vX7_slant kL_109 (zRjL rfl) (Nat.le_of_ble_eq_true rfl) h56 rfl rfl hl.1 rfl (Nat.le_of_ble_eq_true rfl) dL_law_893 hcs) (fun r2 F2 hp H locs hZ => ?_)
  obtain ⟨hq2, hRM2, hfm2⟩ := hp
  refine lv_icmp_eq (tgt := 1338) hx hb dL_law_896 (by decide) (fun _ => ?_) (fun h9 => absurd (hq1.trans hq2.symm) h9)
  refine W.widen (k := cells + 1) (n := slots + 6) (by omega) (by omega) ?_
  exact kk F2 H locs ls hZ ⟨_, _, _, _, _, _, _, _, _, _, RX_fr hRX1 (fun j hj => hfm2 j (Or.inl hj)), hRM2, hG, (hfm2 68 (Or.inr (by omega))).trans h681⟩ hl

theorem dL_law_901 : decode cL_law 901 = .ok (.aload_n 1, 1) := by decide +kernel
theorem dL_law_902 : decode cL_law 902 = .ok (.aload_n 0, 1) := by decide +kernel
theorem dL_law_903 : decode cL_law 903 = .ok (.iload 4, 2) := by decide +kernel
theorem dL_law_905 : decode cL_law 905 = .ok (.iconst 1, 1) := by decide +kernel
theorem dL_law_906 : decode cL_law 906 = .ok (.iadd, 1) := by decide +kernel
theorem dL_law_907 : decode cL_law 907 = .ok (.iaload, 1) := by decide +kernel
theorem dL_law_908 : decode cL_law 908 = .ok (.aload_n 0, 1) := by decide +kernel
theorem dL_law_909 : decode cL_law 909 = .ok (.iload 4, 2) := by decide +kernel
theorem dL_law_911 : decode cL_law 911 = .ok (.iconst 2, 1) := by decide +kernel
theorem dL_law_912 : decode cL_law 912 = .ok (.iadd, 1) := by decide +kernel
theorem dL_law_913 : decode cL_law 913 = .ok (.iaload, 1) := by decide +kernel
theorem vX6_judge : zMi yX6_judge := ⟨gt_of 541 (by decide +kernel) rfl, gt_of 542 (by decide +kernel) rfl⟩
theorem kL_110 : zLk RL 110 yX6_judge := Or.inl (gt_of 540 (by decide +kernel) rfl)
theorem dL_law_914 : decode cL_law 914 = .ok (.invokevirtual 110, 3) := by decide +kernel
theorem dL_law_917 : decode cL_law 917 = .ok (.aload_n 2, 1) := by decide +kernel
theorem dL_law_918 : decode cL_law 918 = .ok (.aload_n 0, 1) := by decide +kernel
theorem dL_law_919 : decode cL_law 919 = .ok (.iload 4, 2) := by decide +kernel
theorem dL_law_921 : decode cL_law 921 = .ok (.iconst 1, 1) := by decide +kernel
theorem dL_law_922 : decode cL_law 922 = .ok (.iadd, 1) := by decide +kernel
theorem dL_law_923 : decode cL_law 923 = .ok (.iaload, 1) := by decide +kernel
theorem dL_law_924 : decode cL_law 924 = .ok (.aload_n 0, 1) := by decide +kernel
theorem dL_law_925 : decode cL_law 925 = .ok (.iload 4, 2) := by decide +kernel
theorem dL_law_927 : decode cL_law 927 = .ok (.iconst 2, 1) := by decide +kernel
theorem dL_law_928 : decode cL_law 928 = .ok (.iadd, 1) := by decide +kernel
theorem dL_law_929 : decode cL_law 929 = .ok (.iaload, 1) := by decide +kernel
theorem vX7_judge : zMi yX7_judge := ⟨gt_of 1078 (by decide +kernel) rfl, gt_of 1079 (by decide +kernel) rfl⟩
theorem kL_113 : zLk RL 113 yX7_judge := Or.inl (gt_of 1077 (by decide +kernel) rfl)
theorem dL_law_930 : decode cL_law 930 = .ok (.invokevirtual 113, 3) := by decide +kernel
theorem dL_law_933 : decode cL_law 933 = .ok (.if_icmp .eq 405, 3) := by decide +kernel
set_option maxRecDepth 100000 in
set_option maxHeartbeats 4000000 in
theorem lk_21 {p : Program} {l : Launch} {e : Env} {s : State} {m : MethodId} {below : List Frame} {meth : Method} {c : Code} {Q : State → Prop} {b L : Nat} {xs : Nat → Int32} {D : va_G} {cy sa ad : Nat → Nat} (hw : zLaw p l s m meth c b L xs D cy sa) {t cells slots : Nat} (ht : 6 * t + 6 ≤ L) (hc : cells + 1 ≤ 600128 ∧ slots + 6 ≤ 7301098) {ls : Array Slot} {F : Nat → va_E} {H : Heap} {locs : List Loc} (hZ : zH D (AL s) s.heap 69 ad F H locs) (hJ : zJ ad cy F) (hl : lv_has ls 8 [(4, .int (nI (6 * t))), (3, .ref (ad 68)), (2, .ref (ad 56)), (1, .ref (ad 0)), (0, .ref b)])
    (kk : ∀ (F1 : Nat → va_E) (H1 : Heap) (locs1 : List Loc) (ls1 : Array Slot), zH D (AL s) s.heap 69 ad F1 H1 locs1 → zJ ad cy F1 → lv_has ls1 8 [(4, .int (nI (6 * t))), (3, .ref (ad 68)), (2, .ref (ad 56)), (1, .ref (ad 0)), (0, .ref b)] → W p l e room_1 s m #[Value.ref b] below meth c H1 locs1 (cells + 1) (slots + 6) Q (F0 m 1338 ls1 [])) :
    W p l e room_1 s m #[Value.ref b] below meth c H locs cells slots Q (F0 m 901 ls []) := by
  obtain ⟨hC, hX, hb9, hr, hlocks, hXs, hl9, hL⟩ := id hw
  obtain ⟨pic, sc, ps, sh, rd, dr, fa, mi, th, f, hRX, hRM, hG, h68⟩ := hJ
  have hx := hC.1.1
  have hb := hC.1.2.1
  have hA : ∀ q, s.heap.size ≤ q → AL s q := fun _ h => h
  have hcs : cells ≤ room_1.cells ∧ slots ≤ room_1.slots := ⟨by show cells ≤ 600128; omega, by show slots ≤ 7301098; omega⟩
  obtain ⟨p1, hp1⟩ : ∃ y, xs (6 * t + 1) = y := ⟨_, rfl⟩
  obtain ⟨p2, hp2⟩ : ∃ y, xs (6 * t + 2) = y := ⟨_, rfl⟩
  obtain ⟨p3, hp3⟩ : ∃ y, xs (6 * t + 3) = y := ⟨_, rfl⟩
  obtain ⟨p4, hp4⟩ : ∃ y, xs (6 * t + 4) = y := ⟨_, rfl⟩
  obtain ⟨p5, hp5⟩ : ∃ y, xs (6 * t + 5) = y := ⟨_, rfl⟩
  refine lv_aload_n hx hb dL_law_901 rfl (lv_at hl 3 rfl) ?_
  refine lv_aload_n hx hb dL_law_902 rfl (lv_at hl 4 rfl) ?_
  refine lv_iload hx hb dL_law_903 (lv_at hl 0 rfl) ?_
  refine lv_iconst (v := 1) hx hb dL_law_905 (by decide) ?_
  refine lv_iadd hx hb dL_law_906 ?_
  refine zsld hw hZ.2.2 (nI_c (6 * t) 1 1 rfl) (by omega) hp1 dL_law_907 ?_
  refine lv_aload_n hx hb dL_law_908 rfl (lv_at hl 4 rfl) ?_
  refine lv_iload hx hb dL_law_909 (lv_at hl 0 rfl) ?_
  refine lv_iconst (v := 2) hx hb dL_law_911 (by decide) ?_
  refine lv_iadd hx hb dL_law_912 ?_
  refine zsld hw hZ.2.2 (nI_c (6 * t) 2 2 rfl) (by omega) hp2 dL_law_913 ?_
  refine zgoi hZ hA (zrunV (As := [.int p1, .int p2]) (rest := []) (k := 0) hC hZ (c_X6_judge l D cy 69 ad F H.size pic sc ps sh rd dr fa mi (Nat.le_of_ble_eq_true rfl) hRX hG p1 p2) mX6_judge vX6_judge kL_110 (zRjL rfl) (Nat.le_of_ble_eq_true rfl) hRX.1 rfl rfl hl.1 rfl (Nat.le_of_ble_eq_true rfl) dL_law_914 hcs) (fun r1 F1 hp H locs hZ => ?_)
  obtain ⟨hq1, v1, hRX1, hfr1⟩ := hp
  have hRM1 := RM_fr hRM hfr1
  have h681 := (hfr1 68 (by omega)).trans h68
  refine lv_aload_n hx hb dL_law_917 rfl (lv_at hl 2 rfl) ?_
  refine lv_aload_n hx hb dL_law_918 rfl (lv_at hl 4 rfl) ?_
  refine lv_iload hx hb dL_law_919 (lv_at hl 0 rfl) ?_
  refine lv_iconst (v := 1) hx hb dL_law_921 (by decide) ?_
  refine lv_iadd hx hb dL_law_922 ?_
  refine zsld hw hZ.2.2 (nI_c (6 * t) 1 1 rfl) (by omega) hp1 dL_law_923 ?_
  refine lv_aload_n hx hb dL_law_924 rfl (lv_at hl 4 rfl) ?_
  refine lv_iload hx hb dL_law_925 (lv_at hl 0 rfl) ?_
  refine lv_iconst (v := 2) hx hb dL_law_927 (by decide) ?_
  refine lv_iadd hx hb dL_law_928 ?_
  refine zsld hw hZ.2.2 (nI_c (6 * t) 2 2 rfl) (by omega) hp2 dL_law_929 ?_
  obtain ⟨fs9, h56⟩ := RM_56 hRM1
  refine zgoi hZ hA (zrunV (As := [.int p1, .int p2]) (rest := [.int r1]) (k := 56) hC hZ (c_X7_judge l D cy 69 ad F1 H.size th pic sc ps sh (Nat.le_of_ble_eq_true rfl) hRM1 hG p1 p2) mX7_judge vX7_judge kL_113 (zRjL rfl) (Nat.le_of_ble_eq_true rfl) h56 rfl rfl hl.1 rfl (Nat.le_of_ble_eq_true rfl) dL_law_930 hcs) (fun r2 F2 hp H locs hZ => ?_)
  obtain ⟨hq2, hRM2, hfm2⟩ := hp
  refine lv_icmp_eq (tgt := 1338) hx hb dL_law_933 (by decide) (fun _ => ?_) (fun h9 => absurd (hq1.trans hq2.symm) h9)
  refine W.widen (k := cells + 1) (n := slots + 6) (by omega) (by omega) ?_
  exact kk F2 H locs ls hZ ⟨_, _, _, _, _, _, _, _, _, _, RX_fr hRX1 (fun j hj => hfm2 j (Or.inl hj)), hRM2, hG, (hfm2 68 (Or.inr (by omega))).trans h681⟩ hl

theorem dL_law_938 : decode cL_law 938 = .ok (.aload_n 1, 1) := by decide +kernel
theorem vX6_image : zMi yX6_image := ⟨gt_of 545 (by decide +kernel) rfl, gt_of 546 (by decide +kernel) rfl⟩
theorem kL_114 : zLk RL 114 yX6_image := Or.inl (gt_of 544 (by decide +kernel) rfl)
theorem dL_law_939 : decode cL_law 939 = .ok (.invokevirtual 114, 3) := by decide +kernel
theorem dL_law_942 : decode cL_law 942 = .ok (.aload_n 2, 1) := by decide +kernel
theorem vX7_image : zMi yX7_image := ⟨gt_of 1082 (by decide +kernel) rfl, gt_of 1083 (by decide +kernel) rfl⟩
theorem kL_117 : zLk RL 117 yX7_image := Or.inl (gt_of 1081 (by decide +kernel) rfl)
theorem dL_law_943 : decode cL_law 943 = .ok (.invokevirtual 117, 3) := by decide +kernel
theorem dL_law_946 : decode cL_law 946 = .ok (.if_icmp .eq 392, 3) := by decide +kernel
set_option maxRecDepth 100000 in
set_option maxHeartbeats 4000000 in
theorem lk_22 {p : Program} {l : Launch} {e : Env} {s : State} {m : MethodId} {below : List Frame} {meth : Method} {c : Code} {Q : State → Prop} {b L : Nat} {xs : Nat → Int32} {D : va_G} {cy sa ad : Nat → Nat} (hw : zLaw p l s m meth c b L xs D cy sa) {t cells slots : Nat} (ht : 6 * t + 6 ≤ L) (hc : cells + 1 ≤ 600128 ∧ slots + 6 ≤ 7301098) {ls : Array Slot} {F : Nat → va_E} {H : Heap} {locs : List Loc} (hZ : zH D (AL s) s.heap 69 ad F H locs) (hJ : zJ ad cy F) (hl : lv_has ls 8 [(4, .int (nI (6 * t))), (3, .ref (ad 68)), (2, .ref (ad 56)), (1, .ref (ad 0)), (0, .ref b)])
    (kk : ∀ (F1 : Nat → va_E) (H1 : Heap) (locs1 : List Loc) (ls1 : Array Slot), zH D (AL s) s.heap 69 ad F1 H1 locs1 → zJ ad cy F1 → lv_has ls1 8 [(4, .int (nI (6 * t))), (3, .ref (ad 68)), (2, .ref (ad 56)), (1, .ref (ad 0)), (0, .ref b)] → W p l e room_1 s m #[Value.ref b] below meth c H1 locs1 (cells + 1) (slots + 6) Q (F0 m 1338 ls1 [])) :
    W p l e room_1 s m #[Value.ref b] below meth c H locs cells slots Q (F0 m 938 ls []) := by
  obtain ⟨hC, hX, hb9, hr, hlocks, hXs, hl9, hL⟩ := id hw
  obtain ⟨pic, sc, ps, sh, rd, dr, fa, mi, th, f, hRX, hRM, hG, h68⟩ := hJ
  have hx := hC.1.1
  have hb := hC.1.2.1
  have hA : ∀ q, s.heap.size ≤ q → AL s q := fun _ h => h
  have hcs : cells ≤ room_1.cells ∧ slots ≤ room_1.slots := ⟨by show cells ≤ 600128; omega, by show slots ≤ 7301098; omega⟩
  obtain ⟨p1, hp1⟩ : ∃ y, xs (6 * t + 1) = y := ⟨_, rfl⟩
  obtain ⟨p2, hp2⟩ : ∃ y, xs (6 * t + 2) = y := ⟨_, rfl⟩
  obtain ⟨p3, hp3⟩ : ∃ y, xs (6 * t + 3) = y := ⟨_, rfl⟩
  obtain ⟨p4, hp4⟩ : ∃ y, xs (6 * t + 4) = y := ⟨_, rfl⟩
  obtain ⟨p5, hp5⟩ : ∃ y, xs (6 * t + 5) = y := ⟨_, rfl⟩
  refine lv_aload_n hx hb dL_law_938 rfl (lv_at hl 3 rfl) ?_
  refine zgoi hZ hA (zrunV (As := []) (rest := []) (k := 0) hC hZ (c_X6_image l D cy 69 ad F H.size pic sc ps sh rd dr fa mi (Nat.le_of_ble_eq_true rfl) hRX) mX6_image vX6_image kL_114 (zRjL rfl) (Nat.le_of_ble_eq_true rfl) hRX.1 rfl rfl hl.1 rfl (Nat.le_of_ble_eq_true rfl) dL_law_939 hcs) (fun r1 F1 hp H locs hZ => ?_)
  obtain ⟨hq1, hRX1, hfr1⟩ := hp
  have hRM1 := RM_fr hRM hfr1
  have h681 := (hfr1 68 (by omega)).trans h68
  refine lv_aload_n hx hb dL_law_942 rfl (lv_at hl 2 rfl) ?_
  obtain ⟨fs9, h56⟩ := RM_56 hRM1
  refine zgoi hZ hA (zrunV (As := []) (rest := [.int r1]) (k := 56) hC hZ (c_X7_image l D cy 69 ad F1 H.size th pic sc ps sh (Nat.le_of_ble_eq_true rfl) hRM1 hG) mX7_image vX7_image kL_117 (zRjL rfl) (Nat.le_of_ble_eq_true rfl) h56 rfl rfl hl.1 rfl (Nat.le_of_ble_eq_true rfl) dL_law_943 hcs) (fun r2 F2 hp H locs hZ => ?_)
  obtain ⟨hq2, hRM2, hfm2⟩ := hp
  refine lv_icmp_eq (tgt := 1338) hx hb dL_law_946 (by decide) (fun _ => ?_) (fun h9 => absurd (hq1.trans hq2.symm) h9)
  refine W.widen (k := cells + 1) (n := slots + 6) (by omega) (by omega) ?_
  exact kk F2 H locs ls hZ ⟨_, _, _, _, _, _, _, _, _, _, RX_fr hRX1 (fun j hj => hfm2 j (Or.inl hj)), hRM2, gX_image hG, (hfm2 68 (Or.inr (by omega))).trans h681⟩ hl

theorem dL_law_951 : decode cL_law 951 = .ok (.aload_n 1, 1) := by decide +kernel
theorem vX6_restore : zMi yX6_restore := ⟨gt_of 557 (by decide +kernel) rfl, gt_of 558 (by decide +kernel) rfl⟩
theorem kL_118 : zLk RL 118 yX6_restore := Or.inl (gt_of 556 (by decide +kernel) rfl)
theorem dL_law_952 : decode cL_law 952 = .ok (.invokevirtual 118, 3) := by decide +kernel
theorem dL_law_955 : decode cL_law 955 = .ok (.aload_n 2, 1) := by decide +kernel
theorem vX7_restore : zMi yX7_restore := ⟨gt_of 1094 (by decide +kernel) rfl, gt_of 1095 (by decide +kernel) rfl⟩
theorem kL_121 : zLk RL 121 yX7_restore := Or.inl (gt_of 1093 (by decide +kernel) rfl)
theorem dL_law_956 : decode cL_law 956 = .ok (.invokevirtual 121, 3) := by decide +kernel
theorem dL_law_959 : decode cL_law 959 = .ok (.if_icmp .eq 379, 3) := by decide +kernel
set_option maxRecDepth 100000 in
set_option maxHeartbeats 4000000 in
theorem lk_23 {p : Program} {l : Launch} {e : Env} {s : State} {m : MethodId} {below : List Frame} {meth : Method} {c : Code} {Q : State → Prop} {b L : Nat} {xs : Nat → Int32} {D : va_G} {cy sa ad : Nat → Nat} (hw : zLaw p l s m meth c b L xs D cy sa) {t cells slots : Nat} (ht : 6 * t + 6 ≤ L) (hc : cells + 1 ≤ 600128 ∧ slots + 6 ≤ 7301098) {ls : Array Slot} {F : Nat → va_E} {H : Heap} {locs : List Loc} (hZ : zH D (AL s) s.heap 69 ad F H locs) (hJ : zJ ad cy F) (hl : lv_has ls 8 [(4, .int (nI (6 * t))), (3, .ref (ad 68)), (2, .ref (ad 56)), (1, .ref (ad 0)), (0, .ref b)])
    (kk : ∀ (F1 : Nat → va_E) (H1 : Heap) (locs1 : List Loc) (ls1 : Array Slot), zH D (AL s) s.heap 69 ad F1 H1 locs1 → zJ ad cy F1 → lv_has ls1 8 [(4, .int (nI (6 * t))), (3, .ref (ad 68)), (2, .ref (ad 56)), (1, .ref (ad 0)), (0, .ref b)] → W p l e room_1 s m #[Value.ref b] below meth c H1 locs1 (cells + 1) (slots + 6) Q (F0 m 1338 ls1 [])) :
    W p l e room_1 s m #[Value.ref b] below meth c H locs cells slots Q (F0 m 951 ls []) := by
  obtain ⟨hC, hX, hb9, hr, hlocks, hXs, hl9, hL⟩ := id hw
  obtain ⟨pic, sc, ps, sh, rd, dr, fa, mi, th, f, hRX, hRM, hG, h68⟩ := hJ
  have hx := hC.1.1
  have hb := hC.1.2.1
  have hA : ∀ q, s.heap.size ≤ q → AL s q := fun _ h => h
  have hcs : cells ≤ room_1.cells ∧ slots ≤ room_1.slots := ⟨by show cells ≤ 600128; omega, by show slots ≤ 7301098; omega⟩
  obtain ⟨p1, hp1⟩ : ∃ y, xs (6 * t + 1) = y := ⟨_, rfl⟩
  obtain ⟨p2, hp2⟩ : ∃ y, xs (6 * t + 2) = y := ⟨_, rfl⟩
  obtain ⟨p3, hp3⟩ : ∃ y, xs (6 * t + 3) = y := ⟨_, rfl⟩
  obtain ⟨p4, hp4⟩ : ∃ y, xs (6 * t + 4) = y := ⟨_, rfl⟩
  obtain ⟨p5, hp5⟩ : ∃ y, xs (6 * t + 5) = y := ⟨_, rfl⟩
  refine lv_aload_n hx hb dL_law_951 rfl (lv_at hl 3 rfl) ?_
  refine zgoi hZ hA (zrunV (As := []) (rest := []) (k := 0) hC hZ (c_X6_restore l D cy 69 ad F H.size pic sc ps sh rd dr fa mi (Nat.le_of_ble_eq_true rfl) hRX) mX6_restore vX6_restore kL_118 (zRjL rfl) (Nat.le_of_ble_eq_true rfl) hRX.1 rfl rfl hl.1 rfl (Nat.le_of_ble_eq_true rfl) dL_law_952 hcs) (fun r1 F1 hp H locs hZ => ?_)
  obtain ⟨hq1, hRX1, hfr1⟩ := hp
  have hRM1 := RM_fr hRM hfr1
  have h681 := (hfr1 68 (by omega)).trans h68
  refine lv_aload_n hx hb dL_law_955 rfl (lv_at hl 2 rfl) ?_
  obtain ⟨fs9, h56⟩ := RM_56 hRM1
  refine zgoi hZ hA (zrunV (As := []) (rest := [.int r1]) (k := 56) hC hZ (c_X7_restore l D cy 69 ad F1 H.size th pic sc ps sh (Nat.le_of_ble_eq_true rfl) hRM1 hG) mX7_restore vX7_restore kL_121 (zRjL rfl) (Nat.le_of_ble_eq_true rfl) h56 rfl rfl hl.1 rfl (Nat.le_of_ble_eq_true rfl) dL_law_956 hcs) (fun r2 F2 hp H locs hZ => ?_)
  obtain ⟨hq2, hRM2, hfm2⟩ := hp
  refine lv_icmp_eq (tgt := 1338) hx hb dL_law_959 (by decide) (fun _ => ?_) (fun h9 => absurd (hq1.trans hq2.symm) h9)
  refine W.widen (k := cells + 1) (n := slots + 6) (by omega) (by omega) ?_
  exact kk F2 H locs ls hZ ⟨_, _, _, _, _, _, _, _, _, _, RX_fr hRX1 (fun j hj => hfm2 j (Or.inl hj)), hRM2, gX_restore hG pic, (hfm2 68 (Or.inr (by omega))).trans h681⟩ hl

theorem dL_law_964 : decode cL_law 964 = .ok (.aload_n 1, 1) := by decide +kernel
theorem dL_law_965 : decode cL_law 965 = .ok (.aload_n 0, 1) := by decide +kernel
theorem dL_law_966 : decode cL_law 966 = .ok (.iload 4, 2) := by decide +kernel
theorem dL_law_968 : decode cL_law 968 = .ok (.iconst 1, 1) := by decide +kernel
theorem dL_law_969 : decode cL_law 969 = .ok (.iadd, 1) := by decide +kernel
theorem dL_law_970 : decode cL_law 970 = .ok (.iaload, 1) := by decide +kernel
theorem vX6_count : zMi yX6_count := ⟨gt_of 561 (by decide +kernel) rfl, gt_of 562 (by decide +kernel) rfl⟩
theorem kL_122 : zLk RL 122 yX6_count := Or.inl (gt_of 560 (by decide +kernel) rfl)
theorem dL_law_971 : decode cL_law 971 = .ok (.invokevirtual 122, 3) := by decide +kernel
theorem dL_law_974 : decode cL_law 974 = .ok (.aload_n 2, 1) := by decide +kernel
theorem dL_law_975 : decode cL_law 975 = .ok (.aload_n 0, 1) := by decide +kernel
theorem dL_law_976 : decode cL_law 976 = .ok (.iload 4, 2) := by decide +kernel
theorem dL_law_978 : decode cL_law 978 = .ok (.iconst 1, 1) := by decide +kernel
theorem dL_law_979 : decode cL_law 979 = .ok (.iadd, 1) := by decide +kernel
theorem dL_law_980 : decode cL_law 980 = .ok (.iaload, 1) := by decide +kernel
theorem vX7_count : zMi yX7_count := ⟨gt_of 1098 (by decide +kernel) rfl, gt_of 1099 (by decide +kernel) rfl⟩
theorem kL_125 : zLk RL 125 yX7_count := Or.inl (gt_of 1097 (by decide +kernel) rfl)
theorem dL_law_981 : decode cL_law 981 = .ok (.invokevirtual 125, 3) := by decide +kernel
theorem dL_law_984 : decode cL_law 984 = .ok (.if_icmp .eq 354, 3) := by decide +kernel
set_option maxRecDepth 100000 in
set_option maxHeartbeats 4000000 in
theorem lk_24 {p : Program} {l : Launch} {e : Env} {s : State} {m : MethodId} {below : List Frame} {meth : Method} {c : Code} {Q : State → Prop} {b L : Nat} {xs : Nat → Int32} {D : va_G} {cy sa ad : Nat → Nat} (hw : zLaw p l s m meth c b L xs D cy sa) {t cells slots : Nat} (ht : 6 * t + 6 ≤ L) (hc : cells + 1 ≤ 600128 ∧ slots + 6 ≤ 7301098) {ls : Array Slot} {F : Nat → va_E} {H : Heap} {locs : List Loc} (hZ : zH D (AL s) s.heap 69 ad F H locs) (hJ : zJ ad cy F) (hl : lv_has ls 8 [(4, .int (nI (6 * t))), (3, .ref (ad 68)), (2, .ref (ad 56)), (1, .ref (ad 0)), (0, .ref b)])
    (kk : ∀ (F1 : Nat → va_E) (H1 : Heap) (locs1 : List Loc) (ls1 : Array Slot), zH D (AL s) s.heap 69 ad F1 H1 locs1 → zJ ad cy F1 → lv_has ls1 8 [(4, .int (nI (6 * t))), (3, .ref (ad 68)), (2, .ref (ad 56)), (1, .ref (ad 0)), (0, .ref b)] → W p l e room_1 s m #[Value.ref b] below meth c H1 locs1 (cells + 1) (slots + 6) Q (F0 m 1338 ls1 [])) :
    W p l e room_1 s m #[Value.ref b] below meth c H locs cells slots Q (F0 m 964 ls []) := by
  obtain ⟨hC, hX, hb9, hr, hlocks, hXs, hl9, hL⟩ := id hw
  obtain ⟨pic, sc, ps, sh, rd, dr, fa, mi, th, f, hRX, hRM, hG, h68⟩ := hJ
  have hx := hC.1.1
  have hb := hC.1.2.1
  have hA : ∀ q, s.heap.size ≤ q → AL s q := fun _ h => h
  have hcs : cells ≤ room_1.cells ∧ slots ≤ room_1.slots := ⟨by show cells ≤ 600128; omega, by show slots ≤ 7301098; omega⟩
  obtain ⟨p1, hp1⟩ : ∃ y, xs (6 * t + 1) = y := ⟨_, rfl⟩
  obtain ⟨p2, hp2⟩ : ∃ y, xs (6 * t + 2) = y := ⟨_, rfl⟩
  obtain ⟨p3, hp3⟩ : ∃ y, xs (6 * t + 3) = y := ⟨_, rfl⟩
  obtain ⟨p4, hp4⟩ : ∃ y, xs (6 * t + 4) = y := ⟨_, rfl⟩
  obtain ⟨p5, hp5⟩ : ∃ y, xs (6 * t + 5) = y := ⟨_, rfl⟩
  refine lv_aload_n hx hb dL_law_964 rfl (lv_at hl 3 rfl) ?_
  refine lv_aload_n hx hb dL_law_965 rfl (lv_at hl 4 rfl) ?_
  refine lv_iload hx hb dL_law_966 (lv_at hl 0 rfl) ?_
  refine lv_iconst (v := 1) hx hb dL_law_968 (by decide) ?_
  refine lv_iadd hx hb dL_law_969 ?_
  refine zsld hw hZ.2.2 (nI_c (6 * t) 1 1 rfl) (by omega) hp1 dL_law_970 ?_
  refine zgoi hZ hA (zrunV (As := [.int p1]) (rest := []) (k := 0) hC hZ (c_X6_count l D cy 69 ad F H.size pic sc ps sh rd dr fa mi (Nat.le_of_ble_eq_true rfl) hRX p1) mX6_count vX6_count kL_122 (zRjL rfl) (Nat.le_of_ble_eq_true rfl) hRX.1 rfl rfl hl.1 rfl (Nat.le_of_ble_eq_true rfl) dL_law_971 hcs) (fun r1 F1 hp H locs hZ => ?_)
  obtain ⟨hq1, hFF⟩ := hp
  have hRX1 : RX ad cy F1 pic sc ps sh rd dr fa mi := by rw [← hFF]; exact hRX
  have hfr1 : fr56 F F1 := by rw [← hFF]; exact fr56_rf
  have hRM1 := RM_fr hRM hfr1
  have h681 := (hfr1 68 (by omega)).trans h68
  refine lv_aload_n hx hb dL_law_974 rfl (lv_at hl 2 rfl) ?_
  refine lv_aload_n hx hb dL_law_975 rfl (lv_at hl 4 rfl) ?_
  refine lv_iload hx hb dL_law_976 (lv_at hl 0 rfl) ?_
  refine lv_iconst (v := 1) hx hb dL_law_978 (by decide) ?_
  refine lv_iadd hx hb dL_law_979 ?_
  refine zsld hw hZ.2.2 (nI_c (6 * t) 1 1 rfl) (by omega) hp1 dL_law_980 ?_
  obtain ⟨fs9, h56⟩ := RM_56 hRM1
  refine zgoi hZ hA (zrunV (As := [.int p1]) (rest := [.int r1]) (k := 56) hC hZ (c_X7_count l D cy 69 ad F1 H.size th pic sc ps sh (Nat.le_of_ble_eq_true rfl) hRM1 hG p1) mX7_count vX7_count kL_125 (zRjL rfl) (Nat.le_of_ble_eq_true rfl) h56 rfl rfl hl.1 rfl (Nat.le_of_ble_eq_true rfl) dL_law_981 hcs) (fun r2 F2 hp H locs hZ => ?_)
  obtain ⟨hq2, hRM2, hfm2⟩ := hp
  refine lv_icmp_eq (tgt := 1338) hx hb dL_law_984 (by decide) (fun _ => ?_) (fun h9 => absurd (hq1.trans hq2.symm) h9)
  refine W.widen (k := cells + 1) (n := slots + 6) (by omega) (by omega) ?_
  exact kk F2 H locs ls hZ ⟨_, _, _, _, _, _, _, _, _, _, RX_fr hRX1 (fun j hj => hfm2 j (Or.inl hj)), hRM2, hG, (hfm2 68 (Or.inr (by omega))).trans h681⟩ hl

theorem dL_law_989 : decode cL_law 989 = .ok (.aload_n 1, 1) := by decide +kernel
theorem dL_law_990 : decode cL_law 990 = .ok (.aload_n 0, 1) := by decide +kernel
theorem dL_law_991 : decode cL_law 991 = .ok (.iload 4, 2) := by decide +kernel
theorem dL_law_993 : decode cL_law 993 = .ok (.iconst 1, 1) := by decide +kernel
theorem dL_law_994 : decode cL_law 994 = .ok (.iadd, 1) := by decide +kernel
theorem dL_law_995 : decode cL_law 995 = .ok (.iaload, 1) := by decide +kernel
theorem dL_law_996 : decode cL_law 996 = .ok (.aload_n 0, 1) := by decide +kernel
theorem dL_law_997 : decode cL_law 997 = .ok (.iload 4, 2) := by decide +kernel
theorem dL_law_999 : decode cL_law 999 = .ok (.iconst 2, 1) := by decide +kernel
theorem dL_law_1000 : decode cL_law 1000 = .ok (.iadd, 1) := by decide +kernel
theorem dL_law_1001 : decode cL_law 1001 = .ok (.iaload, 1) := by decide +kernel
theorem dL_law_1002 : decode cL_law 1002 = .ok (.aload_n 0, 1) := by decide +kernel
theorem dL_law_1003 : decode cL_law 1003 = .ok (.iload 4, 2) := by decide +kernel
theorem dL_law_1005 : decode cL_law 1005 = .ok (.iconst 3, 1) := by decide +kernel
theorem dL_law_1006 : decode cL_law 1006 = .ok (.iadd, 1) := by decide +kernel
theorem dL_law_1007 : decode cL_law 1007 = .ok (.iaload, 1) := by decide +kernel
theorem dL_law_1008 : decode cL_law 1008 = .ok (.aload_n 0, 1) := by decide +kernel
theorem dL_law_1009 : decode cL_law 1009 = .ok (.iload 4, 2) := by decide +kernel
theorem dL_law_1011 : decode cL_law 1011 = .ok (.iconst 4, 1) := by decide +kernel
theorem dL_law_1012 : decode cL_law 1012 = .ok (.iadd, 1) := by decide +kernel
theorem dL_law_1013 : decode cL_law 1013 = .ok (.iaload, 1) := by decide +kernel
theorem vX6_keep : zMi yX6_keep := ⟨gt_of 565 (by decide +kernel) rfl, gt_of 566 (by decide +kernel) rfl⟩
theorem kL_126 : zLk RL 126 yX6_keep := Or.inl (gt_of 564 (by decide +kernel) rfl)
theorem dL_law_1014 : decode cL_law 1014 = .ok (.invokevirtual 126, 3) := by decide +kernel
theorem dL_law_1017 : decode cL_law 1017 = .ok (.aload_n 2, 1) := by decide +kernel
theorem dL_law_1018 : decode cL_law 1018 = .ok (.aload_n 0, 1) := by decide +kernel
theorem dL_law_1019 : decode cL_law 1019 = .ok (.iload 4, 2) := by decide +kernel
theorem dL_law_1021 : decode cL_law 1021 = .ok (.iconst 1, 1) := by decide +kernel
theorem dL_law_1022 : decode cL_law 1022 = .ok (.iadd, 1) := by decide +kernel
theorem dL_law_1023 : decode cL_law 1023 = .ok (.iaload, 1) := by decide +kernel
theorem dL_law_1024 : decode cL_law 1024 = .ok (.aload_n 0, 1) := by decide +kernel
theorem dL_law_1025 : decode cL_law 1025 = .ok (.iload 4, 2) := by decide +kernel
theorem dL_law_1027 : decode cL_law 1027 = .ok (.iconst 2, 1) := by decide +kernel
theorem dL_law_1028 : decode cL_law 1028 = .ok (.iadd, 1) := by decide +kernel
theorem dL_law_1029 : decode cL_law 1029 = .ok (.iaload, 1) := by decide +kernel
theorem dL_law_1030 : decode cL_law 1030 = .ok (.aload_n 0, 1) := by decide +kernel
theorem dL_law_1031 : decode cL_law 1031 = .ok (.iload 4, 2) := by decide +kernel
theorem dL_law_1033 : decode cL_law 1033 = .ok (.iconst 3, 1) := by decide +kernel
theorem dL_law_1034 : decode cL_law 1034 = .ok (.iadd, 1) := by decide +kernel
theorem dL_law_1035 : decode cL_law 1035 = .ok (.iaload, 1) := by decide +kernel
theorem dL_law_1036 : decode cL_law 1036 = .ok (.aload_n 0, 1) := by decide +kernel
theorem dL_law_1037 : decode cL_law 1037 = .ok (.iload 4, 2) := by decide +kernel
theorem dL_law_1039 : decode cL_law 1039 = .ok (.iconst 4, 1) := by decide +kernel
theorem dL_law_1040 : decode cL_law 1040 = .ok (.iadd, 1) := by decide +kernel
theorem dL_law_1041 : decode cL_law 1041 = .ok (.iaload, 1) := by decide +kernel
theorem vX7_keep : zMi yX7_keep := ⟨gt_of 1102 (by decide +kernel) rfl, gt_of 1103 (by decide +kernel) rfl⟩
theorem kL_129 : zLk RL 129 yX7_keep := Or.inl (gt_of 1101 (by decide +kernel) rfl)
theorem dL_law_1042 : decode cL_law 1042 = .ok (.invokevirtual 129, 3) := by decide +kernel
theorem dL_law_1045 : decode cL_law 1045 = .ok (.if_icmp .eq 293, 3) := by decide +kernel
set_option maxRecDepth 100000 in
set_option maxHeartbeats 4000000 in
theorem lk_25 {p : Program} {l : Launch} {e : Env} {s : State} {m : MethodId} {below : List Frame} {meth : Method} {c : Code} {Q : State → Prop} {b L : Nat} {xs : Nat → Int32} {D : va_G} {cy sa ad : Nat → Nat} (hw : zLaw p l s m meth c b L xs D cy sa) {t cells slots : Nat} (ht : 6 * t + 6 ≤ L) (hc : cells + 1 ≤ 600128 ∧ slots + 6 ≤ 7301098) {ls : Array Slot} {F : Nat → va_E} {H : Heap} {locs : List Loc} (hZ : zH D (AL s) s.heap 69 ad F H locs) (hJ : zJ ad cy F) (hl : lv_has ls 8 [(4, .int (nI (6 * t))), (3, .ref (ad 68)), (2, .ref (ad 56)), (1, .ref (ad 0)), (0, .ref b)])
    (kk : ∀ (F1 : Nat → va_E) (H1 : Heap) (locs1 : List Loc) (ls1 : Array Slot), zH D (AL s) s.heap 69 ad F1 H1 locs1 → zJ ad cy F1 → lv_has ls1 8 [(4, .int (nI (6 * t))), (3, .ref (ad 68)), (2, .ref (ad 56)), (1, .ref (ad 0)), (0, .ref b)] → W p l e room_1 s m #[Value.ref b] below meth c H1 locs1 (cells + 1) (slots + 6) Q (F0 m 1338 ls1 [])) :
    W p l e room_1 s m #[Value.ref b] below meth c H locs cells slots Q (F0 m 989 ls []) := by
  obtain ⟨hC, hX, hb9, hr, hlocks, hXs, hl9, hL⟩ := id hw
  obtain ⟨pic, sc, ps, sh, rd, dr, fa, mi, th, f, hRX, hRM, hG, h68⟩ := hJ
  have hx := hC.1.1
  have hb := hC.1.2.1
  have hA : ∀ q, s.heap.size ≤ q → AL s q := fun _ h => h
  have hcs : cells ≤ room_1.cells ∧ slots ≤ room_1.slots := ⟨by show cells ≤ 600128; omega, by show slots ≤ 7301098; omega⟩
  obtain ⟨p1, hp1⟩ : ∃ y, xs (6 * t + 1) = y := ⟨_, rfl⟩
  obtain ⟨p2, hp2⟩ : ∃ y, xs (6 * t + 2) = y := ⟨_, rfl⟩
  obtain ⟨p3, hp3⟩ : ∃ y, xs (6 * t + 3) = y := ⟨_, rfl⟩
  obtain ⟨p4, hp4⟩ : ∃ y, xs (6 * t + 4) = y := ⟨_, rfl⟩
  obtain ⟨p5, hp5⟩ : ∃ y, xs (6 * t + 5) = y := ⟨_, rfl⟩
  refine lv_aload_n hx hb dL_law_989 rfl (lv_at hl 3 rfl) ?_
  refine lv_aload_n hx hb dL_law_990 rfl (lv_at hl 4 rfl) ?_
  refine lv_iload hx hb dL_law_991 (lv_at hl 0 rfl) ?_
  refine lv_iconst (v := 1) hx hb dL_law_993 (by decide) ?_
  refine lv_iadd hx hb dL_law_994 ?_
  refine zsld hw hZ.2.2 (nI_c (6 * t) 1 1 rfl) (by omega) hp1 dL_law_995 ?_
  refine lv_aload_n hx hb dL_law_996 rfl (lv_at hl 4 rfl) ?_
  refine lv_iload hx hb dL_law_997 (lv_at hl 0 rfl) ?_
  refine lv_iconst (v := 2) hx hb dL_law_999 (by decide) ?_
  refine lv_iadd hx hb dL_law_1000 ?_
  refine zsld hw hZ.2.2 (nI_c (6 * t) 2 2 rfl) (by omega) hp2 dL_law_1001 ?_
  refine lv_aload_n hx hb dL_law_1002 rfl (lv_at hl 4 rfl) ?_
  refine lv_iload hx hb dL_law_1003 (lv_at hl 0 rfl) ?_
  refine lv_iconst (v := 3) hx hb dL_law_1005 (by decide) ?_
  refine lv_iadd hx hb dL_law_1006 ?_
  refine zsld hw hZ.2.2 (nI_c (6 * t) 3 3 rfl) (by omega) hp3 dL_law_1007 ?_
  refine lv_aload_n hx hb dL_law_1008 rfl (lv_at hl 4 rfl) ?_
  refine lv_iload hx hb dL_law_1009 (lv_at hl 0 rfl) ?_
  refine lv_iconst (v := 4) hx hb dL_law_1011 (by decide) ?_
  refine lv_iadd hx hb dL_law_1012 ?_
  refine zsld hw hZ.2.2 (nI_c (6 * t) 4 4 rfl) (by omega) hp4 dL_law_1013 ?_
  refine zgoi hZ hA (zrunV (As := [.int p1, .int p2, .int p3, .int p4]) (rest := []) (k := 0) hC hZ (c_X6_keep l D cy 69 ad F H.size pic sc ps sh rd dr fa mi (Nat.le_of_ble_eq_true rfl) hRX p1 p2 p3 p4) mX6_keep vX6_keep kL_126 (zRjL rfl) (Nat.le_of_ble_eq_true rfl) hRX.1 rfl rfl hl.1 rfl (Nat.le_of_ble_eq_true rfl) dL_law_1014 hcs) (fun r1 F1 hp H locs hZ => ?_)
  obtain ⟨hq1, hRX1, hfr1⟩ := hp
  have hRM1 := RM_fr hRM hfr1
  have h681 := (hfr1 68 (by omega)).trans h68
  refine lv_aload_n hx hb dL_law_1017 rfl (lv_at hl 2 rfl) ?_
  refine lv_aload_n hx hb dL_law_1018 rfl (lv_at hl 4 rfl) ?_
  refine lv_iload hx hb dL_law_1019 (lv_at hl 0 rfl) ?_
  refine lv_iconst (v := 1) hx hb dL_law_1021 (by decide) ?_
  refine lv_iadd hx hb dL_law_1022 ?_
  refine zsld hw hZ.2.2 (nI_c (6 * t) 1 1 rfl) (by omega) hp1 dL_law_1023 ?_
  refine lv_aload_n hx hb dL_law_1024 rfl (lv_at hl 4 rfl) ?_
  refine lv_iload hx hb dL_law_1025 (lv_at hl 0 rfl) ?_
  refine lv_iconst (v := 2) hx hb dL_law_1027 (by decide) ?_
  refine lv_iadd hx hb dL_law_1028 ?_
  refine zsld hw hZ.2.2 (nI_c (6 * t) 2 2 rfl) (by omega) hp2 dL_law_1029 ?_
  refine lv_aload_n hx hb dL_law_1030 rfl (lv_at hl 4 rfl) ?_
  refine lv_iload hx hb dL_law_1031 (lv_at hl 0 rfl) ?_
  refine lv_iconst (v := 3) hx hb dL_law_1033 (by decide) ?_
  refine lv_iadd hx hb dL_law_1034 ?_
  refine zsld hw hZ.2.2 (nI_c (6 * t) 3 3 rfl) (by omega) hp3 dL_law_1035 ?_
  refine lv_aload_n hx hb dL_law_1036 rfl (lv_at hl 4 rfl) ?_
  refine lv_iload hx hb dL_law_1037 (lv_at hl 0 rfl) ?_
  refine lv_iconst (v := 4) hx hb dL_law_1039 (by decide) ?_
  refine lv_iadd hx hb dL_law_1040 ?_
  refine zsld hw hZ.2.2 (nI_c (6 * t) 4 4 rfl) (by omega) hp4 dL_law_1041 ?_
  obtain ⟨fs9, h56⟩ := RM_56 hRM1
  refine zgoi hZ hA (zrunV (As := [.int p1, .int p2, .int p3, .int p4]) (rest := [.int r1]) (k := 56) hC hZ (c_X7_keep l D cy 69 ad F1 H.size th pic sc ps sh (Nat.le_of_ble_eq_true rfl) hRM1 hG p1 p2 p3 p4) mX7_keep vX7_keep kL_129 (zRjL rfl) (Nat.le_of_ble_eq_true rfl) h56 rfl rfl hl.1 rfl (Nat.le_of_ble_eq_true rfl) dL_law_1042 hcs) (fun r2 F2 hp H locs hZ => ?_)
  obtain ⟨hq2, hRM2, hfm2⟩ := hp
  refine lv_icmp_eq (tgt := 1338) hx hb dL_law_1045 (by decide) (fun _ => ?_) (fun h9 => absurd (hq1.trans hq2.symm) h9)
  refine W.widen (k := cells + 1) (n := slots + 6) (by omega) (by omega) ?_
  exact kk F2 H locs ls hZ ⟨_, _, _, _, _, _, _, _, _, _, RX_fr hRX1 (fun j hj => hfm2 j (Or.inl hj)), hRM2, gX_keep hG p1 p2 p3 p4, (hfm2 68 (Or.inr (by omega))).trans h681⟩ hl

theorem dL_law_1050 : decode cL_law 1050 = .ok (.aload_n 1, 1) := by decide +kernel
theorem dL_law_1051 : decode cL_law 1051 = .ok (.aload_n 0, 1) := by decide +kernel
theorem dL_law_1052 : decode cL_law 1052 = .ok (.iload 4, 2) := by decide +kernel
theorem dL_law_1054 : decode cL_law 1054 = .ok (.iconst 1, 1) := by decide +kernel
theorem dL_law_1055 : decode cL_law 1055 = .ok (.iadd, 1) := by decide +kernel
theorem dL_law_1056 : decode cL_law 1056 = .ok (.iaload, 1) := by decide +kernel
theorem dL_law_1057 : decode cL_law 1057 = .ok (.aload_n 0, 1) := by decide +kernel
theorem dL_law_1058 : decode cL_law 1058 = .ok (.iload 4, 2) := by decide +kernel
theorem dL_law_1060 : decode cL_law 1060 = .ok (.iconst 2, 1) := by decide +kernel
theorem dL_law_1061 : decode cL_law 1061 = .ok (.iadd, 1) := by decide +kernel
theorem dL_law_1062 : decode cL_law 1062 = .ok (.iaload, 1) := by decide +kernel
theorem dL_law_1063 : decode cL_law 1063 = .ok (.aload_n 0, 1) := by decide +kernel
theorem dL_law_1064 : decode cL_law 1064 = .ok (.iload 4, 2) := by decide +kernel
theorem dL_law_1066 : decode cL_law 1066 = .ok (.iconst 3, 1) := by decide +kernel
theorem dL_law_1067 : decode cL_law 1067 = .ok (.iadd, 1) := by decide +kernel
theorem dL_law_1068 : decode cL_law 1068 = .ok (.iaload, 1) := by decide +kernel
theorem vX6_row : zMi yX6_row := ⟨gt_of 578 (by decide +kernel) rfl, gt_of 579 (by decide +kernel) rfl⟩
theorem kL_130 : zLk RL 130 yX6_row := Or.inl (gt_of 577 (by decide +kernel) rfl)
theorem dL_law_1069 : decode cL_law 1069 = .ok (.invokevirtual 130, 3) := by decide +kernel
theorem dL_law_1072 : decode cL_law 1072 = .ok (.aload_n 2, 1) := by decide +kernel
theorem dL_law_1073 : decode cL_law 1073 = .ok (.aload_n 0, 1) := by decide +kernel
theorem dL_law_1074 : decode cL_law 1074 = .ok (.iload 4, 2) := by decide +kernel
theorem dL_law_1076 : decode cL_law 1076 = .ok (.iconst 1, 1) := by decide +kernel
theorem dL_law_1077 : decode cL_law 1077 = .ok (.iadd, 1) := by decide +kernel
theorem dL_law_1078 : decode cL_law 1078 = .ok (.iaload, 1) := by decide +kernel
theorem dL_law_1079 : decode cL_law 1079 = .ok (.aload_n 0, 1) := by decide +kernel
theorem dL_law_1080 : decode cL_law 1080 = .ok (.iload 4, 2) := by decide +kernel
theorem dL_law_1082 : decode cL_law 1082 = .ok (.iconst 2, 1) := by decide +kernel
theorem dL_law_1083 : decode cL_law 1083 = .ok (.iadd, 1) := by decide +kernel
theorem dL_law_1084 : decode cL_law 1084 = .ok (.iaload, 1) := by decide +kernel
theorem dL_law_1085 : decode cL_law 1085 = .ok (.aload_n 0, 1) := by decide +kernel
theorem dL_law_1086 : decode cL_law 1086 = .ok (.iload 4, 2) := by decide +kernel
theorem dL_law_1088 : decode cL_law 1088 = .ok (.iconst 3, 1) := by decide +kernel
theorem dL_law_1089 : decode cL_law 1089 = .ok (.iadd, 1) := by decide +kernel
theorem dL_law_1090 : decode cL_law 1090 = .ok (.iaload, 1) := by decide +kernel
theorem vX7_row : zMi yX7_row := ⟨gt_of 1106 (by decide +kernel) rfl, gt_of 1107 (by decide +kernel) rfl⟩
theorem kL_133 : zLk RL 133 yX7_row := Or.inl (gt_of 1105 (by decide +kernel) rfl)
theorem dL_law_1091 : decode cL_law 1091 = .ok (.invokevirtual 133, 3) := by decide +kernel
theorem dL_law_1094 : decode cL_law 1094 = .ok (.if_icmp .eq 244, 3) := by decide +kernel
set_option maxRecDepth 100000 in
set_option maxHeartbeats 4000000 in
theorem lk_26 {p : Program} {l : Launch} {e : Env} {s : State} {m : MethodId} {below : List Frame} {meth : Method} {c : Code} {Q : State → Prop} {b L : Nat} {xs : Nat → Int32} {D : va_G} {cy sa ad : Nat → Nat} (hw : zLaw p l s m meth c b L xs D cy sa) {t cells slots : Nat} (ht : 6 * t + 6 ≤ L) (hc : cells + 1 ≤ 600128 ∧ slots + 6 ≤ 7301098) {ls : Array Slot} {F : Nat → va_E} {H : Heap} {locs : List Loc} (hZ : zH D (AL s) s.heap 69 ad F H locs) (hJ : zJ ad cy F) (hl : lv_has ls 8 [(4, .int (nI (6 * t))), (3, .ref (ad 68)), (2, .ref (ad 56)), (1, .ref (ad 0)), (0, .ref b)])
    (kk : ∀ (F1 : Nat → va_E) (H1 : Heap) (locs1 : List Loc) (ls1 : Array Slot), zH D (AL s) s.heap 69 ad F1 H1 locs1 → zJ ad cy F1 → lv_has ls1 8 [(4, .int (nI (6 * t))), (3, .ref (ad 68)), (2, .ref (ad 56)), (1, .ref (ad 0)), (0, .ref b)] → W p l e room_1 s m #[Value.ref b] below meth c H1 locs1 (cells + 1) (slots + 6) Q (F0 m 1338 ls1 [])) :
    W p l e room_1 s m #[Value.ref b] below meth c H locs cells slots Q (F0 m 1050 ls []) := by
  obtain ⟨hC, hX, hb9, hr, hlocks, hXs, hl9, hL⟩ := id hw
  obtain ⟨pic, sc, ps, sh, rd, dr, fa, mi, th, f, hRX, hRM, hG, h68⟩ := hJ
  have hx := hC.1.1
  have hb := hC.1.2.1
  have hA : ∀ q, s.heap.size ≤ q → AL s q := fun _ h => h
  have hcs : cells ≤ room_1.cells ∧ slots ≤ room_1.slots := ⟨by show cells ≤ 600128; omega, by show slots ≤ 7301098; omega⟩
  obtain ⟨p1, hp1⟩ : ∃ y, xs (6 * t + 1) = y := ⟨_, rfl⟩
  obtain ⟨p2, hp2⟩ : ∃ y, xs (6 * t + 2) = y := ⟨_, rfl⟩
  obtain ⟨p3, hp3⟩ : ∃ y, xs (6 * t + 3) = y := ⟨_, rfl⟩
  obtain ⟨p4, hp4⟩ : ∃ y, xs (6 * t + 4) = y := ⟨_, rfl⟩
  obtain ⟨p5, hp5⟩ : ∃ y, xs (6 * t + 5) = y := ⟨_, rfl⟩
  refine lv_aload_n hx hb dL_law_1050 rfl (lv_at hl 3 rfl) ?_
  refine lv_aload_n hx hb dL_law_1051 rfl (lv_at hl 4 rfl) ?_
  refine lv_iload hx hb dL_law_1052 (lv_at hl 0 rfl) ?_
  refine lv_iconst (v := 1) hx hb dL_law_1054 (by decide) ?_
  refine lv_iadd hx hb dL_law_1055 ?_
  refine zsld hw hZ.2.2 (nI_c (6 * t) 1 1 rfl) (by omega) hp1 dL_law_1056 ?_
  refine lv_aload_n hx hb dL_law_1057 rfl (lv_at hl 4 rfl) ?_
  refine lv_iload hx hb dL_law_1058 (lv_at hl 0 rfl) ?_
  refine lv_iconst (v := 2) hx hb dL_law_1060 (by decide) ?_
  refine lv_iadd hx hb dL_law_1061 ?_
  refine zsld hw hZ.2.2 (nI_c (6 * t) 2 2 rfl) (by omega) hp2 dL_law_1062 ?_
  refine lv_aload_n hx hb dL_law_1063 rfl (lv_at hl 4 rfl) ?_
  refine lv_iload hx hb dL_law_1064 (lv_at hl 0 rfl) ?_
  refine lv_iconst (v := 3) hx hb dL_law_1066 (by decide) ?_
  refine lv_iadd hx hb dL_law_1067 ?_
  refine zsld hw hZ.2.2 (nI_c (6 * t) 3 3 rfl) (by omega) hp3 dL_law_1068 ?_
  refine zgoi hZ hA (zrunV (As := [.int p1, .int p2, .int p3]) (rest := []) (k := 0) hC hZ (c_X6_row l D cy 69 ad F H.size pic sc ps sh rd dr fa mi (Nat.le_of_ble_eq_true rfl) hRX p1 p2 p3) mX6_row vX6_row kL_130 (zRjL rfl) (Nat.le_of_ble_eq_true rfl) hRX.1 rfl rfl hl.1 rfl (Nat.le_of_ble_eq_true rfl) dL_law_1069 hcs) (fun r1 F1 hp H locs hZ => ?_)
  obtain ⟨hq1, hRX1, hfr1⟩ := hp
  have hRM1 := RM_fr hRM hfr1
  have h681 := (hfr1 68 (by omega)).trans h68
  refine lv_aload_n hx hb dL_law_1072 rfl (lv_at hl 2 rfl) ?_
  refine lv_aload_n hx hb dL_law_1073 rfl (lv_at hl 4 rfl) ?_
  refine lv_iload hx hb dL_law_1074 (lv_at hl 0 rfl) ?_
  refine lv_iconst (v := 1) hx hb dL_law_1076 (by decide) ?_
  refine lv_iadd hx hb dL_law_1077 ?_
  refine zsld hw hZ.2.2 (nI_c (6 * t) 1 1 rfl) (by omega) hp1 dL_law_1078 ?_
  refine lv_aload_n hx hb dL_law_1079 rfl (lv_at hl 4 rfl) ?_
  refine lv_iload hx hb dL_law_1080 (lv_at hl 0 rfl) ?_
  refine lv_iconst (v := 2) hx hb dL_law_1082 (by decide) ?_
  refine lv_iadd hx hb dL_law_1083 ?_
  refine zsld hw hZ.2.2 (nI_c (6 * t) 2 2 rfl) (by omega) hp2 dL_law_1084 ?_
  refine lv_aload_n hx hb dL_law_1085 rfl (lv_at hl 4 rfl) ?_
  refine lv_iload hx hb dL_law_1086 (lv_at hl 0 rfl) ?_
  refine lv_iconst (v := 3) hx hb dL_law_1088 (by decide) ?_
  refine lv_iadd hx hb dL_law_1089 ?_
  refine zsld hw hZ.2.2 (nI_c (6 * t) 3 3 rfl) (by omega) hp3 dL_law_1090 ?_
  obtain ⟨fs9, h56⟩ := RM_56 hRM1
  refine zgoi hZ hA (zrunV (As := [.int p1, .int p2, .int p3]) (rest := [.int r1]) (k := 56) hC hZ (c_X7_row l D cy 69 ad F1 H.size th pic sc ps sh (Nat.le_of_ble_eq_true rfl) hRM1 hG p1 p2 p3) mX7_row vX7_row kL_133 (zRjL rfl) (Nat.le_of_ble_eq_true rfl) h56 rfl rfl hl.1 rfl (Nat.le_of_ble_eq_true rfl) dL_law_1091 hcs) (fun r2 F2 hp H locs hZ => ?_)
  obtain ⟨hq2, hRM2, hfm2⟩ := hp
  refine lv_icmp_eq (tgt := 1338) hx hb dL_law_1094 (by decide) (fun _ => ?_) (fun h9 => absurd (hq1.trans hq2.symm) h9)
  refine W.widen (k := cells + 1) (n := slots + 6) (by omega) (by omega) ?_
  exact kk F2 H locs ls hZ ⟨_, _, _, _, _, _, _, _, _, _, RX_fr hRX1 (fun j hj => hfm2 j (Or.inl hj)), hRM2, gX_row hG p1 p2 p3, (hfm2 68 (Or.inr (by omega))).trans h681⟩ hl

theorem dL_law_1099 : decode cL_law 1099 = .ok (.aload_n 1, 1) := by decide +kernel
theorem dL_law_1100 : decode cL_law 1100 = .ok (.aload_n 0, 1) := by decide +kernel
theorem dL_law_1101 : decode cL_law 1101 = .ok (.iload 4, 2) := by decide +kernel
theorem dL_law_1103 : decode cL_law 1103 = .ok (.iconst 1, 1) := by decide +kernel
theorem dL_law_1104 : decode cL_law 1104 = .ok (.iadd, 1) := by decide +kernel
theorem dL_law_1105 : decode cL_law 1105 = .ok (.iaload, 1) := by decide +kernel
theorem dL_law_1106 : decode cL_law 1106 = .ok (.aload_n 0, 1) := by decide +kernel
theorem dL_law_1107 : decode cL_law 1107 = .ok (.iload 4, 2) := by decide +kernel
theorem dL_law_1109 : decode cL_law 1109 = .ok (.iconst 2, 1) := by decide +kernel
theorem dL_law_1110 : decode cL_law 1110 = .ok (.iadd, 1) := by decide +kernel
theorem dL_law_1111 : decode cL_law 1111 = .ok (.iaload, 1) := by decide +kernel
theorem dL_law_1112 : decode cL_law 1112 = .ok (.aload_n 0, 1) := by decide +kernel
theorem dL_law_1113 : decode cL_law 1113 = .ok (.iload 4, 2) := by decide +kernel
theorem dL_law_1115 : decode cL_law 1115 = .ok (.iconst 3, 1) := by decide +kernel
theorem dL_law_1116 : decode cL_law 1116 = .ok (.iadd, 1) := by decide +kernel
theorem dL_law_1117 : decode cL_law 1117 = .ok (.iaload, 1) := by decide +kernel
theorem vX6_put : zMi yX6_put := ⟨gt_of 586 (by decide +kernel) rfl, gt_of 587 (by decide +kernel) rfl⟩
theorem kL_134 : zLk RL 134 yX6_put := Or.inl (gt_of 585 (by decide +kernel) rfl)
theorem dL_law_1118 : decode cL_law 1118 = .ok (.invokevirtual 134, 3) := by decide +kernel
theorem dL_law_1121 : decode cL_law 1121 = .ok (.aload_n 2, 1) := by decide +kernel
theorem dL_law_1122 : decode cL_law 1122 = .ok (.aload_n 0, 1) := by decide +kernel
theorem dL_law_1123 : decode cL_law 1123 = .ok (.iload 4, 2) := by decide +kernel
theorem dL_law_1125 : decode cL_law 1125 = .ok (.iconst 1, 1) := by decide +kernel
theorem dL_law_1126 : decode cL_law 1126 = .ok (.iadd, 1) := by decide +kernel
theorem dL_law_1127 : decode cL_law 1127 = .ok (.iaload, 1) := by decide +kernel
theorem dL_law_1128 : decode cL_law 1128 = .ok (.aload_n 0, 1) := by decide +kernel
theorem dL_law_1129 : decode cL_law 1129 = .ok (.iload 4, 2) := by decide +kernel
theorem dL_law_1131 : decode cL_law 1131 = .ok (.iconst 2, 1) := by decide +kernel
theorem dL_law_1132 : decode cL_law 1132 = .ok (.iadd, 1) := by decide +kernel
theorem dL_law_1133 : decode cL_law 1133 = .ok (.iaload, 1) := by decide +kernel
theorem dL_law_1134 : decode cL_law 1134 = .ok (.aload_n 0, 1) := by decide +kernel
theorem dL_law_1135 : decode cL_law 1135 = .ok (.iload 4, 2) := by decide +kernel
theorem dL_law_1137 : decode cL_law 1137 = .ok (.iconst 3, 1) := by decide +kernel
theorem dL_law_1138 : decode cL_law 1138 = .ok (.iadd, 1) := by decide +kernel
theorem dL_law_1139 : decode cL_law 1139 = .ok (.iaload, 1) := by decide +kernel
theorem vX7_put : zMi yX7_put := ⟨gt_of 1110 (by decide +kernel) rfl, gt_of 1111 (by decide +kernel) rfl⟩
theorem kL_137 : zLk RL 137 yX7_put := Or.inl (gt_of 1109 (by decide +kernel) rfl)
theorem dL_law_1140 : decode cL_law 1140 = .ok (.invokevirtual 137, 3) := by decide +kernel
theorem dL_law_1143 : decode cL_law 1143 = .ok (.if_icmp .eq 195, 3) := by decide +kernel
set_option maxRecDepth 100000 in
set_option maxHeartbeats 4000000 in
theorem lk_27 {p : Program} {l : Launch} {e : Env} {s : State} {m : MethodId} {below : List Frame} {meth : Method} {c : Code} {Q : State → Prop} {b L : Nat} {xs : Nat → Int32} {D : va_G} {cy sa ad : Nat → Nat} (hw : zLaw p l s m meth c b L xs D cy sa) {t cells slots : Nat} (ht : 6 * t + 6 ≤ L) (hc : cells + 1 ≤ 600128 ∧ slots + 6 ≤ 7301098) {ls : Array Slot} {F : Nat → va_E} {H : Heap} {locs : List Loc} (hZ : zH D (AL s) s.heap 69 ad F H locs) (hJ : zJ ad cy F) (hl : lv_has ls 8 [(4, .int (nI (6 * t))), (3, .ref (ad 68)), (2, .ref (ad 56)), (1, .ref (ad 0)), (0, .ref b)])
    (kk : ∀ (F1 : Nat → va_E) (H1 : Heap) (locs1 : List Loc) (ls1 : Array Slot), zH D (AL s) s.heap 69 ad F1 H1 locs1 → zJ ad cy F1 → lv_has ls1 8 [(4, .int (nI (6 * t))), (3, .ref (ad 68)), (2, .ref (ad 56)), (1, .ref (ad 0)), (0, .ref b)] → W p l e room_1 s m #[Value.ref b] below meth c H1 locs1 (cells + 1) (slots + 6) Q (F0 m 1338 ls1 [])) :
    W p l e room_1 s m #[Value.ref b] below meth c H locs cells slots Q (F0 m 1099 ls []) := by
  obtain ⟨hC, hX, hb9, hr, hlocks, hXs, hl9, hL⟩ := id hw
  obtain ⟨pic, sc, ps, sh, rd, dr, fa, mi, th, f, hRX, hRM, hG, h68⟩ := hJ
  have hx := hC.1.1
  have hb := hC.1.2.1
  have hA : ∀ q, s.heap.size ≤ q → AL s q := fun _ h => h
  have hcs : cells ≤ room_1.cells ∧ slots ≤ room_1.slots := ⟨by show cells ≤ 600128; omega, by show slots ≤ 7301098; omega⟩
  obtain ⟨p1, hp1⟩ : ∃ y, xs (6 * t + 1) = y := ⟨_, rfl⟩
  obtain ⟨p2, hp2⟩ : ∃ y, xs (6 * t + 2) = y := ⟨_, rfl⟩
  obtain ⟨p3, hp3⟩ : ∃ y, xs (6 * t + 3) = y := ⟨_, rfl⟩
  obtain ⟨p4, hp4⟩ : ∃ y, xs (6 * t + 4) = y := ⟨_, rfl⟩
  obtain ⟨p5, hp5⟩ : ∃ y, xs (6 * t + 5) = y := ⟨_, rfl⟩
  refine lv_aload_n hx hb dL_law_1099 rfl (lv_at hl 3 rfl) ?_
  refine lv_aload_n hx hb dL_law_1100 rfl (lv_at hl 4 rfl) ?_
  refine lv_iload hx hb dL_law_1101 (lv_at hl 0 rfl) ?_
  refine lv_iconst (v := 1) hx hb dL_law_1103 (by decide) ?_
  refine lv_iadd hx hb dL_law_1104 ?_
  refine zsld hw hZ.2.2 (nI_c (6 * t) 1 1 rfl) (by omega) hp1 dL_law_1105 ?_
  refine lv_aload_n hx hb dL_law_1106 rfl (lv_at hl 4 rfl) ?_
  refine lv_iload hx hb dL_law_1107 (lv_at hl 0 rfl) ?_
  refine lv_iconst (v := 2) hx hb dL_law_1109 (by decide) ?_
  refine lv_iadd hx hb dL_law_1110 ?_
  refine zsld hw hZ.2.2 (nI_c (6 * t) 2 2 rfl) (by omega) hp2 dL_law_1111 ?_
  refine lv_aload_n hx hb dL_law_1112 rfl (lv_at hl 4 rfl) ?_
  refine lv_iload hx hb dL_law_1113 (lv_at hl 0 rfl) ?_
  refine lv_iconst (v := 3) hx hb dL_law_1115 (by decide) ?_
  refine lv_iadd hx hb dL_law_1116 ?_
  refine zsld hw hZ.2.2 (nI_c (6 * t) 3 3 rfl) (by omega) hp3 dL_law_1117 ?_
  refine zgoi hZ hA (zrunV (As := [.int p1, .int p2, .int p3]) (rest := []) (k := 0) hC hZ (c_X6_put l D cy 69 ad F H.size pic sc ps sh rd dr fa mi (Nat.le_of_ble_eq_true rfl) hRX p1 p2 p3) mX6_put vX6_put kL_134 (zRjL rfl) (Nat.le_of_ble_eq_true rfl) hRX.1 rfl rfl hl.1 rfl (Nat.le_of_ble_eq_true rfl) dL_law_1118 hcs) (fun r1 F1 hp H locs hZ => ?_)
  obtain ⟨hq1, hRX1, hfr1⟩ := hp
  have hRM1 := RM_fr hRM hfr1
  have h681 := (hfr1 68 (by omega)).trans h68
  refine lv_aload_n hx hb dL_law_1121 rfl (lv_at hl 2 rfl) ?_
  refine lv_aload_n hx hb dL_law_1122 rfl (lv_at hl 4 rfl) ?_
  refine lv_iload hx hb dL_law_1123 (lv_at hl 0 rfl) ?_
  refine lv_iconst (v := 1) hx hb dL_law_1125 (by decide) ?_
  refine lv_iadd hx hb dL_law_1126 ?_
  refine zsld hw hZ.2.2 (nI_c (6 * t) 1 1 rfl) (by omega) hp1 dL_law_1127 ?_
  refine lv_aload_n hx hb dL_law_1128 rfl (lv_at hl 4 rfl) ?_
  refine lv_iload hx hb dL_law_1129 (lv_at hl 0 rfl) ?_
  refine lv_iconst (v := 2) hx hb dL_law_1131 (by decide) ?_
  refine lv_iadd hx hb dL_law_1132 ?_
  refine zsld hw hZ.2.2 (nI_c (6 * t) 2 2 rfl) (by omega) hp2 dL_law_1133 ?_
  refine lv_aload_n hx hb dL_law_1134 rfl (lv_at hl 4 rfl) ?_
  refine lv_iload hx hb dL_law_1135 (lv_at hl 0 rfl) ?_
  refine lv_iconst (v := 3) hx hb dL_law_1137 (by decide) ?_
  refine lv_iadd hx hb dL_law_1138 ?_
  refine zsld hw hZ.2.2 (nI_c (6 * t) 3 3 rfl) (by omega) hp3 dL_law_1139 ?_
  obtain ⟨fs9, h56⟩ := RM_56 hRM1
  refine zgoi hZ hA (zrunV (As := [.int p1, .int p2, .int p3]) (rest := [.int r1]) (k := 56) hC hZ (c_X7_put l D cy 69 ad F1 H.size th pic sc ps sh (Nat.le_of_ble_eq_true rfl) hRM1 hG p1 p2 p3) mX7_put vX7_put kL_137 (zRjL rfl) (Nat.le_of_ble_eq_true rfl) h56 rfl rfl hl.1 rfl (Nat.le_of_ble_eq_true rfl) dL_law_1140 hcs) (fun r2 F2 hp H locs hZ => ?_)
  obtain ⟨hq2, hRM2, hfm2⟩ := hp
  refine lv_icmp_eq (tgt := 1338) hx hb dL_law_1143 (by decide) (fun _ => ?_) (fun h9 => absurd (hq1.trans hq2.symm) h9)
  refine W.widen (k := cells + 1) (n := slots + 6) (by omega) (by omega) ?_
  exact kk F2 H locs ls hZ ⟨_, _, _, _, _, _, _, _, _, _, RX_fr hRX1 (fun j hj => hfm2 j (Or.inl hj)), hRM2, gX_put hG p1 p2 p3, (hfm2 68 (Or.inr (by omega))).trans h681⟩ hl

theorem dL_law_1148 : decode cL_law 1148 = .ok (.aload_n 1, 1) := by decide +kernel
theorem dL_law_1149 : decode cL_law 1149 = .ok (.aload_n 0, 1) := by decide +kernel
theorem dL_law_1150 : decode cL_law 1150 = .ok (.iload 4, 2) := by decide +kernel
theorem dL_law_1152 : decode cL_law 1152 = .ok (.iconst 1, 1) := by decide +kernel
theorem dL_law_1153 : decode cL_law 1153 = .ok (.iadd, 1) := by decide +kernel
theorem dL_law_1154 : decode cL_law 1154 = .ok (.iaload, 1) := by decide +kernel
theorem dL_law_1155 : decode cL_law 1155 = .ok (.aload_n 0, 1) := by decide +kernel
theorem dL_law_1156 : decode cL_law 1156 = .ok (.iload 4, 2) := by decide +kernel
theorem dL_law_1158 : decode cL_law 1158 = .ok (.iconst 2, 1) := by decide +kernel
theorem dL_law_1159 : decode cL_law 1159 = .ok (.iadd, 1) := by decide +kernel
theorem dL_law_1160 : decode cL_law 1160 = .ok (.iaload, 1) := by decide +kernel
theorem dL_law_1161 : decode cL_law 1161 = .ok (.aload_n 3, 1) := by decide +kernel
theorem dL_law_1162 : decode cL_law 1162 = .ok (.invokestatic 138, 3) := by decide +kernel
theorem mL_element : zMdH yL_element cL_element 5 (some .int) [(0, 9, 12, 13), (0, 9, 16, 15)] 4 := ⟨by decide +kernel, gt_of 737 (by decide +kernel) rfl, gt_of 44 (by decide +kernel) rfl, by decide⟩
theorem sL_element : Cond.static yL_element ∈ gtbl := gt_of 736 (by decide +kernel) rfl
theorem dL_law_1165 : decode cL_law 1165 = .ok (.istore 5, 2) := by decide +kernel
theorem dL_law_1167 : decode cL_law 1167 = .ok (.aload_n 2, 1) := by decide +kernel
theorem dL_law_1168 : decode cL_law 1168 = .ok (.aload_n 0, 1) := by decide +kernel
theorem dL_law_1169 : decode cL_law 1169 = .ok (.iload 4, 2) := by decide +kernel
theorem dL_law_1171 : decode cL_law 1171 = .ok (.iconst 1, 1) := by decide +kernel
theorem dL_law_1172 : decode cL_law 1172 = .ok (.iadd, 1) := by decide +kernel
theorem dL_law_1173 : decode cL_law 1173 = .ok (.iaload, 1) := by decide +kernel
theorem dL_law_1174 : decode cL_law 1174 = .ok (.aload_n 0, 1) := by decide +kernel
theorem dL_law_1175 : decode cL_law 1175 = .ok (.iload 4, 2) := by decide +kernel
theorem dL_law_1177 : decode cL_law 1177 = .ok (.iconst 2, 1) := by decide +kernel
theorem dL_law_1178 : decode cL_law 1178 = .ok (.iadd, 1) := by decide +kernel
theorem dL_law_1179 : decode cL_law 1179 = .ok (.iaload, 1) := by decide +kernel
theorem vX7_element : zMi yX7_element := ⟨gt_of 1117 (by decide +kernel) rfl, gt_of 1118 (by decide +kernel) rfl⟩
theorem kL_143 : zLk RL 143 yX7_element := Or.inl (gt_of 1116 (by decide +kernel) rfl)
theorem dL_law_1180 : decode cL_law 1180 = .ok (.invokevirtual 143, 3) := by decide +kernel
theorem dL_law_1183 : decode cL_law 1183 = .ok (.lstore 6, 2) := by decide +kernel
theorem dL_law_1185 : decode cL_law 1185 = .ok (.aload_n 2, 1) := by decide +kernel
theorem vX7_thrown : zMi yX7_thrown := ⟨gt_of 878 (by decide +kernel) rfl, gt_of 879 (by decide +kernel) rfl⟩
theorem kL_144 : zLk RL 144 yX7_thrown := Or.inl (gt_of 877 (by decide +kernel) rfl)
theorem dL_law_1186 : decode cL_law 1186 = .ok (.invokevirtual 144, 3) := by decide +kernel
theorem dL_law_1189 : decode cL_law 1189 = .ok (.iload 5, 2) := by decide +kernel
theorem dL_law_1191 : decode cL_law 1191 = .ok (.if_icmp .eq 5, 3) := by decide +kernel
theorem dL_law_1196 : decode cL_law 1196 = .ok (.iload 5, 2) := by decide +kernel
theorem dL_law_1198 : decode cL_law 1198 = .ok (.ifCond .ne 14, 3) := by decide +kernel
theorem dL_law_1212 : decode cL_law 1212 = .ok (.goto 126, 3) := by decide +kernel
theorem dL_law_1201 : decode cL_law 1201 = .ok (.aload_n 3, 1) := by decide +kernel
theorem dL_law_1202 : decode cL_law 1202 = .ok (.iconst 0, 1) := by decide +kernel
theorem dL_law_1203 : decode cL_law 1203 = .ok (.laload, 1) := by decide +kernel
theorem dL_law_1204 : decode cL_law 1204 = .ok (.lload 6, 2) := by decide +kernel
theorem dL_law_1206 : decode cL_law 1206 = .ok (.lcmp, 1) := by decide +kernel
theorem dL_law_1207 : decode cL_law 1207 = .ok (.ifCond .eq 5, 3) := by decide +kernel
set_option maxRecDepth 100000 in
set_option maxHeartbeats 4000000 in
theorem lk_28 {p : Program} {l : Launch} {e : Env} {s : State} {m : MethodId} {below : List Frame} {meth : Method} {c : Code} {Q : State → Prop} {b L : Nat} {xs : Nat → Int32} {D : va_G} {cy sa ad : Nat → Nat} (hw : zLaw p l s m meth c b L xs D cy sa) {t cells slots : Nat} (ht : 6 * t + 6 ≤ L) (hc : cells + 1 ≤ 600128 ∧ slots + 6 ≤ 7301098) {ls : Array Slot} {F : Nat → va_E} {H : Heap} {locs : List Loc} (hZ : zH D (AL s) s.heap 69 ad F H locs) (hJ : zJ ad cy F) (hl : lv_has ls 8 [(4, .int (nI (6 * t))), (3, .ref (ad 68)), (2, .ref (ad 56)), (1, .ref (ad 0)), (0, .ref b)])
    (kk : ∀ (F1 : Nat → va_E) (H1 : Heap) (locs1 : List Loc) (ls1 : Array Slot), zH D (AL s) s.heap 69 ad F1 H1 locs1 → zJ ad cy F1 → lv_has ls1 8 [(4, .int (nI (6 * t))), (3, .ref (ad 68)), (2, .ref (ad 56)), (1, .ref (ad 0)), (0, .ref b)] → W p l e room_1 s m #[Value.ref b] below meth c H1 locs1 (cells + 1) (slots + 6) Q (F0 m 1338 ls1 [])) :
    W p l e room_1 s m #[Value.ref b] below meth c H locs cells slots Q (F0 m 1148 ls []) := by
  obtain ⟨hC, hX, hb9, hr, hlocks, hXs, hl9, hL⟩ := id hw
  obtain ⟨pic, sc, ps, sh, rd, dr, fa, mi, th, f, hRX, hRM, hG, h68⟩ := hJ
  have hx := hC.1.1
  have hb := hC.1.2.1
  have hA : ∀ q, s.heap.size ≤ q → AL s q := fun _ h => h
  have hcs : cells ≤ room_1.cells ∧ slots ≤ room_1.slots := ⟨by show cells ≤ 600128; omega, by show slots ≤ 7301098; omega⟩
  obtain ⟨p1, hp1⟩ : ∃ y, xs (6 * t + 1) = y := ⟨_, rfl⟩
  obtain ⟨p2, hp2⟩ : ∃ y, xs (6 * t + 2) = y := ⟨_, rfl⟩
  obtain ⟨p3, hp3⟩ : ∃ y, xs (6 * t + 3) = y := ⟨_, rfl⟩
  obtain ⟨p4, hp4⟩ : ∃ y, xs (6 * t + 4) = y := ⟨_, rfl⟩
  obtain ⟨p5, hp5⟩ : ∃ y, xs (6 * t + 5) = y := ⟨_, rfl⟩
  refine lv_aload_n hx hb dL_law_1148 rfl (lv_at hl 3 rfl) ?_
  refine lv_aload_n hx hb dL_law_1149 rfl (lv_at hl 4 rfl) ?_
  refine lv_iload hx hb dL_law_1150 (lv_at hl 0 rfl) ?_
  refine lv_iconst (v := 1) hx hb dL_law_1152 (by decide) ?_
  refine lv_iadd hx hb dL_law_1153 ?_
  refine zsld hw hZ.2.2 (nI_c (6 * t) 1 1 rfl) (by omega) hp1 dL_law_1154 ?_
  refine lv_aload_n hx hb dL_law_1155 rfl (lv_at hl 4 rfl) ?_
  refine lv_iload hx hb dL_law_1156 (lv_at hl 0 rfl) ?_
  refine lv_iconst (v := 2) hx hb dL_law_1158 (by decide) ?_
  refine lv_iadd hx hb dL_law_1159 ?_
  refine zsld hw hZ.2.2 (nI_c (6 * t) 2 2 rfl) (by omega) hp2 dL_law_1160 ?_
  refine lv_aload_n hx hb dL_law_1161 rfl (lv_at hl 1 rfl) ?_
  refine zgoiX hZ hA (zrunSX (As := [.ref (ad 0), .int p1, .int p2, .ref (ad 68)]) (rest := []) hC hZ hA hXs (c_L_element l hl9 D cy 69 ad F H.size sa pic sc ps sh rd dr fa mi (Nat.le_of_ble_eq_true rfl) hRX f h68 p1 p2) mL_element sL_element (gt_of 735 (by decide +kernel) rfl) (zRjL rfl) rfl hl.1 rfl (Nat.le_of_ble_eq_true rfl) dL_law_1162 ⟨by show cells + 1 ≤ 600128; omega, by show slots + 6 ≤ 7301098; omega⟩) (fun r1 F1 hp H locs hZ => ?_)
  have hcs : cells + 1 ≤ room_1.cells ∧ slots + 6 ≤ room_1.slots := ⟨by show cells + 1 ≤ 600128; omega, by show slots + 6 ≤ 7301098; omega⟩
  obtain ⟨hq1, hF1⟩ := hp
  have hRX1 : RX ad cy F1 pic sc ps sh rd dr fa mi := RX_fr hRX (fun j hj => znu hF1 (by omega))
  have hRM1 := RM_mv (F1 := F1) hRM (fun _ _ => rfl) (fun j h1 h2 => znu hF1 (by omega))
  have h681 := zeq hF1
  refine lv_istore (lv' := [(5, .int r1), (4, .int (nI (6 * t))), (3, .ref (ad 68)), (2, .ref (ad 56)), (1, .ref (ad 0)), (0, .ref b)]) hx hb dL_law_1165 hl (by decide) rfl (fun ls hl => ?_)
  refine lv_aload_n hx hb dL_law_1167 rfl (lv_at hl 3 rfl) ?_
  refine lv_aload_n hx hb dL_law_1168 rfl (lv_at hl 5 rfl) ?_
  refine lv_iload hx hb dL_law_1169 (lv_at hl 1 rfl) ?_
  refine lv_iconst (v := 1) hx hb dL_law_1171 (by decide) ?_
  refine lv_iadd hx hb dL_law_1172 ?_
  refine zsld hw hZ.2.2 (nI_c (6 * t) 1 1 rfl) (by omega) hp1 dL_law_1173 ?_
  refine lv_aload_n hx hb dL_law_1174 rfl (lv_at hl 5 rfl) ?_
  refine lv_iload hx hb dL_law_1175 (lv_at hl 1 rfl) ?_
  refine lv_iconst (v := 2) hx hb dL_law_1177 (by decide) ?_
  refine lv_iadd hx hb dL_law_1178 ?_
  refine zsld hw hZ.2.2 (nI_c (6 * t) 2 2 rfl) (by omega) hp2 dL_law_1179 ?_
  obtain ⟨fs9, h56⟩ := RM_56 hRM1
  refine zgol hZ hA (zrunV (As := [.int p1, .int p2]) (rest := []) (k := 56) hC hZ (c_X7_element l D cy 69 ad F1 H.size th pic sc ps sh (Nat.le_of_ble_eq_true rfl) hRM1 hG p1 p2) mX7_element vX7_element kL_143 (zRjL rfl) (Nat.le_of_ble_eq_true rfl) h56 rfl rfl hl.1 rfl (Nat.le_of_ble_eq_true rfl) dL_law_1180 hcs) (fun r2 F2 hp H locs hZ => ?_)
  obtain ⟨hq2, hRM2, hfm2⟩ := hp
  refine lv_lstore (lv' := [(6, .long r2), (5, .int r1), (4, .int (nI (6 * t))), (3, .ref (ad 68)), (2, .ref (ad 56)), (1, .ref (ad 0)), (0, .ref b)]) hx hb dL_law_1183 hl (by decide) rfl (fun ls hl => ?_)
  refine lv_aload_n hx hb dL_law_1185 rfl (lv_at hl 4 rfl) ?_
  obtain ⟨fs9, h56⟩ := RM_56 hRM2
  refine zgoi hZ hA (zrunV (As := []) (rest := []) (k := 56) hC hZ (c_X7_thrownQ l D cy 69 ad F2 H.size _ _ _ _ _ (Nat.le_of_ble_eq_true rfl) hRM2) mX7_thrown vX7_thrown kL_144 (zRjL rfl) (Nat.le_of_ble_eq_true rfl) h56 rfl rfl hl.1 rfl (Nat.le_of_ble_eq_true rfl) dL_law_1186 hcs) (fun r3 F3 hp H locs hZ => ?_)
  obtain ⟨hq3, hFF⟩ := hp
  subst hFF
  refine lv_iload hx hb dL_law_1189 (lv_at hl 1 rfl) ?_
  refine lv_icmp_eq (tgt := 1196) hx hb dL_law_1191 (by decide) (fun _ => ?_) (fun h9 => absurd (hq3.trans hq1.symm) h9)
  refine lv_iload hx hb dL_law_1196 (lv_at hl 1 rfl) ?_
  refine lv_if_ne (tgt := 1212) hx hb dL_law_1198 (by decide) (fun e5 => ?_) (fun e5 => ?_)
  · refine lv_goto (tgt := 1338) hx hb dL_law_1212 (by decide) ?_
    exact kk F2 H locs ls hZ ⟨_, _, _, _, _, _, _, _, _, _, RX_fr hRX1 (fun j hj => hfm2 j (Or.inl hj)), hRM2, hG, (hfm2 68 (Or.inr (by omega))).trans h681⟩ (lv_sub hl [2, 3, 4, 5, 6] rfl)
  · refine lv_aload_n hx hb dL_law_1201 rfl (lv_at hl 3 rfl) ?_
    refine lv_iconst (v := 0) hx hb dL_law_1202 (by decide) ?_
    refine zlald hC hZ (Nat.le_of_ble_eq_true rfl) ((hfm2 68 (Or.inr (by omega))).trans h681) (show (0 : Int32) = nI 0 from rfl) (by decide) (by decide) dL_law_1203 ?_
    refine lv_lload hx hb dL_law_1204 (lv_at hl 0 rfl) ?_
    refine W.lcmp hx hb dL_law_1206 ?_
    have e0 : sElT sh p1 p2 = 0 := hq1.symm.trans e5
    have e7 : (if sElT sh p1 p2 = 0 then vp_updL f 0 (sElV sh p1 p2) else f) 0 = r2 := by rw [if_pos e0, hq2]; exact if_pos rfl
    refine lv_if_eq (tgt := 1212) hx hb dL_law_1207 (by decide) (fun _ => ?_) (fun h9 => absurd ((lg_cmp_eq _ _).mpr e7) h9)
    refine lv_goto (tgt := 1338) hx hb dL_law_1212 (by decide) ?_
    exact kk F2 H locs ls hZ ⟨_, _, _, _, _, _, _, _, _, _, RX_fr hRX1 (fun j hj => hfm2 j (Or.inl hj)), hRM2, hG, (hfm2 68 (Or.inr (by omega))).trans h681⟩ (lv_sub hl [2, 3, 4, 5, 6] rfl)

theorem dL_law_1215 : decode cL_law 1215 = .ok (.aload_n 1, 1) := by decide +kernel
theorem dL_law_1216 : decode cL_law 1216 = .ok (.aload_n 0, 1) := by decide +kernel
theorem dL_law_1217 : decode cL_law 1217 = .ok (.iload 4, 2) := by decide +kernel
theorem dL_law_1219 : decode cL_law 1219 = .ok (.iconst 1, 1) := by decide +kernel
theorem dL_law_1220 : decode cL_law 1220 = .ok (.iadd, 1) := by decide +kernel
theorem dL_law_1221 : decode cL_law 1221 = .ok (.iaload, 1) := by decide +kernel
theorem dL_law_1222 : decode cL_law 1222 = .ok (.aload_n 0, 1) := by decide +kernel
theorem dL_law_1223 : decode cL_law 1223 = .ok (.iload 4, 2) := by decide +kernel
theorem dL_law_1225 : decode cL_law 1225 = .ok (.iconst 2, 1) := by decide +kernel
theorem dL_law_1226 : decode cL_law 1226 = .ok (.iadd, 1) := by decide +kernel
theorem dL_law_1227 : decode cL_law 1227 = .ok (.iaload, 1) := by decide +kernel
theorem dL_law_1228 : decode cL_law 1228 = .ok (.aload_n 0, 1) := by decide +kernel
theorem dL_law_1229 : decode cL_law 1229 = .ok (.iload 4, 2) := by decide +kernel
theorem dL_law_1231 : decode cL_law 1231 = .ok (.iconst 3, 1) := by decide +kernel
theorem dL_law_1232 : decode cL_law 1232 = .ok (.iadd, 1) := by decide +kernel
theorem dL_law_1233 : decode cL_law 1233 = .ok (.iaload, 1) := by decide +kernel
theorem dL_law_1234 : decode cL_law 1234 = .ok (.aload_n 0, 1) := by decide +kernel
theorem dL_law_1235 : decode cL_law 1235 = .ok (.iload 4, 2) := by decide +kernel
theorem dL_law_1237 : decode cL_law 1237 = .ok (.iconst 4, 1) := by decide +kernel
theorem dL_law_1238 : decode cL_law 1238 = .ok (.iadd, 1) := by decide +kernel
theorem dL_law_1239 : decode cL_law 1239 = .ok (.iaload, 1) := by decide +kernel
theorem dL_law_1240 : decode cL_law 1240 = .ok (.aload_n 0, 1) := by decide +kernel
theorem dL_law_1241 : decode cL_law 1241 = .ok (.iload 4, 2) := by decide +kernel
theorem dL_law_1243 : decode cL_law 1243 = .ok (.iconst 5, 1) := by decide +kernel
theorem dL_law_1244 : decode cL_law 1244 = .ok (.iadd, 1) := by decide +kernel
theorem dL_law_1245 : decode cL_law 1245 = .ok (.iaload, 1) := by decide +kernel
theorem vX6_copy : zMi yX6_copy := ⟨gt_of 595 (by decide +kernel) rfl, gt_of 596 (by decide +kernel) rfl⟩
theorem kL_147 : zLk RL 147 yX6_copy := Or.inl (gt_of 594 (by decide +kernel) rfl)
theorem dL_law_1246 : decode cL_law 1246 = .ok (.invokevirtual 147, 3) := by decide +kernel
theorem dL_law_1249 : decode cL_law 1249 = .ok (.aload_n 2, 1) := by decide +kernel
theorem dL_law_1250 : decode cL_law 1250 = .ok (.aload_n 0, 1) := by decide +kernel
theorem dL_law_1251 : decode cL_law 1251 = .ok (.iload 4, 2) := by decide +kernel
theorem dL_law_1253 : decode cL_law 1253 = .ok (.iconst 1, 1) := by decide +kernel
theorem dL_law_1254 : decode cL_law 1254 = .ok (.iadd, 1) := by decide +kernel
theorem dL_law_1255 : decode cL_law 1255 = .ok (.iaload, 1) := by decide +kernel
theorem dL_law_1256 : decode cL_law 1256 = .ok (.aload_n 0, 1) := by decide +kernel
theorem dL_law_1257 : decode cL_law 1257 = .ok (.iload 4, 2) := by decide +kernel
theorem dL_law_1259 : decode cL_law 1259 = .ok (.iconst 2, 1) := by decide +kernel
theorem dL_law_1260 : decode cL_law 1260 = .ok (.iadd, 1) := by decide +kernel
theorem dL_law_1261 : decode cL_law 1261 = .ok (.iaload, 1) := by decide +kernel
theorem dL_law_1262 : decode cL_law 1262 = .ok (.aload_n 0, 1) := by decide +kernel
theorem dL_law_1263 : decode cL_law 1263 = .ok (.iload 4, 2) := by decide +kernel
theorem dL_law_1265 : decode cL_law 1265 = .ok (.iconst 3, 1) := by decide +kernel
theorem dL_law_1266 : decode cL_law 1266 = .ok (.iadd, 1) := by decide +kernel
theorem dL_law_1267 : decode cL_law 1267 = .ok (.iaload, 1) := by decide +kernel
theorem dL_law_1268 : decode cL_law 1268 = .ok (.aload_n 0, 1) := by decide +kernel
theorem dL_law_1269 : decode cL_law 1269 = .ok (.iload 4, 2) := by decide +kernel
theorem dL_law_1271 : decode cL_law 1271 = .ok (.iconst 4, 1) := by decide +kernel
theorem dL_law_1272 : decode cL_law 1272 = .ok (.iadd, 1) := by decide +kernel
theorem dL_law_1273 : decode cL_law 1273 = .ok (.iaload, 1) := by decide +kernel
theorem dL_law_1274 : decode cL_law 1274 = .ok (.aload_n 0, 1) := by decide +kernel
theorem dL_law_1275 : decode cL_law 1275 = .ok (.iload 4, 2) := by decide +kernel
theorem dL_law_1277 : decode cL_law 1277 = .ok (.iconst 5, 1) := by decide +kernel
theorem dL_law_1278 : decode cL_law 1278 = .ok (.iadd, 1) := by decide +kernel
theorem dL_law_1279 : decode cL_law 1279 = .ok (.iaload, 1) := by decide +kernel
theorem vX7_copy : zMi yX7_copy := ⟨gt_of 1121 (by decide +kernel) rfl, gt_of 1122 (by decide +kernel) rfl⟩
theorem kL_151 : zLk RL 151 yX7_copy := Or.inl (gt_of 1120 (by decide +kernel) rfl)
theorem dL_law_1280 : decode cL_law 1280 = .ok (.invokevirtual 151, 3) := by decide +kernel
theorem dL_law_1283 : decode cL_law 1283 = .ok (.if_icmp .eq 55, 3) := by decide +kernel
set_option maxRecDepth 100000 in
set_option maxHeartbeats 4000000 in
theorem lk_29 {p : Program} {l : Launch} {e : Env} {s : State} {m : MethodId} {below : List Frame} {meth : Method} {c : Code} {Q : State → Prop} {b L : Nat} {xs : Nat → Int32} {D : va_G} {cy sa ad : Nat → Nat} (hw : zLaw p l s m meth c b L xs D cy sa) {t cells slots : Nat} (ht : 6 * t + 6 ≤ L) (hc : cells + 1 ≤ 600128 ∧ slots + 6 ≤ 7301098) {ls : Array Slot} {F : Nat → va_E} {H : Heap} {locs : List Loc} (hZ : zH D (AL s) s.heap 69 ad F H locs) (hJ : zJ ad cy F) (hl : lv_has ls 8 [(4, .int (nI (6 * t))), (3, .ref (ad 68)), (2, .ref (ad 56)), (1, .ref (ad 0)), (0, .ref b)])
    (kk : ∀ (F1 : Nat → va_E) (H1 : Heap) (locs1 : List Loc) (ls1 : Array Slot), zH D (AL s) s.heap 69 ad F1 H1 locs1 → zJ ad cy F1 → lv_has ls1 8 [(4, .int (nI (6 * t))), (3, .ref (ad 68)), (2, .ref (ad 56)), (1, .ref (ad 0)), (0, .ref b)] → W p l e room_1 s m #[Value.ref b] below meth c H1 locs1 (cells + 1) (slots + 6) Q (F0 m 1338 ls1 [])) :
    W p l e room_1 s m #[Value.ref b] below meth c H locs cells slots Q (F0 m 1215 ls []) := by
  obtain ⟨hC, hX, hb9, hr, hlocks, hXs, hl9, hL⟩ := id hw
  obtain ⟨pic, sc, ps, sh, rd, dr, fa, mi, th, f, hRX, hRM, hG, h68⟩ := hJ
  have hx := hC.1.1
  have hb := hC.1.2.1
  have hA : ∀ q, s.heap.size ≤ q → AL s q := fun _ h => h
  have hcs : cells ≤ room_1.cells ∧ slots ≤ room_1.slots := ⟨by show cells ≤ 600128; omega, by show slots ≤ 7301098; omega⟩
  obtain ⟨p1, hp1⟩ : ∃ y, xs (6 * t + 1) = y := ⟨_, rfl⟩
  obtain ⟨p2, hp2⟩ : ∃ y, xs (6 * t + 2) = y := ⟨_, rfl⟩
  obtain ⟨p3, hp3⟩ : ∃ y, xs (6 * t + 3) = y := ⟨_, rfl⟩
  obtain ⟨p4, hp4⟩ : ∃ y, xs (6 * t + 4) = y := ⟨_, rfl⟩
  obtain ⟨p5, hp5⟩ : ∃ y, xs (6 * t + 5) = y := ⟨_, rfl⟩
  refine lv_aload_n hx hb dL_law_1215 rfl (lv_at hl 3 rfl) ?_
  refine lv_aload_n hx hb dL_law_1216 rfl (lv_at hl 4 rfl) ?_
  refine lv_iload hx hb dL_law_1217 (lv_at hl 0 rfl) ?_
  refine lv_iconst (v := 1) hx hb dL_law_1219 (by decide) ?_
  refine lv_iadd hx hb dL_law_1220 ?_
  refine zsld hw hZ.2.2 (nI_c (6 * t) 1 1 rfl) (by omega) hp1 dL_law_1221 ?_
  refine lv_aload_n hx hb dL_law_1222 rfl (lv_at hl 4 rfl) ?_
  refine lv_iload hx hb dL_law_1223 (lv_at hl 0 rfl) ?_
  refine lv_iconst (v := 2) hx hb dL_law_1225 (by decide) ?_
  refine lv_iadd hx hb dL_law_1226 ?_
  refine zsld hw hZ.2.2 (nI_c (6 * t) 2 2 rfl) (by omega) hp2 dL_law_1227 ?_
  refine lv_aload_n hx hb dL_law_1228 rfl (lv_at hl 4 rfl) ?_
  refine lv_iload hx hb dL_law_1229 (lv_at hl 0 rfl) ?_
  refine lv_iconst (v := 3) hx hb dL_law_1231 (by decide) ?_
  refine lv_iadd hx hb dL_law_1232 ?_
  refine zsld hw hZ.2.2 (nI_c (6 * t) 3 3 rfl) (by omega) hp3 dL_law_1233 ?_
  refine lv_aload_n hx hb dL_law_1234 rfl (lv_at hl 4 rfl) ?_
  refine lv_iload hx hb dL_law_1235 (lv_at hl 0 rfl) ?_
  refine lv_iconst (v := 4) hx hb dL_law_1237 (by decide) ?_
  refine lv_iadd hx hb dL_law_1238 ?_
  refine zsld hw hZ.2.2 (nI_c (6 * t) 4 4 rfl) (by omega) hp4 dL_law_1239 ?_
  refine lv_aload_n hx hb dL_law_1240 rfl (lv_at hl 4 rfl) ?_
  refine lv_iload hx hb dL_law_1241 (lv_at hl 0 rfl) ?_
  refine lv_iconst (v := 5) hx hb dL_law_1243 (by decide) ?_
  refine lv_iadd hx hb dL_law_1244 ?_
  refine zsld hw hZ.2.2 (nI_c (6 * t) 5 5 rfl) (by omega) hp5 dL_law_1245 ?_
  refine zgoi hZ hA (zrunV (As := [.int p1, .int p2, .int p3, .int p4, .int p5]) (rest := []) (k := 0) hC hZ (c_X6_copy l D cy 69 ad F H.size pic sc ps sh rd dr fa mi (Nat.le_of_ble_eq_true rfl) hRX hG p1 p2 p3 p4 p5) mX6_copy vX6_copy kL_147 (zRjL rfl) (Nat.le_of_ble_eq_true rfl) hRX.1 rfl rfl hl.1 rfl (Nat.le_of_ble_eq_true rfl) dL_law_1246 hcs) (fun r1 F1 hp H locs hZ => ?_)
  obtain ⟨hq1, hRX1, hfr1⟩ := hp
  have hRM1 := RM_fr hRM hfr1
  have h681 := (hfr1 68 (by omega)).trans h68
  refine lv_aload_n hx hb dL_law_1249 rfl (lv_at hl 2 rfl) ?_
  refine lv_aload_n hx hb dL_law_1250 rfl (lv_at hl 4 rfl) ?_
  refine lv_iload hx hb dL_law_1251 (lv_at hl 0 rfl) ?_
  refine lv_iconst (v := 1) hx hb dL_law_1253 (by decide) ?_
  refine lv_iadd hx hb dL_law_1254 ?_
  refine zsld hw hZ.2.2 (nI_c (6 * t) 1 1 rfl) (by omega) hp1 dL_law_1255 ?_
  refine lv_aload_n hx hb dL_law_1256 rfl (lv_at hl 4 rfl) ?_
  refine lv_iload hx hb dL_law_1257 (lv_at hl 0 rfl) ?_
  refine lv_iconst (v := 2) hx hb dL_law_1259 (by decide) ?_
  refine lv_iadd hx hb dL_law_1260 ?_
  refine zsld hw hZ.2.2 (nI_c (6 * t) 2 2 rfl) (by omega) hp2 dL_law_1261 ?_
  refine lv_aload_n hx hb dL_law_1262 rfl (lv_at hl 4 rfl) ?_
  refine lv_iload hx hb dL_law_1263 (lv_at hl 0 rfl) ?_
  refine lv_iconst (v := 3) hx hb dL_law_1265 (by decide) ?_
  refine lv_iadd hx hb dL_law_1266 ?_
  refine zsld hw hZ.2.2 (nI_c (6 * t) 3 3 rfl) (by omega) hp3 dL_law_1267 ?_
  refine lv_aload_n hx hb dL_law_1268 rfl (lv_at hl 4 rfl) ?_
  refine lv_iload hx hb dL_law_1269 (lv_at hl 0 rfl) ?_
  refine lv_iconst (v := 4) hx hb dL_law_1271 (by decide) ?_
  refine lv_iadd hx hb dL_law_1272 ?_
  refine zsld hw hZ.2.2 (nI_c (6 * t) 4 4 rfl) (by omega) hp4 dL_law_1273 ?_
  refine lv_aload_n hx hb dL_law_1274 rfl (lv_at hl 4 rfl) ?_
  refine lv_iload hx hb dL_law_1275 (lv_at hl 0 rfl) ?_
  refine lv_iconst (v := 5) hx hb dL_law_1277 (by decide) ?_
  refine lv_iadd hx hb dL_law_1278 ?_
  refine zsld hw hZ.2.2 (nI_c (6 * t) 5 5 rfl) (by omega) hp5 dL_law_1279 ?_
  obtain ⟨fs9, h56⟩ := RM_56 hRM1
  refine zgoi hZ hA (zrunV (As := [.int p1, .int p2, .int p3, .int p4, .int p5]) (rest := [.int r1]) (k := 56) hC hZ (c_X7_copy l D cy 69 ad F1 H.size th pic sc ps sh (Nat.le_of_ble_eq_true rfl) hRM1 hG p1 p2 p3 p4 p5) mX7_copy vX7_copy kL_151 (zRjL rfl) (Nat.le_of_ble_eq_true rfl) h56 rfl rfl hl.1 rfl (Nat.le_of_ble_eq_true rfl) dL_law_1280 hcs) (fun r2 F2 hp H locs hZ => ?_)
  obtain ⟨hq2, hRM2, hfm2⟩ := hp
  refine lv_icmp_eq (tgt := 1338) hx hb dL_law_1283 (by decide) (fun _ => ?_) (fun h9 => absurd (hq1.trans hq2.symm) h9)
  refine W.widen (k := cells + 1) (n := slots + 6) (by omega) (by omega) ?_
  exact kk F2 H locs ls hZ ⟨_, _, _, _, _, _, _, _, _, _, RX_fr hRX1 (fun j hj => hfm2 j (Or.inl hj)), hRM2, gX_copy hG p1 p2 p3 p4 p5, (hfm2 68 (Or.inr (by omega))).trans h681⟩ hl

theorem dL_law_1288 : decode cL_law 1288 = .ok (.aload_n 1, 1) := by decide +kernel
theorem dL_law_1289 : decode cL_law 1289 = .ok (.aload_n 0, 1) := by decide +kernel
theorem dL_law_1290 : decode cL_law 1290 = .ok (.iload 4, 2) := by decide +kernel
theorem dL_law_1292 : decode cL_law 1292 = .ok (.iconst 1, 1) := by decide +kernel
theorem dL_law_1293 : decode cL_law 1293 = .ok (.iadd, 1) := by decide +kernel
theorem dL_law_1294 : decode cL_law 1294 = .ok (.iaload, 1) := by decide +kernel
theorem vX6_waits : zMi yX6_waits := ⟨gt_of 606 (by decide +kernel) rfl, gt_of 607 (by decide +kernel) rfl⟩
theorem kL_152 : zLk RL 152 yX6_waits := Or.inl (gt_of 605 (by decide +kernel) rfl)
theorem dL_law_1295 : decode cL_law 1295 = .ok (.invokevirtual 152, 3) := by decide +kernel
theorem dL_law_1298 : decode cL_law 1298 = .ok (.aload_n 2, 1) := by decide +kernel
theorem dL_law_1299 : decode cL_law 1299 = .ok (.aload_n 0, 1) := by decide +kernel
theorem dL_law_1300 : decode cL_law 1300 = .ok (.iload 4, 2) := by decide +kernel
theorem dL_law_1302 : decode cL_law 1302 = .ok (.iconst 1, 1) := by decide +kernel
theorem dL_law_1303 : decode cL_law 1303 = .ok (.iadd, 1) := by decide +kernel
theorem dL_law_1304 : decode cL_law 1304 = .ok (.iaload, 1) := by decide +kernel
theorem vX7_waits : zMi yX7_waits := ⟨gt_of 1125 (by decide +kernel) rfl, gt_of 1126 (by decide +kernel) rfl⟩
theorem kL_155 : zLk RL 155 yX7_waits := Or.inl (gt_of 1124 (by decide +kernel) rfl)
theorem dL_law_1305 : decode cL_law 1305 = .ok (.invokevirtual 155, 3) := by decide +kernel
theorem dL_law_1308 : decode cL_law 1308 = .ok (.if_icmp .eq 30, 3) := by decide +kernel
set_option maxRecDepth 100000 in
set_option maxHeartbeats 4000000 in
theorem lk_30 {p : Program} {l : Launch} {e : Env} {s : State} {m : MethodId} {below : List Frame} {meth : Method} {c : Code} {Q : State → Prop} {b L : Nat} {xs : Nat → Int32} {D : va_G} {cy sa ad : Nat → Nat} (hw : zLaw p l s m meth c b L xs D cy sa) {t cells slots : Nat} (ht : 6 * t + 6 ≤ L) (hc : cells + 1 ≤ 600128 ∧ slots + 6 ≤ 7301098) {ls : Array Slot} {F : Nat → va_E} {H : Heap} {locs : List Loc} (hZ : zH D (AL s) s.heap 69 ad F H locs) (hJ : zJ ad cy F) (hl : lv_has ls 8 [(4, .int (nI (6 * t))), (3, .ref (ad 68)), (2, .ref (ad 56)), (1, .ref (ad 0)), (0, .ref b)])
    (kk : ∀ (F1 : Nat → va_E) (H1 : Heap) (locs1 : List Loc) (ls1 : Array Slot), zH D (AL s) s.heap 69 ad F1 H1 locs1 → zJ ad cy F1 → lv_has ls1 8 [(4, .int (nI (6 * t))), (3, .ref (ad 68)), (2, .ref (ad 56)), (1, .ref (ad 0)), (0, .ref b)] → W p l e room_1 s m #[Value.ref b] below meth c H1 locs1 (cells + 1) (slots + 6) Q (F0 m 1338 ls1 [])) :
    W p l e room_1 s m #[Value.ref b] below meth c H locs cells slots Q (F0 m 1288 ls []) := by
  obtain ⟨hC, hX, hb9, hr, hlocks, hXs, hl9, hL⟩ := id hw
  obtain ⟨pic, sc, ps, sh, rd, dr, fa, mi, th, f, hRX, hRM, hG, h68⟩ := hJ
  have hx := hC.1.1
  have hb := hC.1.2.1
  have hA : ∀ q, s.heap.size ≤ q → AL s q := fun _ h => h
  have hcs : cells ≤ room_1.cells ∧ slots ≤ room_1.slots := ⟨by show cells ≤ 600128; omega, by show slots ≤ 7301098; omega⟩
  obtain ⟨p1, hp1⟩ : ∃ y, xs (6 * t + 1) = y := ⟨_, rfl⟩
  obtain ⟨p2, hp2⟩ : ∃ y, xs (6 * t + 2) = y := ⟨_, rfl⟩
  obtain ⟨p3, hp3⟩ : ∃ y, xs (6 * t + 3) = y := ⟨_, rfl⟩
  obtain ⟨p4, hp4⟩ : ∃ y, xs (6 * t + 4) = y := ⟨_, rfl⟩
  obtain ⟨p5, hp5⟩ : ∃ y, xs (6 * t + 5) = y := ⟨_, rfl⟩
  refine lv_aload_n hx hb dL_law_1288 rfl (lv_at hl 3 rfl) ?_
  refine lv_aload_n hx hb dL_law_1289 rfl (lv_at hl 4 rfl) ?_
  refine lv_iload hx hb dL_law_1290 (lv_at hl 0 rfl) ?_
  refine lv_iconst (v := 1) hx hb dL_law_1292 (by decide) ?_
  refine lv_iadd hx hb dL_law_1293 ?_
  refine zsld hw hZ.2.2 (nI_c (6 * t) 1 1 rfl) (by omega) hp1 dL_law_1294 ?_
  refine zgoi hZ hA (zrunV (As := [.int p1]) (rest := []) (k := 0) hC hZ (c_X6_waits l D cy 69 ad F H.size pic sc ps sh rd dr fa mi (Nat.le_of_ble_eq_true rfl) hRX p1) mX6_waits vX6_waits kL_152 (zRjL rfl) (Nat.le_of_ble_eq_true rfl) hRX.1 rfl rfl hl.1 rfl (Nat.le_of_ble_eq_true rfl) dL_law_1295 hcs) (fun r1 F1 hp H locs hZ => ?_)
  obtain ⟨hq1, hFF⟩ := hp
  have hRX1 : RX ad cy F1 pic sc ps sh rd dr fa mi := by rw [← hFF]; exact hRX
  have hfr1 : fr56 F F1 := by rw [← hFF]; exact fr56_rf
  have hRM1 := RM_fr hRM hfr1
  have h681 := (hfr1 68 (by omega)).trans h68
  refine lv_aload_n hx hb dL_law_1298 rfl (lv_at hl 2 rfl) ?_
  refine lv_aload_n hx hb dL_law_1299 rfl (lv_at hl 4 rfl) ?_
  refine lv_iload hx hb dL_law_1300 (lv_at hl 0 rfl) ?_
  refine lv_iconst (v := 1) hx hb dL_law_1302 (by decide) ?_
  refine lv_iadd hx hb dL_law_1303 ?_
  refine zsld hw hZ.2.2 (nI_c (6 * t) 1 1 rfl) (by omega) hp1 dL_law_1304 ?_
  obtain ⟨fs9, h56⟩ := RM_56 hRM1
  refine zgoi hZ hA (zrunV (As := [.int p1]) (rest := [.int r1]) (k := 56) hC hZ (c_X7_waits l D cy 69 ad F1 H.size th pic sc ps sh (Nat.le_of_ble_eq_true rfl) hRM1 hG p1) mX7_waits vX7_waits kL_155 (zRjL rfl) (Nat.le_of_ble_eq_true rfl) h56 rfl rfl hl.1 rfl (Nat.le_of_ble_eq_true rfl) dL_law_1305 hcs) (fun r2 F2 hp H locs hZ => ?_)
  obtain ⟨hq2, hRM2, hfm2⟩ := hp
  refine lv_icmp_eq (tgt := 1338) hx hb dL_law_1308 (by decide) (fun _ => ?_) (fun h9 => absurd (hq1.trans hq2.symm) h9)
  refine W.widen (k := cells + 1) (n := slots + 6) (by omega) (by omega) ?_
  exact kk F2 H locs ls hZ ⟨_, _, _, _, _, _, _, _, _, _, RX_fr hRX1 (fun j hj => hfm2 j (Or.inl hj)), hRM2, hG, (hfm2 68 (Or.inr (by omega))).trans h681⟩ hl

theorem dL_law_1313 : decode cL_law 1313 = .ok (.aload_n 1, 1) := by decide +kernel
theorem dL_law_1314 : decode cL_law 1314 = .ok (.aload_n 0, 1) := by decide +kernel
theorem dL_law_1315 : decode cL_law 1315 = .ok (.iload 4, 2) := by decide +kernel
theorem dL_law_1317 : decode cL_law 1317 = .ok (.iconst 1, 1) := by decide +kernel
theorem dL_law_1318 : decode cL_law 1318 = .ok (.iadd, 1) := by decide +kernel
theorem dL_law_1319 : decode cL_law 1319 = .ok (.iaload, 1) := by decide +kernel
theorem mX6_toss : zMd yX6_toss cX6_toss 3 (some .int) 1 := ⟨by decide +kernel, gt_of 624 (by decide +kernel) rfl, gt_of 45 (by decide +kernel) rfl, by decide⟩
theorem vX6_toss : zMi yX6_toss := ⟨gt_of 622 (by decide +kernel) rfl, gt_of 623 (by decide +kernel) rfl⟩
theorem kL_156 : zLk RL 156 yX6_toss := Or.inl (gt_of 621 (by decide +kernel) rfl)
theorem dL_law_1320 : decode cL_law 1320 = .ok (.invokevirtual 156, 3) := by decide +kernel
theorem dL_law_1323 : decode cL_law 1323 = .ok (.aload_n 2, 1) := by decide +kernel
theorem dL_law_1324 : decode cL_law 1324 = .ok (.aload_n 0, 1) := by decide +kernel
theorem dL_law_1325 : decode cL_law 1325 = .ok (.iload 4, 2) := by decide +kernel
theorem dL_law_1327 : decode cL_law 1327 = .ok (.iconst 1, 1) := by decide +kernel
theorem dL_law_1328 : decode cL_law 1328 = .ok (.iadd, 1) := by decide +kernel
theorem dL_law_1329 : decode cL_law 1329 = .ok (.iaload, 1) := by decide +kernel
theorem vX7_toss : zMi yX7_toss := ⟨gt_of 1133 (by decide +kernel) rfl, gt_of 1134 (by decide +kernel) rfl⟩
theorem kL_159 : zLk RL 159 yX7_toss := Or.inl (gt_of 1132 (by decide +kernel) rfl)
theorem dL_law_1330 : decode cL_law 1330 = .ok (.invokevirtual 159, 3) := by decide +kernel
theorem dL_law_1333 : decode cL_law 1333 = .ok (.if_icmp .eq 5, 3) := by decide +kernel
set_option maxRecDepth 100000 in
set_option maxHeartbeats 4000000 in
theorem lk_31 {p : Program} {l : Launch} {e : Env} {s : State} {m : MethodId} {below : List Frame} {meth : Method} {c : Code} {Q : State → Prop} {b L : Nat} {xs : Nat → Int32} {D : va_G} {cy sa ad : Nat → Nat} (hw : zLaw p l s m meth c b L xs D cy sa) {t cells slots : Nat} (ht : 6 * t + 6 ≤ L) (hc : cells + 1 ≤ 600128 ∧ slots + 6 ≤ 7301098) {ls : Array Slot} {F : Nat → va_E} {H : Heap} {locs : List Loc} (hZ : zH D (AL s) s.heap 69 ad F H locs) (hJ : zJ ad cy F) (hl : lv_has ls 8 [(4, .int (nI (6 * t))), (3, .ref (ad 68)), (2, .ref (ad 56)), (1, .ref (ad 0)), (0, .ref b)])
    (kk : ∀ (F1 : Nat → va_E) (H1 : Heap) (locs1 : List Loc) (ls1 : Array Slot), zH D (AL s) s.heap 69 ad F1 H1 locs1 → zJ ad cy F1 → lv_has ls1 8 [(4, .int (nI (6 * t))), (3, .ref (ad 68)), (2, .ref (ad 56)), (1, .ref (ad 0)), (0, .ref b)] → W p l e room_1 s m #[Value.ref b] below meth c H1 locs1 (cells + 1) (slots + 6) Q (F0 m 1338 ls1 [])) :
    W p l e room_1 s m #[Value.ref b] below meth c H locs cells slots Q (F0 m 1313 ls []) := by
  obtain ⟨hC, hX, hb9, hr, hlocks, hXs, hl9, hL⟩ := id hw
  obtain ⟨pic, sc, ps, sh, rd, dr, fa, mi, th, f, hRX, hRM, hG, h68⟩ := hJ
  have hx := hC.1.1
  have hb := hC.1.2.1
  have hA : ∀ q, s.heap.size ≤ q → AL s q := fun _ h => h
  have hcs : cells ≤ room_1.cells ∧ slots ≤ room_1.slots := ⟨by show cells ≤ 600128; omega, by show slots ≤ 7301098; omega⟩
  obtain ⟨p1, hp1⟩ : ∃ y, xs (6 * t + 1) = y := ⟨_, rfl⟩
  obtain ⟨p2, hp2⟩ : ∃ y, xs (6 * t + 2) = y := ⟨_, rfl⟩
  obtain ⟨p3, hp3⟩ : ∃ y, xs (6 * t + 3) = y := ⟨_, rfl⟩
  obtain ⟨p4, hp4⟩ : ∃ y, xs (6 * t + 4) = y := ⟨_, rfl⟩
  obtain ⟨p5, hp5⟩ : ∃ y, xs (6 * t + 5) = y := ⟨_, rfl⟩
  refine lv_aload_n hx hb dL_law_1313 rfl (lv_at hl 3 rfl) ?_
  refine lv_aload_n hx hb dL_law_1314 rfl (lv_at hl 4 rfl) ?_
  refine lv_iload hx hb dL_law_1315 (lv_at hl 0 rfl) ?_
  refine lv_iconst (v := 1) hx hb dL_law_1317 (by decide) ?_
  refine lv_iadd hx hb dL_law_1318 ?_
  refine zsld hw hZ.2.2 (nI_c (6 * t) 1 1 rfl) (by omega) hp1 dL_law_1319 ?_
  refine zgoiC hZ hA (zrunMV (As := [.int p1]) (rest := []) (k := 0) hC hZ hA hXs (c_X6_toss l hl9 D cy 69 ad F H.size sa pic sc ps sh rd dr fa mi (Nat.le_of_ble_eq_true rfl) hRX p1) mX6_toss vX6_toss (gt_of 621 (by decide +kernel) rfl) (zRjL rfl) (Nat.le_of_ble_eq_true rfl) hRX.1 rfl rfl hl.1 rfl (Nat.le_of_ble_eq_true rfl) dL_law_1320 ⟨by show cells + 1 ≤ 600128; omega, by show slots + 6 ≤ 7301098; omega⟩) (fun r1 F1 hp H locs hZ => ?_)
  have hcs : cells + 1 ≤ room_1.cells ∧ slots + 6 ≤ room_1.slots := ⟨by show cells + 1 ≤ 600128; omega, by show slots + 6 ≤ 7301098; omega⟩
  obtain ⟨hq1, hFF⟩ := hp
  have hRX1 : RX ad cy F1 pic sc ps sh rd dr fa mi := by rw [← hFF]; exact hRX
  have hfr1 : fr56 F F1 := by rw [← hFF]; exact fr56_rf
  have hRM1 := RM_fr hRM hfr1
  have h681 := (hfr1 68 (by omega)).trans h68
  refine lv_aload_n hx hb dL_law_1323 rfl (lv_at hl 2 rfl) ?_
  refine lv_aload_n hx hb dL_law_1324 rfl (lv_at hl 4 rfl) ?_
  refine lv_iload hx hb dL_law_1325 (lv_at hl 0 rfl) ?_
  refine lv_iconst (v := 1) hx hb dL_law_1327 (by decide) ?_
  refine lv_iadd hx hb dL_law_1328 ?_
  refine zsld hw hZ.2.2 (nI_c (6 * t) 1 1 rfl) (by omega) hp1 dL_law_1329 ?_
  obtain ⟨fs9, h56⟩ := RM_56 hRM1
  refine zgoi hZ hA (zrunV (As := [.int p1]) (rest := [.int r1]) (k := 56) hC hZ (c_X7_toss l D cy 69 ad F1 H.size th pic sc ps sh (Nat.le_of_ble_eq_true rfl) hRM1 hG p1) mX7_toss vX7_toss kL_159 (zRjL rfl) (Nat.le_of_ble_eq_true rfl) h56 rfl rfl hl.1 rfl (Nat.le_of_ble_eq_true rfl) dL_law_1330 hcs) (fun r2 F2 hp H locs hZ => ?_)
  obtain ⟨hq2, hRM2, hfm2⟩ := hp
  refine lv_icmp_eq (tgt := 1338) hx hb dL_law_1333 (by decide) (fun _ => ?_) (fun h9 => absurd (hq1.trans hq2.symm) h9)
  exact kk F2 H locs ls hZ ⟨_, _, _, _, _, _, _, _, _, _, RX_fr hRX1 (fun j hj => hfm2 j (Or.inl hj)), hRM2, hG, (hfm2 68 (Or.inr (by omega))).trans h681⟩ hl
