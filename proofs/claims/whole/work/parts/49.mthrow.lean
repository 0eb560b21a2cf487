theorem dX5_fail_0 : decode cX5_fail 0 = .ok (.aload_n 0, 1) := by decide +kernel
theorem dX5_fail_1 : decode cX5_fail 1 = .ok (.getfield 9, 3) := by decide +kernel
theorem dX5_fail_4 : decode cX5_fail 4 = .ok (.iconst 5, 1) := by decide +kernel
theorem dX5_fail_5 : decode cX5_fail 5 = .ok (.if_icmp .eq 10, 3) := by decide +kernel
theorem dX5_fail_15 : decode cX5_fail 15 = .ok (.return_, 1) := by decide +kernel
theorem dX5_fail_8 : decode cX5_fail 8 = .ok (.aload_n 0, 1) := by decide +kernel
theorem dX5_fail_9 : decode cX5_fail 9 = .ok (.getfield 15, 3) := by decide +kernel
theorem dX5_fail_12 : decode cX5_fail 12 = .ok (.ifCond .ne 4, 3) := by decide +kernel
theorem dX5_fail_16 : decode cX5_fail 16 = .ok (.aload_n 0, 1) := by decide +kernel
theorem dX5_fail_17 : decode cX5_fail 17 = .ok (.getfield 9, 3) := by decide +kernel
theorem dX5_fail_20 : decode cX5_fail 20 = .ok (.iconst 2, 1) := by decide +kernel
theorem dX5_fail_21 : decode cX5_fail 21 = .ok (.if_icmp .ne 13, 3) := by decide +kernel
theorem dX5_fail_34 : decode cX5_fail 34 = .ok (.aload_n 0, 1) := by decide +kernel
theorem dX5_fail_35 : decode cX5_fail 35 = .ok (.getfield 9, 3) := by decide +kernel
theorem dX5_fail_38 : decode cX5_fail 38 = .ok (.bipush 7, 2) := by decide +kernel
theorem dX5_fail_40 : decode cX5_fail 40 = .ok (.if_icmp .ne 13, 3) := by decide +kernel
set_option maxRecDepth 20000 in
theorem tX5_74 : zThr RX5 74 78 sISE := ⟨by decide +kernel, gt_of 719 (by decide +kernel) rfl, gt_of 58 (by decide +kernel) rfl, by decide +kernel, by decide +kernel, by decide +kernel⟩
theorem dX5_fail_53 : decode cX5_fail 53 = .ok (.new 74, 3) := by decide +kernel
theorem dX5_fail_56 : decode cX5_fail 56 = .ok (.dup, 1) := by decide +kernel
theorem dX5_fail_57 : decode cX5_fail 57 = .ok (.ldc 76, 2) := by decide +kernel
theorem dX5_fail_59 : decode cX5_fail 59 = .ok (.invokespecial 78, 3) := by decide +kernel
theorem dX5_fail_62 : decode cX5_fail 62 = .ok (.athrow, 1) := by decide +kernel
set_option maxRecDepth 20000 in
theorem tX5_69 : zThr RX5 69 73 sUOE := ⟨by decide +kernel, gt_of 703 (by decide +kernel) rfl, gt_of 60 (by decide +kernel) rfl, by decide +kernel, by decide +kernel, by decide +kernel⟩
theorem dX5_fail_43 : decode cX5_fail 43 = .ok (.new 69, 3) := by decide +kernel
theorem dX5_fail_46 : decode cX5_fail 46 = .ok (.dup, 1) := by decide +kernel
theorem dX5_fail_47 : decode cX5_fail 47 = .ok (.ldc 71, 2) := by decide +kernel
theorem dX5_fail_49 : decode cX5_fail 49 = .ok (.invokespecial 73, 3) := by decide +kernel
theorem dX5_fail_52 : decode cX5_fail 52 = .ok (.athrow, 1) := by decide +kernel
set_option maxRecDepth 20000 in
theorem tX5_62 : zThr RX5 62 66 sIAE := ⟨by decide +kernel, gt_of 635 (by decide +kernel) rfl, gt_of 57 (by decide +kernel) rfl, by decide +kernel, by decide +kernel, by decide +kernel⟩
theorem dX5_fail_24 : decode cX5_fail 24 = .ok (.new 62, 3) := by decide +kernel
theorem dX5_fail_27 : decode cX5_fail 27 = .ok (.dup, 1) := by decide +kernel
theorem dX5_fail_28 : decode cX5_fail 28 = .ok (.ldc 64, 2) := by decide +kernel
theorem dX5_fail_30 : decode cX5_fail 30 = .ok (.invokespecial 66, 3) := by decide +kernel
theorem dX5_fail_33 : decode cX5_fail 33 = .ok (.athrow, 1) := by decide +kernel
set_option maxRecDepth 100000 in
set_option maxHeartbeats 4000000 in
theorem c_X5_fail (l : Launch) (hl9 : l.stackTraces = false) (D : va_G) (cy : Nat → Nat) (n : Nat) (ad : Nat → Nat) (F : Nat → va_E) (sz : Nat) (sa : Nat → Nat) (k : Nat) (t : Tal) (hk : k < n) (hFk : F k = oTale t) : vx_Met l yX5_fail (zw yX5_fail cX5_fail 1 none) (rmC 6 1 6) (zPcX D cy n ad F sz sa [.ref (ad k)]) (va_Qv (fun F1 => (t.1 = 5 ∨ t.2 = 0) ∧ F = F1) (zB D n ad) (zA n ad sz)) (vx_X (fun _ : Unit => ¬ (t.1 = 5 ∨ t.2 = 0)) (fun E _ t9 => E = sFailE t ∧ zB D n ad F t9) (zA n ad sz)) 1 6 (zA n ad sz) := by
  refine zmetX (by decide +kernel) (Nat.le_of_ble_eq_true rfl) (fun p e s m args below meth c ls hC hsz hZ hA hr hlocks htab hXs hl => ?_)
  have hC : zC p m c cX5_fail 1 s args RX5 D cy := hC
  have hx := hC.1.1
  have hb := hC.1.2.1
  have hl : lv_has ls 1 [(0, .ref (ad k))] := hl
  refine lv_aload_n hx hb dX5_fail_0 rfl (lv_at hl 0 rfl) ?_
  refine zget hC hZ fX5_9 hk hFk rfl dX5_fail_1 ?_
  refine lv_iconst (v := 5) hx hb dX5_fail_4 (by decide) ?_
  refine lv_icmp_eq (tgt := 15) hx hb dX5_fail_5 (by decide) (fun c_5 => ?_) (fun c_5 => ?_)
  · refine W.widen (k := 1) (n := 6) (Nat.le_of_ble_eq_true rfl) (Nat.le_of_ble_eq_true rfl) ?_
    exact vx_ret (zvret hC hZ hr hlocks ⟨Or.inl c_5, rfl⟩ dX5_fail_15)
  · refine lv_aload_n hx hb dX5_fail_8 rfl (lv_at hl 0 rfl) ?_
    refine zget hC hZ fX5_15 hk hFk rfl dX5_fail_9 ?_
    refine lv_if_ne (tgt := 16) hx hb dX5_fail_12 (by decide) (fun c_12 => ?_) (fun c_12 => ?_)
    · refine lv_aload_n hx hb dX5_fail_16 rfl (lv_at hl 0 rfl) ?_
      refine zget hC hZ fX5_9 hk hFk rfl dX5_fail_17 ?_
      refine lv_iconst (v := 2) hx hb dX5_fail_20 (by decide) ?_
      refine lv_icmp_ne (tgt := 34) hx hb dX5_fail_21 (by decide) (fun c_21 => ?_) (fun c_21 => ?_)
      · refine lv_aload_n hx hb dX5_fail_34 rfl (lv_at hl 0 rfl) ?_
        refine zget hC hZ fX5_9 hk hFk rfl dX5_fail_35 ?_
        refine lv_bipush (v := 7) hx hb dX5_fail_38 (by decide) ?_
        refine lv_icmp_ne (tgt := 53) hx hb dX5_fail_40 (by decide) (fun c_40 => ?_) (fun c_40 => ?_)
        · have hnm : sISE = sFailE t := ((if_neg c_21).trans (if_neg c_40)).symm
          exact zthrow hC hZ hl9 hXs tX5_74 hXs.2.2.1.2.2.1 hl.1 dX5_fail_53 dX5_fail_56 dX5_fail_57 dX5_fail_59 dX5_fail_62 htab (Nat.le_of_ble_eq_true rfl) (Nat.le_of_ble_eq_true rfl) (Nat.le_of_ble_eq_true rfl) (Nat.le_of_ble_eq_true rfl) hlocks hnm (fun h => h.elim c_5 c_12) (Nat.le_of_ble_eq_true rfl) (Nat.le_of_ble_eq_true rfl)
        · have hnm : sUOE = sFailE t := ((if_neg c_21).trans (if_pos c_40)).symm
          exact zthrow hC hZ hl9 hXs tX5_69 hXs.2.2.1.2.1 hl.1 dX5_fail_43 dX5_fail_46 dX5_fail_47 dX5_fail_49 dX5_fail_52 htab (Nat.le_of_ble_eq_true rfl) (Nat.le_of_ble_eq_true rfl) (Nat.le_of_ble_eq_true rfl) (Nat.le_of_ble_eq_true rfl) hlocks hnm (fun h => h.elim c_5 c_12) (Nat.le_of_ble_eq_true rfl) (Nat.le_of_ble_eq_true rfl)
      · have hnm : sIAE = sFailE t := (if_pos c_21).symm
        exact zthrow hC hZ hl9 hXs tX5_62 hXs.2.2.1.1 hl.1 dX5_fail_24 dX5_fail_27 dX5_fail_28 dX5_fail_30 dX5_fail_33 htab (Nat.le_of_ble_eq_true rfl) (Nat.le_of_ble_eq_true rfl) (Nat.le_of_ble_eq_true rfl) (Nat.le_of_ble_eq_true rfl) hlocks hnm (fun h => h.elim c_5 c_12) (Nat.le_of_ble_eq_true rfl) (Nat.le_of_ble_eq_true rfl)
    · refine W.widen (k := 1) (n := 6) (Nat.le_of_ble_eq_true rfl) (Nat.le_of_ble_eq_true rfl) ?_
      exact vx_ret (zvret hC hZ hr hlocks ⟨Or.inr c_12, rfl⟩ dX5_fail_15)

theorem dX6_tossed_0 : decode cX6_tossed 0 = .ok (.aload_n 0, 1) := by decide +kernel
theorem mX5_fail : zMd yX5_fail cX5_fail 1 none 0 := ⟨by decide +kernel, gt_of 634 (by decide +kernel) rfl, gt_of 50 (by decide +kernel) rfl, by decide⟩
theorem vX5_fail : zMi yX5_fail := ⟨gt_of 632 (by decide +kernel) rfl, gt_of 633 (by decide +kernel) rfl⟩
theorem dX6_tossed_1 : decode cX6_tossed 1 = .ok (.invokevirtual 308, 3) := by decide +kernel
theorem dX6_tossed_7 : decode cX6_tossed 7 = .ok (.astore_n 1, 1) := by decide +kernel
theorem dX6_tossed_8 : decode cX6_tossed 8 = .ok (.aload_n 0, 1) := by decide +kernel
theorem dX6_tossed_9 : decode cX6_tossed 9 = .ok (.getfield 311, 3) := by decide +kernel
theorem fX6_311 : zFld RX6 311 5 1 := ⟨RX5, TX5, 2, rfl, inX5, by decide, rfl, Or.inr ⟨"ChainLeap", List.mem_of_getElem? (i := 172) (by decide +kernel)⟩⟩
theorem dX6_tossed_12 : decode cX6_tossed 12 = .ok (.bipush 100, 2) := by decide +kernel
theorem dX6_tossed_14 : decode cX6_tossed 14 = .ok (.iadd, 1) := by decide +kernel
theorem dX6_tossed_15 : decode cX6_tossed 15 = .ok (.ireturn, 1) := by decide +kernel
theorem dX6_tossed_16 : decode cX6_tossed 16 = .ok (.astore_n 1, 1) := by decide +kernel
theorem dX6_tossed_17 : decode cX6_tossed 17 = .ok (.sipush 200, 3) := by decide +kernel
theorem dX6_tossed_20 : decode cX6_tossed 20 = .ok (.aload_n 0, 1) := by decide +kernel
theorem dX6_tossed_21 : decode cX6_tossed 21 = .ok (.invokevirtual 301, 3) := by decide +kernel
theorem dX6_tossed_24 : decode cX6_tossed 24 = .ok (.iadd, 1) := by decide +kernel
theorem dX6_tossed_25 : decode cX6_tossed 25 = .ok (.ireturn, 1) := by decide +kernel
theorem dX6_tossed_26 : decode cX6_tossed 26 = .ok (.astore_n 1, 1) := by decide +kernel
theorem dX6_tossed_27 : decode cX6_tossed 27 = .ok (.aload_n 0, 1) := by decide +kernel
theorem dX6_tossed_28 : decode cX6_tossed 28 = .ok (.getfield 311, 3) := by decide +kernel
theorem dX6_tossed_31 : decode cX6_tossed 31 = .ok (.ireturn, 1) := by decide +kernel
theorem dX6_tossed_4 : decode cX6_tossed 4 = .ok (.bipush (-15), 2) := by decide +kernel
theorem dX6_tossed_6 : decode cX6_tossed 6 = .ok (.ireturn, 1) := by decide +kernel
set_option maxRecDepth 100000 in
set_option maxHeartbeats 4000000 in
theorem c_X6_tossed (l : Launch) (hl9 : l.stackTraces = false) (D : va_G) (cy : Nat → Nat) (n : Nat) (ad : Nat → Nat) (F : Nat → va_E) (sz : Nat) (sa : Nat → Nat) (k : Nat) (t : Tal) (hk : k < n) (hFk : F k = oTale t) : vx_Met l yX6_tossed (zwH yX6_tossed cX6_tossed 2 (some .int) [(0, 6, 7, 273), (0, 6, 16, 314), (0, 6, 26, 283)]) (rmC 7 1 6) (zPcX D cy n ad F sz sa [.ref (ad k)]) (va_Qi (fun r F1 => r = sToss t ∧ F = F1) (zB D n ad) (zA n ad sz)) (vx_X (fun _ : Unit => False) (fun _ _ _ => False) (zA n ad sz)) 1 6 (zA n ad sz) := by
  refine zmetH (by decide +kernel) (Nat.le_of_ble_eq_true rfl) (fun p e s m args below meth c ls hC hsz hZ hA hr hlocks htab hXs hl => ?_)
  have hC : zC p m c cX6_tossed 2 s args RX6 D cy := hC
  have hx := hC.1.1
  have hb := hC.1.2.1
  have hl : lv_has ls 2 [(0, .ref (ad k))] := hl
  refine lv_aload_n hx hb dX6_tossed_0 rfl (lv_at hl 0 rfl) ?_
  refine zgovX hZ hA (zrunXV (As := []) (rest := []) (k := k) hC hZ hA hXs (c_X5_fail l hl9 D cy n ad F s.heap.size sa k t hk hFk) mX5_fail vX5_fail (gt_of 631 (by decide +kernel) rfl) (zRjC_of rfl) hk hFk rfl rfl hl.1 rfl (Nat.le_of_ble_eq_true rfl) dX6_tossed_1 ⟨(Nat.le_of_ble_eq_true rfl), (Nat.le_of_ble_eq_true rfl)⟩) (fun hpx ce q9 H locs hZ hcell hv9 hcl => ?_) (fun F1 hp H locs hZ => ?_)
  · by_cases e2 : t.1 = 2
    · have hnm : sFailE t = sIAE := if_pos e2
      rw [hnm] at hcl
      refine zcatch hC hXs.1 (name := sIAE) (E := sIAE) [] ⟨0, 6, 7, 273⟩ [⟨0, 6, 16, 314⟩, ⟨0, 6, 26, 283⟩] (by rw [htab]; rfl) (fun z hz => absurd hz List.not_mem_nil) rfl (by decide) (gt_of 628 (by decide +kernel) rfl) (List.mem_of_getElem? (i := 637) (by decide +kernel)) hcell hv9 hcl ?_
      refine lv_astore_n (lv' := [(1, .ref q9), (0, .ref (ad k))]) hx hb dX6_tossed_7 rfl hl (by decide) rfl (fun ls hl => ?_)
      refine lv_aload_n hx hb dX6_tossed_8 rfl (lv_at hl 1 rfl) ?_
      refine zget hC hZ fX6_311 hk hFk rfl dX6_tossed_9 ?_
      refine lv_bipush (v := 100) hx hb dX6_tossed_12 (by decide) ?_
      refine lv_iadd hx hb dX6_tossed_14 ?_
      have hq : (t.2 + 100) = sToss t := by unfold sToss; rw [if_neg hpx, if_pos e2, Int32.add_comm]
      exact vx_ret (zireti hC hZ hr hlocks ⟨hq, rfl⟩ dX6_tossed_15)
    · by_cases e7 : t.1 = 7
      · have hnm : sFailE t = sUOE := (if_neg e2).trans (if_pos e7)
        rw [hnm] at hcl
        refine zcatch hC hXs.1 (name := sUOE) (E := sUOE) [⟨0, 6, 7, 273⟩] ⟨0, 6, 16, 314⟩ [⟨0, 6, 26, 283⟩] (by rw [htab]; rfl) (fun z hz => by rcases List.mem_singleton.mp hz with rfl; exact ⟨sIAE, by decide, gt_of 628 (by decide +kernel) rfl, hXs.2.1.1⟩) rfl (by decide) (gt_of 629 (by decide +kernel) rfl) (List.mem_of_getElem? (i := 705) (by decide +kernel)) hcell hv9 hcl ?_
        refine lv_astore_n (lv' := [(1, .ref q9), (0, .ref (ad k))]) hx hb dX6_tossed_16 rfl hl (by decide) rfl (fun ls hl => ?_)
        refine lv_sipush (v := 200) hx hb dX6_tossed_17 (by decide) ?_
        refine lv_aload_n hx hb dX6_tossed_20 rfl (lv_at hl 1 rfl) ?_
        refine zgoi hZ hA (zrunV (As := []) (rest := [.int 200]) (k := k) hC hZ (c_X5_waiting l D cy n ad F H.size k t hk hFk) mX5_waiting vX5_waiting kX6_301 (zRjC_of rfl) hk hFk rfl rfl hl.1 rfl (Nat.le_of_ble_eq_true rfl) dX6_tossed_21 ⟨(Nat.le_of_ble_eq_true rfl), (Nat.le_of_ble_eq_true rfl)⟩) (fun r_2 F_1 hp_3 H locs hZ => ?_)
        obtain ⟨rfl, rfl⟩ := hp_3
        refine lv_iadd hx hb dX6_tossed_24 ?_
        have hq : (200 + (sWait t)) = sToss t := by unfold sToss; rw [if_neg hpx, if_neg e2, if_pos e7]
        exact vx_ret (zireti hC hZ hr hlocks ⟨hq, rfl⟩ dX6_tossed_25)
      · have hnm : sFailE t = sISE := (if_neg e2).trans (if_neg e7)
        rw [hnm] at hcl
        refine zcatch hC hXs.1 (name := sISE) (E := sISE) [⟨0, 6, 7, 273⟩, ⟨0, 6, 16, 314⟩] ⟨0, 6, 26, 283⟩ [] (by rw [htab]; rfl) (fun z hz => by rcases List.mem_cons.mp hz with rfl | hz; exact ⟨sIAE, by decide, gt_of 628 (by decide +kernel) rfl, hXs.2.1.2.1⟩; rcases List.mem_singleton.mp hz with rfl; exact ⟨sUOE, by decide, gt_of 629 (by decide +kernel) rfl, hXs.2.1.2.2⟩) rfl (by decide) (gt_of 630 (by decide +kernel) rfl) (List.mem_of_getElem? (i := 721) (by decide +kernel)) hcell hv9 hcl ?_
        refine lv_astore_n (lv' := [(1, .ref q9), (0, .ref (ad k))]) hx hb dX6_tossed_26 rfl hl (by decide) rfl (fun ls hl => ?_)
        refine lv_aload_n hx hb dX6_tossed_27 rfl (lv_at hl 1 rfl) ?_
        refine zget hC hZ fX6_311 hk hFk rfl dX6_tossed_28 ?_
        have hq : t.2 = sToss t := by unfold sToss; rw [if_neg hpx, if_neg e2, if_neg e7]
        exact vx_ret (zireti hC hZ hr hlocks ⟨hq, rfl⟩ dX6_tossed_31)
  · obtain ⟨hp0, rfl⟩ := hp
    refine lv_bipush (v := (-15)) hx hb dX6_tossed_4 (by decide) ?_
    have hq : (-15 : Int32) = sToss t := (if_pos hp0).symm
    exact vx_ret (zireti hC hZ hr hlocks ⟨hq, rfl⟩ dX6_tossed_6)

theorem dX6_toss_0 : decode cX6_toss 0 = .ok (.aload_n 0, 1) := by decide +kernel
theorem dX6_toss_1 : decode cX6_toss 1 = .ok (.iload_n 1, 1) := by decide +kernel
theorem dX6_toss_2 : decode cX6_toss 2 = .ok (.invokevirtual 157, 3) := by decide +kernel
theorem dX6_toss_5 : decode cX6_toss 5 = .ok (.istore_n 2, 1) := by decide +kernel
theorem dX6_toss_6 : decode cX6_toss 6 = .ok (.iload_n 2, 1) := by decide +kernel
theorem dX6_toss_7 : decode cX6_toss 7 = .ok (.ifCond .eq 5, 3) := by decide +kernel
theorem dX6_toss_12 : decode cX6_toss 12 = .ok (.aload_n 0, 1) := by decide +kernel
theorem dX6_toss_13 : decode cX6_toss 13 = .ok (.getfield 25, 3) := by decide +kernel
theorem dX6_toss_16 : decode cX6_toss 16 = .ok (.iload_n 1, 1) := by decide +kernel
theorem dX6_toss_17 : decode cX6_toss 17 = .ok (.aaload, 1) := by decide +kernel
theorem dX6_toss_18 : decode cX6_toss 18 = .ok (.getfield 160, 3) := by decide +kernel
theorem mX6_tossed : zMdH yX6_tossed cX6_tossed 2 (some .int) [(0, 6, 7, 273), (0, 6, 16, 314), (0, 6, 26, 283)] 1 := ⟨by decide +kernel, gt_of 627 (by decide +kernel) rfl, gt_of 45 (by decide +kernel) rfl, by decide⟩
theorem sX6_tossed : Cond.static yX6_tossed ∈ gtbl := gt_of 626 (by decide +kernel) rfl
theorem dX6_toss_21 : decode cX6_toss 21 = .ok (.invokestatic 304, 3) := by decide +kernel
theorem dX6_toss_24 : decode cX6_toss 24 = .ok (.ireturn, 1) := by decide +kernel
theorem dX6_toss_10 : decode cX6_toss 10 = .ok (.iload_n 2, 1) := by decide +kernel
theorem dX6_toss_11 : decode cX6_toss 11 = .ok (.ireturn, 1) := by decide +kernel
set_option maxRecDepth 100000 in
set_option maxHeartbeats 4000000 in
theorem c_X6_toss (l : Launch) (hl9 : l.stackTraces = false) (D : va_G) (cy : Nat → Nat) (n : Nat) (ad : Nat → Nat) (F : Nat → va_E) (sz : Nat) (sa : Nat → Nat) (pic : Int32) (sc ps : Scn) (sh : Nat → Shf) (rd : Rdr) (dr : Stg) (fa : Tal) (mi : Crs) (hn : 56 ≤ n) (hX : RX ad cy F pic sc ps sh rd dr fa mi) (d : Int32) : Met l yX6_toss (zw yX6_toss cX6_toss 3 (some .int)) (rmC 8 1 6) (zPcX D cy n ad F sz sa [.ref (ad 0), .int d]) (va_Qi (fun r F1 => r = zr True (sStR sh d) (sToss (sh (iN d)).2.1) ∧ F = F1) (zB D n ad) (zA n ad sz)) 1 6 (zA n ad sz) := by
  refine zmetM (by decide +kernel) (Nat.le_of_ble_eq_true rfl) (fun p e s m args below meth c ls hC hsz hZ hA hr hlocks hXs hl => ?_)
  have hC : zC p m c cX6_toss 3 s args RX6 D cy := hC
  have hx := hC.1.1
  have hb := hC.1.2.1
  have hl : lv_has ls 3 [(0, .ref (ad 0)), (1, .int d)] := hl
  refine lv_aload_n hx hb dX6_toss_0 rfl (lv_at hl 0 rfl) ?_
  refine lv_iload_n hx hb dX6_toss_1 rfl (lv_at hl 1 rfl) ?_
  refine zgoi hZ hA (zrunV (As := [.int d]) (rest := []) (k := 0) hC hZ (c_X6_storyRefusal l D cy n ad F s.heap.size pic sc ps sh rd dr fa mi hn hX d) mX6_storyRefusal vX6_storyRefusal kX6_157 (zRjC_of rfl) (zlt hn rfl) hX.1 rfl rfl hl.1 rfl (Nat.le_of_ble_eq_true rfl) dX6_toss_2 ⟨(Nat.le_of_ble_eq_true rfl), (Nat.le_of_ble_eq_true rfl)⟩) (fun r_2 F_1 hp_3 H locs hZ => ?_)
  obtain ⟨rfl, rfl⟩ := hp_3
  refine lv_istore_n (lv' := [(2, .int (sStR sh d)), (0, .ref (ad 0)), (1, .int d)]) hx hb dX6_toss_5 rfl hl (by decide) rfl (fun ls hl => ?_)
  refine lv_iload_n hx hb dX6_toss_6 rfl (lv_at hl 0 rfl) ?_
  refine lv_if_eq (tgt := 12) hx hb dX6_toss_7 (by decide) (fun c_7 => ?_) (fun c_7 => ?_)
  · refine lv_aload_n hx hb dX6_toss_12 rfl (lv_at hl 1 rfl) ?_
    refine zget hC hZ fX6_25 (zlt hn rfl) hX.1 rfl dX6_toss_13 ?_
    refine lv_iload_n hx hb dX6_toss_16 rfl (lv_at hl 2 rfl) ?_
    have hs_4 := sStR_0 c_7
    refine zaald hC hZ (zlt hn rfl) hX.2.2.2.1 (C := RX4) rfl hs_4.1.1 hs_4.1.2 (by decide) rfl dX6_toss_17 ?_
    refine zget hC hZ fX6_160 (by have := hs_4.1.2; omega) (hX.2.2.2.2.1 (iN d) hs_4.1.2).1 rfl dX6_toss_18 ?_
    refine zgoiX hZ hA (zrunSX (As := [.ref (ad (26 + 3 * (iN d) + 1))]) (rest := []) hC hZ hA hXs (c_X6_tossed l hl9 D cy n ad F H.size sa (26 + 3 * (iN d) + 1) ((sh (iN d)).2.1) (by have := hs_4.1.2; omega) (hX.2.2.2.2.1 (iN d) hs_4.1.2).2.1) mX6_tossed sX6_tossed (gt_of 625 (by decide +kernel) rfl) (zRjC_of rfl) rfl hl.1 rfl (Nat.le_of_ble_eq_true rfl) dX6_toss_21 ⟨(Nat.le_of_ble_eq_true rfl), (Nat.le_of_ble_eq_true rfl)⟩) (fun r9 F9 hp H locs hZ => ?_)
    obtain ⟨rfl, rfl⟩ := hp
    have hv_6 : (sToss ((sh (iN d)).2.1)) = sToss (sh (iN d)).2.1 := by rfl
    have hq_5 : (sToss ((sh (iN d)).2.1)) = zr (True) (sStR sh d) (sToss (sh (iN d)).2.1) := hv_6.trans (zr_ok trivial c_7).symm
    exact zireti hC hZ hr hlocks ⟨hq_5, rfl⟩ dX6_toss_24
  · refine lv_iload_n hx hb dX6_toss_10 rfl (lv_at hl 0 rfl) ?_
    have hq_7 : (sStR sh d) = zr (True) (sStR sh d) (sToss (sh (iN d)).2.1) := (zr_rf trivial c_7).symm
    refine W.widen (k := 1) (n := 6) (Nat.le_of_ble_eq_true rfl) (Nat.le_of_ble_eq_true rfl) ?_
    exact zireti hC hZ hr hlocks ⟨hq_7, rfl⟩ dX6_toss_11

theorem sRowR_n1 {sh : Nat → Shf} {d : Int32} (h : bSh d) : ¬ sRowR sh d = -1 := by
  unfold sRowR
  rw [if_pos h]
  intro e
  split at e
  · exact absurd e (by decide)
  · split at e
    · exact absurd e (by decide)
    · exact absurd e (by decide)
theorem dX6_element_0 : decode cX6_element 0 = .ok (.iload_n 1, 1) := by decide +kernel
theorem dX6_element_1 : decode cX6_element 1 = .ok (.invokestatic 65, 3) := by decide +kernel
theorem dX6_element_4 : decode cX6_element 4 = .ok (.ifCond .ne 14, 3) := by decide +kernel
theorem dX6_element_18 : decode cX6_element 18 = .ok (.aload_n 0, 1) := by decide +kernel
theorem dX6_element_19 : decode cX6_element 19 = .ok (.getfield 25, 3) := by decide +kernel
theorem dX6_element_22 : decode cX6_element 22 = .ok (.iload_n 1, 1) := by decide +kernel
theorem dX6_element_23 : decode cX6_element 23 = .ok (.aaload, 1) := by decide +kernel
theorem dX6_element_24 : decode cX6_element 24 = .ok (.invokevirtual 280, 3) := by decide +kernel
theorem kX6_280 : zLk RX6 280 yX4_holdsRow := Or.inl (gt_of 746 (by decide +kernel) rfl)
theorem vX4_holdsRow : zMi yX4_holdsRow := ⟨gt_of 747 (by decide +kernel) rfl, gt_of 748 (by decide +kernel) rfl⟩
theorem dX6_element_27 : decode cX6_element 27 = .ok (.ifCond .eq 16, 3) := by decide +kernel
theorem dX6_element_30 : decode cX6_element 30 = .ok (.aload_n 0, 1) := by decide +kernel
theorem dX6_element_31 : decode cX6_element 31 = .ok (.getfield 25, 3) := by decide +kernel
theorem dX6_element_34 : decode cX6_element 34 = .ok (.iload_n 1, 1) := by decide +kernel
theorem dX6_element_35 : decode cX6_element 35 = .ok (.aaload, 1) := by decide +kernel
theorem dX6_element_36 : decode cX6_element 36 = .ok (.iload_n 2, 1) := by decide +kernel
theorem dX6_element_37 : decode cX6_element 37 = .ok (.invokevirtual 267, 3) := by decide +kernel
theorem dX6_element_40 : decode cX6_element 40 = .ok (.ifCond .ne 14, 3) := by decide +kernel
theorem dX6_element_54 : decode cX6_element 54 = .ok (.aload_n 0, 1) := by decide +kernel
theorem dX6_element_55 : decode cX6_element 55 = .ok (.getfield 25, 3) := by decide +kernel
theorem dX6_element_58 : decode cX6_element 58 = .ok (.iload_n 1, 1) := by decide +kernel
theorem dX6_element_59 : decode cX6_element 59 = .ok (.aaload, 1) := by decide +kernel
theorem dX6_element_60 : decode cX6_element 60 = .ok (.iload_n 2, 1) := by decide +kernel
theorem dX6_element_61 : decode cX6_element 61 = .ok (.invokevirtual 231, 3) := by decide +kernel
theorem dX6_element_64 : decode cX6_element 64 = .ok (.i2l, 1) := by decide +kernel
theorem dX6_element_65 : decode cX6_element 65 = .ok (.lreturn, 1) := by decide +kernel
set_option maxRecDepth 20000 in
theorem tX6_283 : zThr RX6 283 287 sISE := ⟨by decide +kernel, gt_of 630 (by decide +kernel) rfl, gt_of 58 (by decide +kernel) rfl, by decide +kernel, by decide +kernel, by decide +kernel⟩
theorem dX6_element_43 : decode cX6_element 43 = .ok (.new 283, 3) := by decide +kernel
theorem dX6_element_46 : decode cX6_element 46 = .ok (.dup, 1) := by decide +kernel
theorem dX6_element_47 : decode cX6_element 47 = .ok (.ldc_w 285, 3) := by decide +kernel
theorem dX6_element_50 : decode cX6_element 50 = .ok (.invokespecial 287, 3) := by decide +kernel
theorem dX6_element_53 : decode cX6_element 53 = .ok (.athrow, 1) := by decide +kernel
set_option maxRecDepth 20000 in
theorem tX6_273 : zThr RX6 273 277 sIAE := ⟨by decide +kernel, gt_of 628 (by decide +kernel) rfl, gt_of 57 (by decide +kernel) rfl, by decide +kernel, by decide +kernel, by decide +kernel⟩
theorem dX6_element_7 : decode cX6_element 7 = .ok (.new 273, 3) := by decide +kernel
theorem dX6_element_10 : decode cX6_element 10 = .ok (.dup, 1) := by decide +kernel
theorem dX6_element_11 : decode cX6_element 11 = .ok (.ldc_w 275, 3) := by decide +kernel
theorem dX6_element_14 : decode cX6_element 14 = .ok (.invokespecial 277, 3) := by decide +kernel
theorem dX6_element_17 : decode cX6_element 17 = .ok (.athrow, 1) := by decide +kernel
set_option maxRecDepth 100000 in
set_option maxHeartbeats 4000000 in
theorem c_X6_element (l : Launch) (hl9 : l.stackTraces = false) (D : va_G) (cy : Nat → Nat) (n : Nat) (ad : Nat → Nat) (F : Nat → va_E) (sz : Nat) (sa : Nat → Nat) (pic : Int32) (sc ps : Scn) (sh : Nat → Shf) (rd : Rdr) (dr : Stg) (fa : Tal) (mi : Crs) (hn : 56 ≤ n) (hX : RX ad cy F pic sc ps sh rd dr fa mi) (d i : Int32) : vx_Met l yX6_element (zw yX6_element cX6_element 3 (some .long)) (rmC 6 1 6) (zPcX D cy n ad F sz sa [.ref (ad 0), .int d, .int i]) (va_Ql (fun r F1 => sElT sh d i = 0 ∧ r = sElV sh d i ∧ F = F1) (zB D n ad) (zA n ad sz)) (vx_X (fun _ : Unit => ¬ sElT sh d i = 0) (fun E _ t9 => E = sElE sh d i ∧ zB D n ad F t9) (zA n ad sz)) 1 6 (zA n ad sz) := by
  refine zmetX (by decide +kernel) (Nat.le_of_ble_eq_true rfl) (fun p e s m args below meth c ls hC hsz hZ hA hr hlocks htab hXs hl => ?_)
  have hC : zC p m c cX6_element 3 s args RX6 D cy := hC
  have hx := hC.1.1
  have hb := hC.1.2.1
  have hl : lv_has ls 3 [(0, .ref (ad 0)), (1, .int d), (2, .int i)] := hl
  refine lv_iload_n hx hb dX6_element_0 rfl (lv_at hl 1 rfl) ?_
  refine zgoi hZ hA (zrunS (As := [.int d]) (rest := []) hC hZ (c_X6_isShelf l D cy n ad F s.heap.size d) mX6_isShelf sX6_isShelf kX6_65 (zRjC_of rfl) rfl hl.1 rfl (Nat.le_of_ble_eq_true rfl) dX6_element_1 ⟨(Nat.le_of_ble_eq_true rfl), (Nat.le_of_ble_eq_true rfl)⟩) (fun r_2 F_1 hp_3 H locs hZ => ?_)
  obtain ⟨hp_3, rfl⟩ := hp_3
  by_cases b_4 : bSh d
  · rw [if_pos b_4] at hp_3
    subst hp_3
    refine lv_if_ne (tgt := 18) hx hb dX6_element_4 (by decide) (fun _ => ?_) (fun h => absurd (show (1 : Int32) = 0 from h) (by decide))
    refine lv_aload_n hx hb dX6_element_18 rfl (lv_at hl 0 rfl) ?_
    refine zget hC hZ fX6_25 (zlt hn rfl) hX.1 rfl dX6_element_19 ?_
    refine lv_iload_n hx hb dX6_element_22 rfl (lv_at hl 1 rfl) ?_
    have hs_5 := bSh_i b_4
    refine zaald hC hZ (zlt hn rfl) hX.2.2.2.1 (C := RX4) rfl hs_5.1 hs_5.2 (by decide) rfl dX6_element_23 ?_
    refine zgoi hZ hA (zrunV (As := []) (rest := []) (k := 26 + 3 * (iN d)) hC hZ (c_X4_holdsRow l D cy n ad F H.size (26 + 3 * (iN d)) (sh (iN d)) (by have := hs_5.2; omega) (hX.2.2.2.2.1 (iN d) hs_5.2)) mX4_holdsRow vX4_holdsRow kX6_280 (zRjC_of rfl) (by have := hs_5.2; omega) (hX.2.2.2.2.1 (iN d) hs_5.2).1 rfl rfl hl.1 rfl (Nat.le_of_ble_eq_true rfl) dX6_element_24 ⟨(Nat.le_of_ble_eq_true rfl), (Nat.le_of_ble_eq_true rfl)⟩) (fun r_7 F_6 hp_8 H locs hZ => ?_)
    obtain ⟨hp_8, rfl⟩ := hp_8
    by_cases b_9 : (sh (iN d)).1 = 2
    · rw [if_pos b_9] at hp_8
      subst hp_8
      refine lv_if_eq (tgt := 43) hx hb dX6_element_27 (by decide) (fun h => absurd (show (1 : Int32) = 0 from h) (by decide)) (fun _ => ?_)
      refine lv_aload_n hx hb dX6_element_30 rfl (lv_at hl 0 rfl) ?_
      refine zget hC hZ fX6_25 (zlt hn rfl) hX.1 rfl dX6_element_31 ?_
      refine lv_iload_n hx hb dX6_element_34 rfl (lv_at hl 1 rfl) ?_
      refine zaald hC hZ (zlt hn rfl) hX.2.2.2.1 (C := RX4) rfl hs_5.1 hs_5.2 (by decide) rfl dX6_element_35 ?_
      refine lv_iload_n hx hb dX6_element_36 rfl (lv_at hl 2 rfl) ?_
      refine zgoi hZ hA (zrunV (As := [.int i]) (rest := []) (k := 26 + 3 * (iN d)) hC hZ (c_X4_hasPlace l D cy n ad F H.size (26 + 3 * (iN d)) (sh (iN d)) (by have := hs_5.2; omega) (hX.2.2.2.2.1 (iN d) hs_5.2) i) mX4_hasPlace vX4_hasPlace kX6_267 (zRjC_of rfl) (by have := hs_5.2; omega) (hX.2.2.2.2.1 (iN d) hs_5.2).1 rfl rfl hl.1 rfl (Nat.le_of_ble_eq_true rfl) dX6_element_37 ⟨(Nat.le_of_ble_eq_true rfl), (Nat.le_of_ble_eq_true rfl)⟩) (fun r_11 F_10 hp_12 H locs hZ => ?_)
      obtain ⟨hp_12, rfl⟩ := hp_12
      by_cases b_13 : bPlace (sh (iN d)).2.2.2.1 i
      · rw [if_pos b_13] at hp_12
        subst hp_12
        refine lv_if_ne (tgt := 54) hx hb dX6_element_40 (by decide) (fun _ => ?_) (fun h => absurd (show (1 : Int32) = 0 from h) (by decide))
        refine lv_aload_n hx hb dX6_element_54 rfl (lv_at hl 0 rfl) ?_
        refine zget hC hZ fX6_25 (zlt hn rfl) hX.1 rfl dX6_element_55 ?_
        refine lv_iload_n hx hb dX6_element_58 rfl (lv_at hl 1 rfl) ?_
        refine zaald hC hZ (zlt hn rfl) hX.2.2.2.1 (C := RX4) rfl hs_5.1 hs_5.2 (by decide) rfl dX6_element_59 ?_
        refine lv_iload_n hx hb dX6_element_60 rfl (lv_at hl 2 rfl) ?_
        refine zgoi hZ hA (zrunV (As := [.int i]) (rest := []) (k := 26 + 3 * (iN d)) hC hZ (c_X4_at l D cy n ad F H.size (26 + 3 * (iN d)) (sh (iN d)) (by have := hs_5.2; omega) (hX.2.2.2.2.1 (iN d) hs_5.2) i) mX4_at vX4_at kX6_231 (zRjC_of rfl) (by have := hs_5.2; omega) (hX.2.2.2.2.1 (iN d) hs_5.2).1 rfl rfl hl.1 rfl (Nat.le_of_ble_eq_true rfl) dX6_element_61 ⟨(Nat.le_of_ble_eq_true rfl), (Nat.le_of_ble_eq_true rfl)⟩) (fun r_15 F_14 hp_16 H locs hZ => ?_)
        obtain ⟨rfl, rfl⟩ := hp_16
        refine lv_i2l (v := (sAt (sh (iN d)).2.2.2.1 (sh (iN d)).2.2.2.2 i).toInt64) hx hb dX6_element_64 (by rfl) ?_
        have hne1 : ¬ sRowR sh d = -1 := sRowR_n1 b_4
        have hrz : sRowR sh d = 0 := by unfold sRowR; rw [if_pos b_4, if_neg (by rw [b_9]; decide), if_pos b_9]
        have hT : sElT sh d i = 0 := (if_neg hne1).trans (if_pos ⟨hrz, b_13⟩)
        have hq : (sAt (sh (iN d)).2.2.2.1 (sh (iN d)).2.2.2.2 i).toInt64 = sElV sh d i := by unfold sElV; rw [if_pos hT]; unfold sAt; rw [if_pos b_13]
        refine W.widen (k := 1) (n := 6) (Nat.le_of_ble_eq_true rfl) (Nat.le_of_ble_eq_true rfl) ?_
        exact vx_ret (zlret hC hZ hr hlocks ⟨hT, hq, rfl⟩ dX6_element_65)
      · rw [if_neg b_13] at hp_12
        subst hp_12
        refine lv_if_ne (tgt := 54) hx hb dX6_element_40 (by decide) (fun h => absurd (show (0 : Int32) = 0 by decide) h) (fun _ => ?_)
        have hne1 : ¬ sRowR sh d = -1 := sRowR_n1 b_4
        have hrz : sRowR sh d = 0 := by unfold sRowR; rw [if_pos b_4, if_neg (by rw [b_9]; decide), if_pos b_9]
        have hT : sElT sh d i = 2 := (if_neg hne1).trans (if_neg (fun h => b_13 h.2))
        have hnm : sISE = sElE sh d i := (if_neg (by rw [hT]; decide)).symm
        exact zthrowW hC hZ hl9 hXs tX6_283 hXs.2.2.1.2.2.2.2 hl.1 dX6_element_43 dX6_element_46 dX6_element_47 dX6_element_50 dX6_element_53 htab (Nat.le_of_ble_eq_true rfl) (Nat.le_of_ble_eq_true rfl) (Nat.le_of_ble_eq_true rfl) (Nat.le_of_ble_eq_true rfl) hlocks hnm (by rw [hT]; decide) (Nat.le_of_ble_eq_true rfl) (Nat.le_of_ble_eq_true rfl)
    · rw [if_neg b_9] at hp_8
      subst hp_8
      refine lv_if_eq (tgt := 43) hx hb dX6_element_27 (by decide) (fun _ => ?_) (fun h => absurd (show (0 : Int32) = 0 by decide) h)
      have hne1 : ¬ sRowR sh d = -1 := sRowR_n1 b_4
      have hne0 : ¬ sRowR sh d = 0 := fun h => b_9 (sRowR_0 h).2
      have hT : sElT sh d i = 2 := (if_neg hne1).trans (if_neg (fun h => hne0 h.1))
      have hnm : sISE = sElE sh d i := (if_neg (by rw [hT]; decide)).symm
      exact zthrowW hC hZ hl9 hXs tX6_283 hXs.2.2.1.2.2.2.2 hl.1 dX6_element_43 dX6_element_46 dX6_element_47 dX6_element_50 dX6_element_53 htab (Nat.le_of_ble_eq_true rfl) (Nat.le_of_ble_eq_true rfl) (Nat.le_of_ble_eq_true rfl) (Nat.le_of_ble_eq_true rfl) hlocks hnm (by rw [hT]; decide) (Nat.le_of_ble_eq_true rfl) (Nat.le_of_ble_eq_true rfl)
  · rw [if_neg b_4] at hp_3
    subst hp_3
    refine lv_if_ne (tgt := 18) hx hb dX6_element_4 (by decide) (fun h => absurd (show (0 : Int32) = 0 by decide) h) (fun _ => ?_)
    have hT : sElT sh d i = 1 := if_pos (if_neg b_4)
    have hnm : sIAE = sElE sh d i := (if_pos hT).symm
    exact zthrowW hC hZ hl9 hXs tX6_273 hXs.2.2.1.2.2.2.1 hl.1 dX6_element_7 dX6_element_10 dX6_element_11 dX6_element_14 dX6_element_17 htab (Nat.le_of_ble_eq_true rfl) (Nat.le_of_ble_eq_true rfl) (Nat.le_of_ble_eq_true rfl) (Nat.le_of_ble_eq_true rfl) hlocks hnm (by rw [hT]; decide) (Nat.le_of_ble_eq_true rfl) (Nat.le_of_ble_eq_true rfl)

theorem sElT_3 (sh : Nat → Shf) (d i : Int32) : sElT sh d i = 0 ∨ sElT sh d i = 1 ∨ sElT sh d i = 2 := by
  unfold sElT
  split
  · exact Or.inr (Or.inl rfl)
  · split
    · exact Or.inl rfl
    · exact Or.inr (Or.inr rfl)
theorem dL_element_0 : decode cL_element 0 = .ok (.aload_n 3, 1) := by decide +kernel
theorem dL_element_1 : decode cL_element 1 = .ok (.iconst 0, 1) := by decide +kernel
theorem dL_element_2 : decode cL_element 2 = .ok (.aload_n 0, 1) := by decide +kernel
theorem dL_element_3 : decode cL_element 3 = .ok (.iload_n 1, 1) := by decide +kernel
theorem dL_element_4 : decode cL_element 4 = .ok (.iload_n 2, 1) := by decide +kernel
theorem mX6_element : zMd yX6_element cX6_element 3 (some .long) 2 := ⟨by decide +kernel, gt_of 743 (by decide +kernel) rfl, gt_of 45 (by decide +kernel) rfl, by decide⟩
theorem vX6_element : zMi yX6_element := ⟨gt_of 741 (by decide +kernel) rfl, gt_of 742 (by decide +kernel) rfl⟩
theorem dL_element_5 : decode cL_element 5 = .ok (.invokevirtual 7, 3) := by decide +kernel
theorem dL_element_12 : decode cL_element 12 = .ok (.astore 4, 2) := by decide +kernel
theorem dL_element_14 : decode cL_element 14 = .ok (.iconst 1, 1) := by decide +kernel
theorem dL_element_15 : decode cL_element 15 = .ok (.ireturn, 1) := by decide +kernel
theorem dL_element_16 : decode cL_element 16 = .ok (.astore 4, 2) := by decide +kernel
theorem dL_element_18 : decode cL_element 18 = .ok (.iconst 2, 1) := by decide +kernel
theorem dL_element_19 : decode cL_element 19 = .ok (.ireturn, 1) := by decide +kernel
theorem dL_element_8 : decode cL_element 8 = .ok (.lastore, 1) := by decide +kernel
theorem dL_element_9 : decode cL_element 9 = .ok (.goto 11, 3) := by decide +kernel
theorem dL_element_20 : decode cL_element 20 = .ok (.iconst 0, 1) := by decide +kernel
theorem dL_element_21 : decode cL_element 21 = .ok (.ireturn, 1) := by decide +kernel
set_option maxRecDepth 100000 in
set_option maxHeartbeats 4000000 in
theorem c_L_element (l : Launch) (hl9 : l.stackTraces = false) (D : va_G) (cy : Nat → Nat) (n : Nat) (ad : Nat → Nat) (F : Nat → va_E) (sz : Nat) (sa : Nat → Nat) (pic : Int32) (sc ps : Scn) (sh : Nat → Shf) (rd : Rdr) (dr : Stg) (fa : Tal) (mi : Crs) (hn : 69 ≤ n) (hX : RX ad cy F pic sc ps sh rd dr fa mi) (f : Nat → Int64) (h68 : F 68 = oLongs cy 1 f) (d i : Int32) : vx_Met l yL_element (zwH yL_element cL_element 5 (some .int) [(0, 9, 12, 13), (0, 9, 16, 15)]) (rmC 7 1 6) (zPcX D cy n ad F sz sa [.ref (ad 0), .int d, .int i, .ref (ad 68)]) (va_Qi (fun r F1 => r = sElT sh d i ∧ F1 = va_up F 68 (oLongs cy 1 (if sElT sh d i = 0 then vp_updL f 0 (sElV sh d i) else f))) (zB D n ad) (zA n ad sz)) (vx_X (fun _ : Unit => False) (fun _ _ _ => False) (zA n ad sz)) 1 6 (zA n ad sz) := by
  refine zmetH (by decide +kernel) (Nat.le_of_ble_eq_true rfl) (fun p e s m args below meth c ls hC hsz hZ hA hr hlocks htab hXs hl => ?_)
  have hC : zC p m c cL_element 5 s args RL D cy := hC
  have hx := hC.1.1
  have hb := hC.1.2.1
  have hl : lv_has ls 5 [(0, .ref (ad 0)), (1, .int d), (2, .int i), (3, .ref (ad 68))] := hl
  refine lv_aload_n hx hb dL_element_0 rfl (lv_at hl 3 rfl) ?_
  refine lv_iconst (v := 0) hx hb dL_element_1 (by decide) ?_
  refine lv_aload_n hx hb dL_element_2 rfl (lv_at hl 0 rfl) ?_
  refine lv_iload_n hx hb dL_element_3 rfl (lv_at hl 1 rfl) ?_
  refine lv_iload_n hx hb dL_element_4 rfl (lv_at hl 2 rfl) ?_
  refine zgolX hZ hA (zrunXV (As := [.int d, .int i]) (rest := [.int 0, .ref (ad 68)]) (k := 0) hC hZ hA hXs (c_X6_element l hl9 D cy n ad F s.heap.size sa pic sc ps sh rd dr fa mi (Nat.le_trans (Nat.le_of_ble_eq_true rfl) hn) hX d i) mX6_element vX6_element (gt_of 740 (by decide +kernel) rfl) (zRjC_of rfl) (zlt hn rfl) hX.1 rfl rfl hl.1 rfl (Nat.le_of_ble_eq_true rfl) dL_element_5 ⟨(Nat.le_of_ble_eq_true rfl), (Nat.le_of_ble_eq_true rfl)⟩) (fun hpx ce q9 H locs hZ hcell hv9 hcl => ?_) (fun r9 F1 hp H locs hZ => ?_)
  · by_cases e1 : sElT sh d i = 1
    · have hnm : sElE sh d i = sIAE := if_pos e1
      rw [hnm] at hcl
      refine zcatch hC hXs.1 (name := sIAE) (E := sIAE) [] ⟨0, 9, 12, 13⟩ [⟨0, 9, 16, 15⟩] (by rw [htab]; rfl) (fun z hz => absurd hz List.not_mem_nil) rfl (by decide) (gt_of 738 (by decide +kernel) rfl) (List.mem_of_getElem? (i := 637) (by decide +kernel)) hcell hv9 hcl ?_
      refine lv_astore (lv' := [(4, .ref q9), (0, .ref (ad 0)), (1, .int d), (2, .int i), (3, .ref (ad 68))]) hx hb dL_element_12 hl (by decide) rfl (fun ls hl => ?_)
      refine lv_iconst (v := 1) hx hb dL_element_14 (by decide) ?_
      have hq : (1 : Int32) = sElT sh d i := e1.symm
      have hq2 : F = va_up F 68 (oLongs cy 1 (if sElT sh d i = 0 then vp_updL f 0 (sElV sh d i) else f)) := zself (by rw [if_neg hpx]; exact h68)
      exact vx_ret (zireti hC hZ hr hlocks ⟨hq, hq2⟩ dL_element_15)
    · have hnm : sElE sh d i = sISE := if_neg e1
      rw [hnm] at hcl
      refine zcatch hC hXs.1 (name := sISE) (E := sISE) [⟨0, 9, 12, 13⟩] ⟨0, 9, 16, 15⟩ [] (by rw [htab]; rfl) (fun z hz => by rcases List.mem_singleton.mp hz with rfl; exact ⟨sIAE, by decide, gt_of 738 (by decide +kernel) rfl, hXs.2.1.2.1⟩) rfl (by decide) (gt_of 739 (by decide +kernel) rfl) (List.mem_of_getElem? (i := 721) (by decide +kernel)) hcell hv9 hcl ?_
      refine lv_astore (lv' := [(4, .ref q9), (0, .ref (ad 0)), (1, .int d), (2, .int i), (3, .ref (ad 68))]) hx hb dL_element_16 hl (by decide) rfl (fun ls hl => ?_)
      refine lv_iconst (v := 2) hx hb dL_element_18 (by decide) ?_
      have hq : (2 : Int32) = sElT sh d i := by rcases sElT_3 sh d i with h | h | h; exact absurd h hpx; exact absurd h e1; exact h.symm
      have hq2 : F = va_up F 68 (oLongs cy 1 (if sElT sh d i = 0 then vp_updL f 0 (sElV sh d i) else f)) := zself (by rw [if_neg hpx]; exact h68)
      exact vx_ret (zireti hC hZ hr hlocks ⟨hq, hq2⟩ dL_element_19)
  · obtain ⟨hT, rfl, rfl⟩ := hp
    refine zlast hC hZ (zlt hn rfl) h68 (show (0 : Int32) = nI 0 from rfl) (by decide) (by decide) dL_element_8 (fun F_1 hF_2 H locs hZ => ?_)
    have h_3 := zeq hF_2
    refine lv_goto (tgt := 20) hx hb dL_element_9 (by decide) ?_
    refine lv_iconst (v := 0) hx hb dL_element_20 (by decide) ?_
    have hq : (0 : Int32) = sElT sh d i := hT.symm
    have hq2 : F_1 = va_up F 68 (oLongs cy 1 (if sElT sh d i = 0 then vp_updL f 0 (sElV sh d i) else f)) := by rw [if_pos hT]; exact hF_2
    exact vx_ret (zireti hC hZ hr hlocks ⟨hq, hq2⟩ dL_element_21)
