theorem mX6_refusalOf : zMd yX6_refusalOf cX6_refusalOf 3 (some .int) 2 := ⟨by decide +kernel, gt_of 281 (by decide +kernel) rfl, gt_of 45 (by decide +kernel) rfl, by decide⟩
theorem dX6_refusalOf_0 : decode cX6_refusalOf 0 = .ok (.iload_n 1, 1) := by decide +kernel
theorem dX6_refusalOf_1 : decode cX6_refusalOf 1 = .ok (.invokestatic 65, 3) := by decide +kernel
theorem kX6_65 : zLk RX6 65 yX6_isShelf := Or.inl (gt_of 282 (by decide +kernel) rfl)
theorem sX6_isShelf : Cond.static yX6_isShelf ∈ gtbl := gt_of 283 (by decide +kernel) rfl
theorem dX6_refusalOf_4 : decode cX6_refusalOf 4 = .ok (.ifCond .ne 5, 3) := by decide +kernel
theorem dX6_refusalOf_9 : decode cX6_refusalOf 9 = .ok (.aload_n 0, 1) := by decide +kernel
theorem dX6_refusalOf_10 : decode cX6_refusalOf 10 = .ok (.getfield 25, 3) := by decide +kernel
theorem fX6_25 : zFld RX6 25 6 3 := ⟨RX6, TX6, 9, rfl, inX6, by decide, rfl, Or.inl (gt_of 231 (by decide +kernel) rfl)⟩
theorem dX6_refusalOf_13 : decode cX6_refusalOf 13 = .ok (.iload_n 1, 1) := by decide +kernel
theorem dX6_refusalOf_14 : decode cX6_refusalOf 14 = .ok (.aaload, 1) := by decide +kernel
theorem dX6_refusalOf_15 : decode cX6_refusalOf 15 = .ok (.getfield 69, 3) := by decide +kernel
theorem fX6_69 : zFld RX6 69 4 0 := ⟨RX4, TX4, 5, rfl, inX4, by decide, rfl, Or.inr ⟨"ChainLeap", List.mem_of_getElem? (i := 179) (by decide +kernel)⟩⟩
theorem dX6_refusalOf_18 : decode cX6_refusalOf 18 = .ok (.ifCond .ne 6, 3) := by decide +kernel
theorem dX6_refusalOf_24 : decode cX6_refusalOf 24 = .ok (.aload_n 0, 1) := by decide +kernel
theorem dX6_refusalOf_25 : decode cX6_refusalOf 25 = .ok (.getfield 25, 3) := by decide +kernel
theorem dX6_refusalOf_28 : decode cX6_refusalOf 28 = .ok (.iload_n 1, 1) := by decide +kernel
theorem dX6_refusalOf_29 : decode cX6_refusalOf 29 = .ok (.aaload, 1) := by decide +kernel
theorem dX6_refusalOf_30 : decode cX6_refusalOf 30 = .ok (.getfield 69, 3) := by decide +kernel
theorem dX6_refusalOf_33 : decode cX6_refusalOf 33 = .ok (.iload_n 2, 1) := by decide +kernel
theorem dX6_refusalOf_34 : decode cX6_refusalOf 34 = .ok (.if_icmp .ne 7, 3) := by decide +kernel
theorem dX6_refusalOf_41 : decode cX6_refusalOf 41 = .ok (.bipush (-12), 2) := by decide +kernel
theorem dX6_refusalOf_43 : decode cX6_refusalOf 43 = .ok (.ireturn, 1) := by decide +kernel
theorem dX6_refusalOf_37 : decode cX6_refusalOf 37 = .ok (.iconst 0, 1) := by decide +kernel
theorem dX6_refusalOf_38 : decode cX6_refusalOf 38 = .ok (.goto 5, 3) := by decide +kernel
theorem dX6_refusalOf_21 : decode cX6_refusalOf 21 = .ok (.bipush (-11), 2) := by decide +kernel
theorem dX6_refusalOf_23 : decode cX6_refusalOf 23 = .ok (.ireturn, 1) := by decide +kernel
theorem dX6_refusalOf_7 : decode cX6_refusalOf 7 = .ok (.iconst (-1), 1) := by decide +kernel
theorem dX6_refusalOf_8 : decode cX6_refusalOf 8 = .ok (.ireturn, 1) := by decide +kernel
set_option maxRecDepth 100000 in
theorem c_X6_refusalOf (l : Launch) (D : va_G) (cy : Nat → Nat) (n : Nat) (ad : Nat → Nat) (F : Nat → va_E) (sz : Nat) (pic : Int32) (sc ps : Scn) (sh : Nat → Shf) (rd : Rdr) (dr : Stg) (fa : Tal) (mi : Crs) (hn : 56 ≤ n) (hX : RX ad cy F pic sc ps sh rd dr fa mi) (d wd : Int32) : Met l yX6_refusalOf (zw yX6_refusalOf cX6_refusalOf 3 (some .int)) (rmL 1) (zPc D cy n ad F sz [.ref (ad 0), .int d, .int wd]) (va_Qi (fun r F1 => r = (if bSh d then (if (sh (iN d)).1 = 0 then -11 else if (sh (iN d)).1 = wd then 0 else -12) else -1) ∧ F = F1) (zB D n ad) (zA n ad sz)) 0 0 (zA n ad sz) := by
  refine zmet (by decide +kernel) (Nat.le_of_ble_eq_true rfl) (fun p e s m args below meth c ls hC hsz hZ hA hr hlocks hnm hl => ?_)
  have hC : zC p m c cX6_refusalOf 3 s args RX6 D cy := hC
  have hx := hC.1.1
  have hb := hC.1.2.1
  have hl : lv_has ls 3 [(0, .ref (ad 0)), (1, .int d), (2, .int wd)] := hl
  refine lv_iload_n hx hb dX6_refusalOf_0 rfl (lv_at hl 1 rfl) ?_
  refine zgoi hZ hA (zrunS (As := [.int d]) (rest := []) hC hZ (c_X6_isShelf l D cy n ad F s.heap.size d) mX6_isShelf sX6_isShelf kX6_65 (zRj_of rfl) rfl hl.1 rfl (Nat.le_of_ble_eq_true rfl) dX6_refusalOf_1 ⟨Nat.le_refl _, Nat.le_refl _⟩) (fun r_2 F_1 hp_3 H locs hZ => ?_)
  obtain ⟨hp_3, rfl⟩ := hp_3
  by_cases b_4 : bSh d
  · rw [if_pos b_4] at hp_3
    subst hp_3
    refine lv_if_ne (tgt := 9) hx hb dX6_refusalOf_4 (by decide) (fun _ => ?_) (fun h => absurd (show (1 : Int32) = 0 from h) (by decide))
    refine lv_aload_n hx hb dX6_refusalOf_9 rfl (lv_at hl 0 rfl) ?_
    refine zget hC hZ fX6_25 (zlt hn rfl) hX.1 rfl dX6_refusalOf_10 ?_
    refine lv_iload_n hx hb dX6_refusalOf_13 rfl (lv_at hl 1 rfl) ?_
    have hs_5 := bSh_i b_4
    refine zaald hC hZ (zlt hn rfl) hX.2.2.2.1 (C := RX4) rfl hs_5.1 hs_5.2 (by decide) rfl dX6_refusalOf_14 ?_
    refine zget hC hZ fX6_69 (by have := hs_5.2; omega) (hX.2.2.2.2.1 (iN d) hs_5.2).1 rfl dX6_refusalOf_15 ?_
    refine lv_if_ne (tgt := 24) hx hb dX6_refusalOf_18 (by decide) (fun c_18 => ?_) (fun c_18 => ?_)
    · refine lv_aload_n hx hb dX6_refusalOf_24 rfl (lv_at hl 0 rfl) ?_
      refine zget hC hZ fX6_25 (zlt hn rfl) hX.1 rfl dX6_refusalOf_25 ?_
      refine lv_iload_n hx hb dX6_refusalOf_28 rfl (lv_at hl 1 rfl) ?_
      refine zaald hC hZ (zlt hn rfl) hX.2.2.2.1 (C := RX4) rfl hs_5.1 hs_5.2 (by decide) rfl dX6_refusalOf_29 ?_
      refine zget hC hZ fX6_69 (by have := hs_5.2; omega) (hX.2.2.2.2.1 (iN d) hs_5.2).1 rfl dX6_refusalOf_30 ?_
      refine lv_iload_n hx hb dX6_refusalOf_33 rfl (lv_at hl 2 rfl) ?_
      refine lv_icmp_ne (tgt := 41) hx hb dX6_refusalOf_34 (by decide) (fun c_34 => ?_) (fun c_34 => ?_)
      · refine lv_bipush (v := (-12)) hx hb dX6_refusalOf_41 (by decide) ?_
        have hq_6 : (-12 : Int32) = (if bSh d then (if (sh (iN d)).1 = 0 then -11 else if (sh (iN d)).1 = wd then 0 else -12) else -1) := by rw [if_pos b_4, if_neg c_18, if_neg c_34]
        exact zireti hC hZ hr hlocks ⟨hq_6, rfl⟩ dX6_refusalOf_43
      · refine lv_iconst (v := 0) hx hb dX6_refusalOf_37 (by decide) ?_
        refine lv_goto (tgt := 43) hx hb dX6_refusalOf_38 (by decide) ?_
        have hq_7 : (0 : Int32) = (if bSh d then (if (sh (iN d)).1 = 0 then -11 else if (sh (iN d)).1 = wd then 0 else -12) else -1) := by rw [if_pos b_4, if_neg c_18, if_pos c_34]
        exact zireti hC hZ hr hlocks ⟨hq_7, rfl⟩ dX6_refusalOf_43
    · refine lv_bipush (v := (-11)) hx hb dX6_refusalOf_21 (by decide) ?_
      have hq_8 : (-11 : Int32) = (if bSh d then (if (sh (iN d)).1 = 0 then -11 else if (sh (iN d)).1 = wd then 0 else -12) else -1) := by rw [if_pos b_4, if_pos c_18]
      exact zireti hC hZ hr hlocks ⟨hq_8, rfl⟩ dX6_refusalOf_23
  · rw [if_neg b_4] at hp_3
    subst hp_3
    refine lv_if_ne (tgt := 9) hx hb dX6_refusalOf_4 (by decide) (fun h => absurd (show (0 : Int32) = 0 by decide) h) (fun _ => ?_)
    refine lv_iconst (v := (-1)) hx hb dX6_refusalOf_7 (by decide) ?_
    have hq_9 : (-1 : Int32) = (if bSh d then (if (sh (iN d)).1 = 0 then -11 else if (sh (iN d)).1 = wd then 0 else -12) else -1) := by rw [if_neg b_4]
    exact zireti hC hZ hr hlocks ⟨hq_9, rfl⟩ dX6_refusalOf_8

theorem mX6_storyRefusal : zMd yX6_storyRefusal cX6_storyRefusal 2 (some .int) 1 := ⟨by decide +kernel, gt_of 368 (by decide +kernel) rfl, gt_of 45 (by decide +kernel) rfl, by decide⟩
theorem dX6_storyRefusal_0 : decode cX6_storyRefusal 0 = .ok (.aload_n 0, 1) := by decide +kernel
theorem dX6_storyRefusal_1 : decode cX6_storyRefusal 1 = .ok (.iload_n 1, 1) := by decide +kernel
theorem dX6_storyRefusal_2 : decode cX6_storyRefusal 2 = .ok (.iconst 1, 1) := by decide +kernel
theorem dX6_storyRefusal_3 : decode cX6_storyRefusal 3 = .ok (.invokevirtual 61, 3) := by decide +kernel
theorem kX6_61 : zLk RX6 61 yX6_refusalOf := Or.inl (gt_of 278 (by decide +kernel) rfl)
theorem vX6_refusalOf : zMi yX6_refusalOf := ⟨gt_of 280 (by decide +kernel) rfl, gt_of 2 (by decide +kernel) rfl⟩
theorem dX6_storyRefusal_6 : decode cX6_storyRefusal 6 = .ok (.ireturn, 1) := by decide +kernel
set_option maxRecDepth 100000 in
theorem c_X6_storyRefusal (l : Launch) (D : va_G) (cy : Nat → Nat) (n : Nat) (ad : Nat → Nat) (F : Nat → va_E) (sz : Nat) (pic : Int32) (sc ps : Scn) (sh : Nat → Shf) (rd : Rdr) (dr : Stg) (fa : Tal) (mi : Crs) (hn : 56 ≤ n) (hX : RX ad cy F pic sc ps sh rd dr fa mi) (d : Int32) : Met l yX6_storyRefusal (zw yX6_storyRefusal cX6_storyRefusal 2 (some .int)) (rmL 2) (zPc D cy n ad F sz [.ref (ad 0), .int d]) (va_Qi (fun r F1 => r = sStR sh d ∧ F = F1) (zB D n ad) (zA n ad sz)) 0 0 (zA n ad sz) := by
  refine zmet (by decide +kernel) (Nat.le_of_ble_eq_true rfl) (fun p e s m args below meth c ls hC hsz hZ hA hr hlocks hnm hl => ?_)
  have hC : zC p m c cX6_storyRefusal 2 s args RX6 D cy := hC
  have hx := hC.1.1
  have hb := hC.1.2.1
  have hl : lv_has ls 2 [(0, .ref (ad 0)), (1, .int d)] := hl
  refine lv_aload_n hx hb dX6_storyRefusal_0 rfl (lv_at hl 0 rfl) ?_
  refine lv_iload_n hx hb dX6_storyRefusal_1 rfl (lv_at hl 1 rfl) ?_
  refine lv_iconst (v := 1) hx hb dX6_storyRefusal_2 (by decide) ?_
  refine zgoi hZ hA (zrunV (As := [.int d, .int 1]) (rest := []) (k := 0) hC hZ (c_X6_refusalOf l D cy n ad F s.heap.size pic sc ps sh rd dr fa mi hn hX d 1) mX6_refusalOf vX6_refusalOf kX6_61 (zRj_of rfl) (zlt hn rfl) hX.1 rfl rfl hl.1 rfl (Nat.le_of_ble_eq_true rfl) dX6_storyRefusal_3 ⟨Nat.le_refl _, Nat.le_refl _⟩) (fun r_2 F_1 hp_3 H locs hZ => ?_)
  obtain ⟨rfl, rfl⟩ := hp_3
  have hq_4 : (if bSh d then (if (sh (iN d)).1 = 0 then -11 else if (sh (iN d)).1 = 1 then 0 else -12) else -1) = sStR sh d := rfl
  exact zireti hC hZ hr hlocks ⟨hq_4, rfl⟩ dX6_storyRefusal_6

theorem mX6_rowRefusal : zMd yX6_rowRefusal cX6_rowRefusal 2 (some .int) 1 := ⟨by decide +kernel, gt_of 277 (by decide +kernel) rfl, gt_of 45 (by decide +kernel) rfl, by decide⟩
theorem dX6_rowRefusal_0 : decode cX6_rowRefusal 0 = .ok (.aload_n 0, 1) := by decide +kernel
theorem dX6_rowRefusal_1 : decode cX6_rowRefusal 1 = .ok (.iload_n 1, 1) := by decide +kernel
theorem dX6_rowRefusal_2 : decode cX6_rowRefusal 2 = .ok (.iconst 2, 1) := by decide +kernel
theorem dX6_rowRefusal_3 : decode cX6_rowRefusal 3 = .ok (.invokevirtual 61, 3) := by decide +kernel
theorem dX6_rowRefusal_6 : decode cX6_rowRefusal 6 = .ok (.ireturn, 1) := by decide +kernel
set_option maxRecDepth 100000 in
theorem c_X6_rowRefusal (l : Launch) (D : va_G) (cy : Nat → Nat) (n : Nat) (ad : Nat → Nat) (F : Nat → va_E) (sz : Nat) (pic : Int32) (sc ps : Scn) (sh : Nat → Shf) (rd : Rdr) (dr : Stg) (fa : Tal) (mi : Crs) (hn : 56 ≤ n) (hX : RX ad cy F pic sc ps sh rd dr fa mi) (d : Int32) : Met l yX6_rowRefusal (zw yX6_rowRefusal cX6_rowRefusal 2 (some .int)) (rmL 2) (zPc D cy n ad F sz [.ref (ad 0), .int d]) (va_Qi (fun r F1 => r = sRowR sh d ∧ F = F1) (zB D n ad) (zA n ad sz)) 0 0 (zA n ad sz) := by
  refine zmet (by decide +kernel) (Nat.le_of_ble_eq_true rfl) (fun p e s m args below meth c ls hC hsz hZ hA hr hlocks hnm hl => ?_)
  have hC : zC p m c cX6_rowRefusal 2 s args RX6 D cy := hC
  have hx := hC.1.1
  have hb := hC.1.2.1
  have hl : lv_has ls 2 [(0, .ref (ad 0)), (1, .int d)] := hl
  refine lv_aload_n hx hb dX6_rowRefusal_0 rfl (lv_at hl 0 rfl) ?_
  refine lv_iload_n hx hb dX6_rowRefusal_1 rfl (lv_at hl 1 rfl) ?_
  refine lv_iconst (v := 2) hx hb dX6_rowRefusal_2 (by decide) ?_
  refine zgoi hZ hA (zrunV (As := [.int d, .int 2]) (rest := []) (k := 0) hC hZ (c_X6_refusalOf l D cy n ad F s.heap.size pic sc ps sh rd dr fa mi hn hX d 2) mX6_refusalOf vX6_refusalOf kX6_61 (zRj_of rfl) (zlt hn rfl) hX.1 rfl rfl hl.1 rfl (Nat.le_of_ble_eq_true rfl) dX6_rowRefusal_3 ⟨Nat.le_refl _, Nat.le_refl _⟩) (fun r_2 F_1 hp_3 H locs hZ => ?_)
  obtain ⟨rfl, rfl⟩ := hp_3
  have hq_4 : (if bSh d then (if (sh (iN d)).1 = 0 then -11 else if (sh (iN d)).1 = 2 then 0 else -12) else -1) = sRowR sh d := rfl
  exact zireti hC hZ hr hlocks ⟨hq_4, rfl⟩ dX6_rowRefusal_6

theorem mX6_maySet : zMd yX6_maySet cX6_maySet 2 (some .boolean) 2 := ⟨by decide +kernel, gt_of 262 (by decide +kernel) rfl, gt_of 45 (by decide +kernel) rfl, by decide⟩
theorem dX6_maySet_0 : decode cX6_maySet 0 = .ok (.iload_n 0, 1) := by decide +kernel
theorem dX6_maySet_1 : decode cX6_maySet 1 = .ok (.tableswitch 69 0 4 #[35, 35, 43, 50, 60], 35) := by decide +kernel
theorem dX6_maySet_36 : decode cX6_maySet 36 = .ok (.iload_n 1, 1) := by decide +kernel
theorem dX6_maySet_37 : decode cX6_maySet 37 = .ok (.iconst 0, 1) := by decide +kernel
theorem dX6_maySet_38 : decode cX6_maySet 38 = .ok (.bipush 100, 2) := by decide +kernel
theorem dX6_maySet_40 : decode cX6_maySet 40 = .ok (.invokestatic 111, 3) := by decide +kernel
theorem kX6_111 : zLk RX6 111 yX6_isWithin := Or.inl (gt_of 263 (by decide +kernel) rfl)
theorem dX6_maySet_43 : decode cX6_maySet 43 = .ok (.ireturn, 1) := by decide +kernel
theorem dX6_maySet_44 : decode cX6_maySet 44 = .ok (.iload_n 1, 1) := by decide +kernel
theorem dX6_maySet_45 : decode cX6_maySet 45 = .ok (.iconst 0, 1) := by decide +kernel
theorem dX6_maySet_46 : decode cX6_maySet 46 = .ok (.iconst 2, 1) := by decide +kernel
theorem dX6_maySet_47 : decode cX6_maySet 47 = .ok (.invokestatic 111, 3) := by decide +kernel
theorem dX6_maySet_50 : decode cX6_maySet 50 = .ok (.ireturn, 1) := by decide +kernel
theorem dX6_maySet_51 : decode cX6_maySet 51 = .ok (.iload_n 1, 1) := by decide +kernel
theorem dX6_maySet_52 : decode cX6_maySet 52 = .ok (.bipush 10, 2) := by decide +kernel
theorem dX6_maySet_54 : decode cX6_maySet 54 = .ok (.sipush 9999, 3) := by decide +kernel
theorem dX6_maySet_57 : decode cX6_maySet 57 = .ok (.invokestatic 111, 3) := by decide +kernel
theorem dX6_maySet_60 : decode cX6_maySet 60 = .ok (.ireturn, 1) := by decide +kernel
theorem dX6_maySet_61 : decode cX6_maySet 61 = .ok (.iload_n 1, 1) := by decide +kernel
theorem dX6_maySet_62 : decode cX6_maySet 62 = .ok (.iconst 1, 1) := by decide +kernel
theorem dX6_maySet_63 : decode cX6_maySet 63 = .ok (.sipush 400, 3) := by decide +kernel
theorem dX6_maySet_66 : decode cX6_maySet 66 = .ok (.invokestatic 111, 3) := by decide +kernel
theorem dX6_maySet_69 : decode cX6_maySet 69 = .ok (.ireturn, 1) := by decide +kernel
theorem dX6_maySet_70 : decode cX6_maySet 70 = .ok (.iconst 0, 1) := by decide +kernel
theorem dX6_maySet_71 : decode cX6_maySet 71 = .ok (.ireturn, 1) := by decide +kernel
set_option maxRecDepth 100000 in
theorem c_X6_maySet (l : Launch) (D : va_G) (cy : Nat → Nat) (n : Nat) (ad : Nat → Nat) (F : Nat → va_E) (sz : Nat) (what q : Int32) : Met l yX6_maySet (zw yX6_maySet cX6_maySet 2 (some .boolean)) (rmL 1) (zPc D cy n ad F sz [.int what, .int q]) (va_Qi (fun r F1 => r = (if bMay what q then 1 else 0) ∧ F = F1) (zB D n ad) (zA n ad sz)) 0 0 (zA n ad sz) := by
  refine zmet (by decide +kernel) (Nat.le_of_ble_eq_true rfl) (fun p e s m args below meth c ls hC hsz hZ hA hr hlocks hnm hl => ?_)
  have hC : zC p m c cX6_maySet 2 s args RX6 D cy := hC
  have hx := hC.1.1
  have hb := hC.1.2.1
  have hl : lv_has ls 2 [(0, .int what), (1, .int q)] := hl
  refine lv_iload_n hx hb dX6_maySet_0 rfl (lv_at hl 0 rfl) ?_
  by_cases c_1_0 : what = 0
  · refine lv_tableIn (off := 35) (tgt := 36) hx hb dX6_maySet_1 (by rw [c_1_0]; decide) (by rw [c_1_0]; decide) (by rw [c_1_0]; rfl) (by decide) ?_
    refine lv_iload_n hx hb dX6_maySet_36 rfl (lv_at hl 1 rfl) ?_
    refine lv_iconst (v := 0) hx hb dX6_maySet_37 (by decide) ?_
    refine lv_bipush (v := 100) hx hb dX6_maySet_38 (by decide) ?_
    refine zgoi hZ hA (zrunS (As := [.int q, .int 0, .int 100]) (rest := []) hC hZ (c_X6_isWithin l D cy n ad F s.heap.size q 0 100) mX6_isWithin sX6_isWithin kX6_111 (zRj_of rfl) rfl hl.1 rfl (Nat.le_of_ble_eq_true rfl) dX6_maySet_40 ⟨Nat.le_refl _, Nat.le_refl _⟩) (fun r_2 F_1 hp_3 H locs hZ => ?_)
    obtain ⟨hp_3, rfl⟩ := hp_3
    by_cases b_4 : bIn q 0 100
    · rw [if_pos b_4] at hp_3
      subst hp_3
      have hq_5 : (1 : Int32) = if bMay what q then 1 else 0 := by simp [bMay, c_1_0, b_4]
      exact zbreti hC hZ hr hlocks rfl ⟨hq_5, rfl⟩ dX6_maySet_43
    · rw [if_neg b_4] at hp_3
      subst hp_3
      have hq_6 : (0 : Int32) = if bMay what q then 1 else 0 := by simp [bMay, c_1_0, b_4]
      exact zbreti hC hZ hr hlocks rfl ⟨hq_6, rfl⟩ dX6_maySet_43
  · by_cases c_1_1 : what = 1
    · refine lv_tableIn (off := 35) (tgt := 36) hx hb dX6_maySet_1 (by rw [c_1_1]; decide) (by rw [c_1_1]; decide) (by rw [c_1_1]; rfl) (by decide) ?_
      refine lv_iload_n hx hb dX6_maySet_36 rfl (lv_at hl 1 rfl) ?_
      refine lv_iconst (v := 0) hx hb dX6_maySet_37 (by decide) ?_
      refine lv_bipush (v := 100) hx hb dX6_maySet_38 (by decide) ?_
      refine zgoi hZ hA (zrunS (As := [.int q, .int 0, .int 100]) (rest := []) hC hZ (c_X6_isWithin l D cy n ad F s.heap.size q 0 100) mX6_isWithin sX6_isWithin kX6_111 (zRj_of rfl) rfl hl.1 rfl (Nat.le_of_ble_eq_true rfl) dX6_maySet_40 ⟨Nat.le_refl _, Nat.le_refl _⟩) (fun r_8 F_7 hp_9 H locs hZ => ?_)
      obtain ⟨hp_9, rfl⟩ := hp_9
      by_cases b_10 : bIn q 0 100
      · rw [if_pos b_10] at hp_9
        subst hp_9
        have hq_11 : (1 : Int32) = if bMay what q then 1 else 0 := by simp [bMay, c_1_0, c_1_1, b_10]
        exact zbreti hC hZ hr hlocks rfl ⟨hq_11, rfl⟩ dX6_maySet_43
      · rw [if_neg b_10] at hp_9
        subst hp_9
        have hq_12 : (0 : Int32) = if bMay what q then 1 else 0 := by simp [bMay, c_1_0, c_1_1, b_10]
        exact zbreti hC hZ hr hlocks rfl ⟨hq_12, rfl⟩ dX6_maySet_43
    · by_cases c_1_2 : what = 2
      · refine lv_tableIn (off := 43) (tgt := 44) hx hb dX6_maySet_1 (by rw [c_1_2]; decide) (by rw [c_1_2]; decide) (by rw [c_1_2]; rfl) (by decide) ?_
        refine lv_iload_n hx hb dX6_maySet_44 rfl (lv_at hl 1 rfl) ?_
        refine lv_iconst (v := 0) hx hb dX6_maySet_45 (by decide) ?_
        refine lv_iconst (v := 2) hx hb dX6_maySet_46 (by decide) ?_
        refine zgoi hZ hA (zrunS (As := [.int q, .int 0, .int 2]) (rest := []) hC hZ (c_X6_isWithin l D cy n ad F s.heap.size q 0 2) mX6_isWithin sX6_isWithin kX6_111 (zRj_of rfl) rfl hl.1 rfl (Nat.le_of_ble_eq_true rfl) dX6_maySet_47 ⟨Nat.le_refl _, Nat.le_refl _⟩) (fun r_14 F_13 hp_15 H locs hZ => ?_)
        obtain ⟨hp_15, rfl⟩ := hp_15
        by_cases b_16 : bIn q 0 2
        · rw [if_pos b_16] at hp_15
          subst hp_15
          have hq_17 : (1 : Int32) = if bMay what q then 1 else 0 := by simp [bMay, c_1_0, c_1_1, c_1_2, b_16]
          exact zbreti hC hZ hr hlocks rfl ⟨hq_17, rfl⟩ dX6_maySet_50
        · rw [if_neg b_16] at hp_15
          subst hp_15
          have hq_18 : (0 : Int32) = if bMay what q then 1 else 0 := by simp [bMay, c_1_0, c_1_1, c_1_2, b_16]
          exact zbreti hC hZ hr hlocks rfl ⟨hq_18, rfl⟩ dX6_maySet_50
      · by_cases c_1_3 : what = 3
        · refine lv_tableIn (off := 50) (tgt := 51) hx hb dX6_maySet_1 (by rw [c_1_3]; decide) (by rw [c_1_3]; decide) (by rw [c_1_3]; rfl) (by decide) ?_
          refine lv_iload_n hx hb dX6_maySet_51 rfl (lv_at hl 1 rfl) ?_
          refine lv_bipush (v := 10) hx hb dX6_maySet_52 (by decide) ?_
          refine lv_sipush (v := 9999) hx hb dX6_maySet_54 (by decide) ?_
          refine zgoi hZ hA (zrunS (As := [.int q, .int 10, .int 9999]) (rest := []) hC hZ (c_X6_isWithin l D cy n ad F s.heap.size q 10 9999) mX6_isWithin sX6_isWithin kX6_111 (zRj_of rfl) rfl hl.1 rfl (Nat.le_of_ble_eq_true rfl) dX6_maySet_57 ⟨Nat.le_refl _, Nat.le_refl _⟩) (fun r_20 F_19 hp_21 H locs hZ => ?_)
          obtain ⟨hp_21, rfl⟩ := hp_21
          by_cases b_22 : bIn q 10 9999
          · rw [if_pos b_22] at hp_21
            subst hp_21
            have hq_23 : (1 : Int32) = if bMay what q then 1 else 0 := by simp [bMay, c_1_0, c_1_1, c_1_2, c_1_3, b_22]
            exact zbreti hC hZ hr hlocks rfl ⟨hq_23, rfl⟩ dX6_maySet_60
          · rw [if_neg b_22] at hp_21
            subst hp_21
            have hq_24 : (0 : Int32) = if bMay what q then 1 else 0 := by simp [bMay, c_1_0, c_1_1, c_1_2, c_1_3, b_22]
            exact zbreti hC hZ hr hlocks rfl ⟨hq_24, rfl⟩ dX6_maySet_60
        · by_cases c_1_4 : what = 4
          · refine lv_tableIn (off := 60) (tgt := 61) hx hb dX6_maySet_1 (by rw [c_1_4]; decide) (by rw [c_1_4]; decide) (by rw [c_1_4]; rfl) (by decide) ?_
            refine lv_iload_n hx hb dX6_maySet_61 rfl (lv_at hl 1 rfl) ?_
            refine lv_iconst (v := 1) hx hb dX6_maySet_62 (by decide) ?_
            refine lv_sipush (v := 400) hx hb dX6_maySet_63 (by decide) ?_
            refine zgoi hZ hA (zrunS (As := [.int q, .int 1, .int 400]) (rest := []) hC hZ (c_X6_isWithin l D cy n ad F s.heap.size q 1 400) mX6_isWithin sX6_isWithin kX6_111 (zRj_of rfl) rfl hl.1 rfl (Nat.le_of_ble_eq_true rfl) dX6_maySet_66 ⟨Nat.le_refl _, Nat.le_refl _⟩) (fun r_26 F_25 hp_27 H locs hZ => ?_)
            obtain ⟨hp_27, rfl⟩ := hp_27
            by_cases b_28 : bIn q 1 400
            · rw [if_pos b_28] at hp_27
              subst hp_27
              have hq_29 : (1 : Int32) = if bMay what q then 1 else 0 := by simp [bMay, c_1_0, c_1_1, c_1_2, c_1_3, c_1_4, b_28]
              exact zbreti hC hZ hr hlocks rfl ⟨hq_29, rfl⟩ dX6_maySet_69
            · rw [if_neg b_28] at hp_27
              subst hp_27
              have hq_30 : (0 : Int32) = if bMay what q then 1 else 0 := by simp [bMay, c_1_0, c_1_1, c_1_2, c_1_3, c_1_4, b_28]
              exact zbreti hC hZ hr hlocks rfl ⟨hq_30, rfl⟩ dX6_maySet_69
          · refine lv_tableOut (tgt := 70) hx hb dX6_maySet_1 (by have e0 : ¬ what.toInt = 0 := lv_neT (k := 0) c_1_0 rfl; have e1 : ¬ what.toInt = 1 := lv_neT (k := 1) c_1_1 rfl; have e2 : ¬ what.toInt = 2 := lv_neT (k := 2) c_1_2 rfl; have e3 : ¬ what.toInt = 3 := lv_neT (k := 3) c_1_3 rfl; have e4 : ¬ what.toInt = 4 := lv_neT (k := 4) c_1_4 rfl; omega) (by decide) ?_
            refine lv_iconst (v := 0) hx hb dX6_maySet_70 (by decide) ?_
            have hq_31 : (0 : Int32) = if bMay what q then 1 else 0 := by simp [bMay, c_1_0, c_1_1, c_1_2, c_1_3, c_1_4]
            exact zbreti hC hZ hr hlocks rfl ⟨hq_31, rfl⟩ dX6_maySet_71

theorem mX6_chainNumber : zMd yX6_chainNumber cX6_chainNumber 2 (some .int) 1 := ⟨by decide +kernel, gt_of 269 (by decide +kernel) rfl, gt_of 45 (by decide +kernel) rfl, by decide⟩
theorem dX6_chainNumber_0 : decode cX6_chainNumber 0 = .ok (.iload_n 1, 1) := by decide +kernel
theorem dX6_chainNumber_1 : decode cX6_chainNumber 1 = .ok (.tableswitch 87 0 4 #[35, 46, 57, 68, 76], 35) := by decide +kernel
theorem dX6_chainNumber_36 : decode cX6_chainNumber 36 = .ok (.aload_n 0, 1) := by decide +kernel
theorem dX6_chainNumber_37 : decode cX6_chainNumber 37 = .ok (.getfield 10, 3) := by decide +kernel
theorem fX6_10 : zFld RX6 10 6 0 := ⟨RX6, TX6, 9, rfl, inX6, by decide, rfl, Or.inl (gt_of 228 (by decide +kernel) rfl)⟩
theorem dX6_chainNumber_40 : decode cX6_chainNumber 40 = .ok (.getfield 93, 3) := by decide +kernel
theorem fX6_93 : zFld RX6 93 2 0 := ⟨RX2, TX2, 5, rfl, inX2, by decide, rfl, Or.inr ⟨"ChainLeap", List.mem_of_getElem? (i := 137) (by decide +kernel)⟩⟩
theorem dX6_chainNumber_43 : decode cX6_chainNumber 43 = .ok (.getfield 96, 3) := by decide +kernel
theorem fX6_96 : zFld RX6 96 3 0 := ⟨RX3, TX3, 4, rfl, inX3, by decide, rfl, Or.inr ⟨"ChainLeap", List.mem_of_getElem? (i := 84) (by decide +kernel)⟩⟩
theorem dX6_chainNumber_46 : decode cX6_chainNumber 46 = .ok (.ireturn, 1) := by decide +kernel
theorem dX6_chainNumber_47 : decode cX6_chainNumber 47 = .ok (.aload_n 0, 1) := by decide +kernel
theorem dX6_chainNumber_48 : decode cX6_chainNumber 48 = .ok (.getfield 10, 3) := by decide +kernel
theorem dX6_chainNumber_51 : decode cX6_chainNumber 51 = .ok (.getfield 93, 3) := by decide +kernel
theorem dX6_chainNumber_54 : decode cX6_chainNumber 54 = .ok (.getfield 99, 3) := by decide +kernel
theorem fX6_99 : zFld RX6 99 3 1 := ⟨RX3, TX3, 4, rfl, inX3, by decide, rfl, Or.inr ⟨"ChainLeap", List.mem_of_getElem? (i := 88) (by decide +kernel)⟩⟩
theorem dX6_chainNumber_57 : decode cX6_chainNumber 57 = .ok (.ireturn, 1) := by decide +kernel
theorem dX6_chainNumber_58 : decode cX6_chainNumber 58 = .ok (.aload_n 0, 1) := by decide +kernel
theorem dX6_chainNumber_59 : decode cX6_chainNumber 59 = .ok (.getfield 10, 3) := by decide +kernel
theorem dX6_chainNumber_62 : decode cX6_chainNumber 62 = .ok (.getfield 93, 3) := by decide +kernel
theorem dX6_chainNumber_65 : decode cX6_chainNumber 65 = .ok (.getfield 102, 3) := by decide +kernel
theorem fX6_102 : zFld RX6 102 3 2 := ⟨RX3, TX3, 4, rfl, inX3, by decide, rfl, Or.inr ⟨"ChainLeap", List.mem_of_getElem? (i := 92) (by decide +kernel)⟩⟩
theorem dX6_chainNumber_68 : decode cX6_chainNumber 68 = .ok (.ireturn, 1) := by decide +kernel
theorem dX6_chainNumber_69 : decode cX6_chainNumber 69 = .ok (.aload_n 0, 1) := by decide +kernel
theorem dX6_chainNumber_70 : decode cX6_chainNumber 70 = .ok (.getfield 10, 3) := by decide +kernel
theorem dX6_chainNumber_73 : decode cX6_chainNumber 73 = .ok (.getfield 105, 3) := by decide +kernel
theorem fX6_105 : zFld RX6 105 2 1 := ⟨RX2, TX2, 5, rfl, inX2, by decide, rfl, Or.inr ⟨"ChainLeap", List.mem_of_getElem? (i := 139) (by decide +kernel)⟩⟩
theorem dX6_chainNumber_76 : decode cX6_chainNumber 76 = .ok (.ireturn, 1) := by decide +kernel
theorem dX6_chainNumber_77 : decode cX6_chainNumber 77 = .ok (.aload_n 0, 1) := by decide +kernel
theorem dX6_chainNumber_78 : decode cX6_chainNumber 78 = .ok (.getfield 10, 3) := by decide +kernel
theorem dX6_chainNumber_81 : decode cX6_chainNumber 81 = .ok (.getfield 93, 3) := by decide +kernel
theorem dX6_chainNumber_84 : decode cX6_chainNumber 84 = .ok (.getfield 108, 3) := by decide +kernel
theorem fX6_108 : zFld RX6 108 3 3 := ⟨RX3, TX3, 4, rfl, inX3, by decide, rfl, Or.inr ⟨"ChainLeap", List.mem_of_getElem? (i := 97) (by decide +kernel)⟩⟩
theorem dX6_chainNumber_87 : decode cX6_chainNumber 87 = .ok (.ireturn, 1) := by decide +kernel
theorem dX6_chainNumber_88 : decode cX6_chainNumber 88 = .ok (.iconst (-1), 1) := by decide +kernel
theorem dX6_chainNumber_89 : decode cX6_chainNumber 89 = .ok (.ireturn, 1) := by decide +kernel
set_option maxRecDepth 100000 in
theorem c_X6_chainNumber (l : Launch) (D : va_G) (cy : Nat → Nat) (n : Nat) (ad : Nat → Nat) (F : Nat → va_E) (sz : Nat) (pic : Int32) (sc ps : Scn) (sh : Nat → Shf) (rd : Rdr) (dr : Stg) (fa : Tal) (mi : Crs) (hn : 56 ≤ n) (hX : RX ad cy F pic sc ps sh rd dr fa mi) (what : Int32) : Met l yX6_chainNumber (zw yX6_chainNumber cX6_chainNumber 2 (some .int)) (rmL 0) (zPc D cy n ad F sz [.ref (ad 0), .int what]) (va_Qi (fun r F1 => r = sCh sc what ∧ F = F1) (zB D n ad) (zA n ad sz)) 0 0 (zA n ad sz) := by
  refine zmet (by decide +kernel) (Nat.le_of_ble_eq_true rfl) (fun p e s m args below meth c ls hC hsz hZ hA hr hlocks hnm hl => ?_)
  have hC : zC p m c cX6_chainNumber 2 s args RX6 D cy := hC
  have hx := hC.1.1
  have hb := hC.1.2.1
  have hl : lv_has ls 2 [(0, .ref (ad 0)), (1, .int what)] := hl
  refine lv_iload_n hx hb dX6_chainNumber_0 rfl (lv_at hl 1 rfl) ?_
  by_cases c_1_0 : what = 0
  · refine lv_tableIn (off := 35) (tgt := 36) hx hb dX6_chainNumber_1 (by rw [c_1_0]; decide) (by rw [c_1_0]; decide) (by rw [c_1_0]; rfl) (by decide) ?_
    refine lv_aload_n hx hb dX6_chainNumber_36 rfl (lv_at hl 0 rfl) ?_
    refine zget hC hZ fX6_10 (zlt hn rfl) hX.1 rfl dX6_chainNumber_37 ?_
    refine zget hC hZ fX6_93 (zlt hn rfl) hX.2.1.1 rfl dX6_chainNumber_40 ?_
    refine zget hC hZ fX6_96 (zlt hn rfl) hX.2.1.2.1 rfl dX6_chainNumber_43 ?_
    have hq_1 : sc.1.1 = sCh sc what := by first | rfl | simp [sCh, c_1_0] | (simp only [sCh]; simp [c_1_0])
    exact zireti hC hZ hr hlocks ⟨hq_1, rfl⟩ dX6_chainNumber_46
  · by_cases c_1_1 : what = 1
    · refine lv_tableIn (off := 46) (tgt := 47) hx hb dX6_chainNumber_1 (by rw [c_1_1]; decide) (by rw [c_1_1]; decide) (by rw [c_1_1]; rfl) (by decide) ?_
      refine lv_aload_n hx hb dX6_chainNumber_47 rfl (lv_at hl 0 rfl) ?_
      refine zget hC hZ fX6_10 (zlt hn rfl) hX.1 rfl dX6_chainNumber_48 ?_
      refine zget hC hZ fX6_93 (zlt hn rfl) hX.2.1.1 rfl dX6_chainNumber_51 ?_
      refine zget hC hZ fX6_99 (zlt hn rfl) hX.2.1.2.1 rfl dX6_chainNumber_54 ?_
      have hq_2 : sc.1.2.1 = sCh sc what := by first | rfl | simp [sCh, c_1_0, c_1_1] | (simp only [sCh]; simp [c_1_0, c_1_1])
      exact zireti hC hZ hr hlocks ⟨hq_2, rfl⟩ dX6_chainNumber_57
    · by_cases c_1_2 : what = 2
      · refine lv_tableIn (off := 57) (tgt := 58) hx hb dX6_chainNumber_1 (by rw [c_1_2]; decide) (by rw [c_1_2]; decide) (by rw [c_1_2]; rfl) (by decide) ?_
        refine lv_aload_n hx hb dX6_chainNumber_58 rfl (lv_at hl 0 rfl) ?_
        refine zget hC hZ fX6_10 (zlt hn rfl) hX.1 rfl dX6_chainNumber_59 ?_
        refine zget hC hZ fX6_93 (zlt hn rfl) hX.2.1.1 rfl dX6_chainNumber_62 ?_
        refine zget hC hZ fX6_102 (zlt hn rfl) hX.2.1.2.1 rfl dX6_chainNumber_65 ?_
        have hq_3 : sc.1.2.2.1 = sCh sc what := by first | rfl | simp [sCh, c_1_0, c_1_1, c_1_2] | (simp only [sCh]; simp [c_1_0, c_1_1, c_1_2])
        exact zireti hC hZ hr hlocks ⟨hq_3, rfl⟩ dX6_chainNumber_68
      · by_cases c_1_3 : what = 3
        · refine lv_tableIn (off := 68) (tgt := 69) hx hb dX6_chainNumber_1 (by rw [c_1_3]; decide) (by rw [c_1_3]; decide) (by rw [c_1_3]; rfl) (by decide) ?_
          refine lv_aload_n hx hb dX6_chainNumber_69 rfl (lv_at hl 0 rfl) ?_
          refine zget hC hZ fX6_10 (zlt hn rfl) hX.1 rfl dX6_chainNumber_70 ?_
          refine zget hC hZ fX6_105 (zlt hn rfl) hX.2.1.1 rfl dX6_chainNumber_73 ?_
          have hq_4 : sc.2.1 = sCh sc what := by first | rfl | simp [sCh, c_1_0, c_1_1, c_1_2, c_1_3] | (simp only [sCh]; simp [c_1_0, c_1_1, c_1_2, c_1_3])
          exact zireti hC hZ hr hlocks ⟨hq_4, rfl⟩ dX6_chainNumber_76
        · by_cases c_1_4 : what = 4
          · refine lv_tableIn (off := 76) (tgt := 77) hx hb dX6_chainNumber_1 (by rw [c_1_4]; decide) (by rw [c_1_4]; decide) (by rw [c_1_4]; rfl) (by decide) ?_
            refine lv_aload_n hx hb dX6_chainNumber_77 rfl (lv_at hl 0 rfl) ?_
            refine zget hC hZ fX6_10 (zlt hn rfl) hX.1 rfl dX6_chainNumber_78 ?_
            refine zget hC hZ fX6_93 (zlt hn rfl) hX.2.1.1 rfl dX6_chainNumber_81 ?_
            refine zget hC hZ fX6_108 (zlt hn rfl) hX.2.1.2.1 rfl dX6_chainNumber_84 ?_
            have hq_5 : sc.1.2.2.2 = sCh sc what := by first | rfl | simp [sCh, c_1_0, c_1_1, c_1_2, c_1_3, c_1_4] | (simp only [sCh]; simp [c_1_0, c_1_1, c_1_2, c_1_3, c_1_4])
            exact zireti hC hZ hr hlocks ⟨hq_5, rfl⟩ dX6_chainNumber_87
          · refine lv_tableOut (tgt := 88) hx hb dX6_chainNumber_1 (by have e0 : ¬ what.toInt = 0 := lv_neT (k := 0) c_1_0 rfl; have e1 : ¬ what.toInt = 1 := lv_neT (k := 1) c_1_1 rfl; have e2 : ¬ what.toInt = 2 := lv_neT (k := 2) c_1_2 rfl; have e3 : ¬ what.toInt = 3 := lv_neT (k := 3) c_1_3 rfl; have e4 : ¬ what.toInt = 4 := lv_neT (k := 4) c_1_4 rfl; omega) (by decide) ?_
            refine lv_iconst (v := (-1)) hx hb dX6_chainNumber_88 (by decide) ?_
            have hq_6 : (-1 : Int32) = sCh sc what := by first | rfl | simp [sCh, c_1_0, c_1_1, c_1_2, c_1_3, c_1_4] | (simp only [sCh]; simp [c_1_0, c_1_1, c_1_2, c_1_3, c_1_4])
            exact zireti hC hZ hr hlocks ⟨hq_6, rfl⟩ dX6_chainNumber_89

theorem mX6_set : zMd yX6_set cX6_set 4 (some .int) 2 := ⟨by decide +kernel, gt_of 259 (by decide +kernel) rfl, gt_of 45 (by decide +kernel) rfl, by decide⟩
theorem dX6_set_0 : decode cX6_set 0 = .ok (.iload_n 1, 1) := by decide +kernel
theorem dX6_set_1 : decode cX6_set 1 = .ok (.iload_n 2, 1) := by decide +kernel
theorem dX6_set_2 : decode cX6_set 2 = .ok (.invokestatic 79, 3) := by decide +kernel
theorem kX6_79 : zLk RX6 79 yX6_maySet := Or.inl (gt_of 260 (by decide +kernel) rfl)
theorem sX6_maySet : Cond.static yX6_maySet ∈ gtbl := gt_of 261 (by decide +kernel) rfl
theorem dX6_set_5 : decode cX6_set 5 = .ok (.ifCond .ne 5, 3) := by decide +kernel
theorem dX6_set_10 : decode cX6_set 10 = .ok (.iload_n 1, 1) := by decide +kernel
theorem dX6_set_11 : decode cX6_set 11 = .ok (.iconst 3, 1) := by decide +kernel
theorem dX6_set_12 : decode cX6_set 12 = .ok (.if_icmp .ne 20, 3) := by decide +kernel
theorem dX6_set_32 : decode cX6_set 32 = .ok (.aload_n 0, 1) := by decide +kernel
theorem dX6_set_33 : decode cX6_set 33 = .ok (.iload_n 1, 1) := by decide +kernel
theorem dX6_set_34 : decode cX6_set 34 = .ok (.invokevirtual 89, 3) := by decide +kernel
theorem kX6_89 : zLk RX6 89 yX6_chainNumber := Or.inl (gt_of 266 (by decide +kernel) rfl)
theorem vX6_chainNumber : zMi yX6_chainNumber := ⟨gt_of 268 (by decide +kernel) rfl, gt_of 0 (by decide +kernel) rfl⟩
theorem dX6_set_37 : decode cX6_set 37 = .ok (.istore_n 3, 1) := by decide +kernel
theorem dX6_set_38 : decode cX6_set 38 = .ok (.iload_n 1, 1) := by decide +kernel
theorem dX6_set_39 : decode cX6_set 39 = .ok (.tableswitch 82 0 3 #[29, 43, 57, 71], 29) := by decide +kernel
theorem dX6_set_68 : decode cX6_set 68 = .ok (.aload_n 0, 1) := by decide +kernel
theorem dX6_set_69 : decode cX6_set 69 = .ok (.getfield 10, 3) := by decide +kernel
theorem dX6_set_72 : decode cX6_set 72 = .ok (.getfield 93, 3) := by decide +kernel
theorem dX6_set_75 : decode cX6_set 75 = .ok (.iload_n 2, 1) := by decide +kernel
theorem dX6_set_76 : decode cX6_set 76 = .ok (.putfield 96, 3) := by decide +kernel
theorem pX6_96 : zFldP RX6 96 3 0 false .int := ⟨RX3, TX3, 4, tyX3, rfl, inX3, by decide, rfl, Or.inr ⟨rfl, "ChainLeap", List.mem_of_getElem? (i := 84) (by decide +kernel)⟩, tyX3_ok, nmX3, rfl, by decide +kernel, fun h => by cases h⟩
theorem dX6_set_79 : decode cX6_set 79 = .ok (.goto 53, 3) := by decide +kernel
theorem dX6_set_132 : decode cX6_set 132 = .ok (.iload_n 3, 1) := by decide +kernel
theorem dX6_set_133 : decode cX6_set 133 = .ok (.ireturn, 1) := by decide +kernel
theorem dX6_set_82 : decode cX6_set 82 = .ok (.aload_n 0, 1) := by decide +kernel
theorem dX6_set_83 : decode cX6_set 83 = .ok (.getfield 10, 3) := by decide +kernel
theorem dX6_set_86 : decode cX6_set 86 = .ok (.getfield 93, 3) := by decide +kernel
theorem dX6_set_89 : decode cX6_set 89 = .ok (.iload_n 2, 1) := by decide +kernel
theorem dX6_set_90 : decode cX6_set 90 = .ok (.putfield 99, 3) := by decide +kernel
theorem pX6_99 : zFldP RX6 99 3 1 false .int := ⟨RX3, TX3, 4, tyX3, rfl, inX3, by decide, rfl, Or.inr ⟨rfl, "ChainLeap", List.mem_of_getElem? (i := 88) (by decide +kernel)⟩, tyX3_ok, nmX3, rfl, by decide +kernel, fun h => by cases h⟩
theorem dX6_set_93 : decode cX6_set 93 = .ok (.goto 39, 3) := by decide +kernel
theorem dX6_set_96 : decode cX6_set 96 = .ok (.aload_n 0, 1) := by decide +kernel
theorem dX6_set_97 : decode cX6_set 97 = .ok (.getfield 10, 3) := by decide +kernel
theorem dX6_set_100 : decode cX6_set 100 = .ok (.getfield 93, 3) := by decide +kernel
theorem dX6_set_103 : decode cX6_set 103 = .ok (.iload_n 2, 1) := by decide +kernel
theorem dX6_set_104 : decode cX6_set 104 = .ok (.putfield 102, 3) := by decide +kernel
theorem pX6_102 : zFldP RX6 102 3 2 false .int := ⟨RX3, TX3, 4, tyX3, rfl, inX3, by decide, rfl, Or.inr ⟨rfl, "ChainLeap", List.mem_of_getElem? (i := 92) (by decide +kernel)⟩, tyX3_ok, nmX3, rfl, by decide +kernel, fun h => by cases h⟩
theorem dX6_set_107 : decode cX6_set 107 = .ok (.goto 25, 3) := by decide +kernel
theorem dX6_set_110 : decode cX6_set 110 = .ok (.aload_n 0, 1) := by decide +kernel
theorem dX6_set_111 : decode cX6_set 111 = .ok (.getfield 10, 3) := by decide +kernel
theorem dX6_set_114 : decode cX6_set 114 = .ok (.iload_n 2, 1) := by decide +kernel
theorem dX6_set_115 : decode cX6_set 115 = .ok (.putfield 105, 3) := by decide +kernel
theorem pX6_105 : zFldP RX6 105 2 1 false .int := ⟨RX2, TX2, 5, tyX2, rfl, inX2, by decide, rfl, Or.inr ⟨rfl, "ChainLeap", List.mem_of_getElem? (i := 139) (by decide +kernel)⟩, tyX2_ok, nmX2, rfl, by decide +kernel, fun h => by cases h⟩
theorem dX6_set_118 : decode cX6_set 118 = .ok (.goto 14, 3) := by decide +kernel
theorem dX6_set_121 : decode cX6_set 121 = .ok (.aload_n 0, 1) := by decide +kernel
theorem dX6_set_122 : decode cX6_set 122 = .ok (.getfield 10, 3) := by decide +kernel
theorem dX6_set_125 : decode cX6_set 125 = .ok (.getfield 93, 3) := by decide +kernel
theorem dX6_set_128 : decode cX6_set 128 = .ok (.iload_n 2, 1) := by decide +kernel
theorem dX6_set_129 : decode cX6_set 129 = .ok (.putfield 108, 3) := by decide +kernel
theorem pX6_108 : zFldP RX6 108 3 3 false .int := ⟨RX3, TX3, 4, tyX3, rfl, inX3, by decide, rfl, Or.inr ⟨rfl, "ChainLeap", List.mem_of_getElem? (i := 97) (by decide +kernel)⟩, tyX3_ok, nmX3, rfl, by decide +kernel, fun h => by cases h⟩
theorem dX6_set_15 : decode cX6_set 15 = .ok (.aload_n 0, 1) := by decide +kernel
theorem dX6_set_16 : decode cX6_set 16 = .ok (.getfield 10, 3) := by decide +kernel
theorem dX6_set_19 : decode cX6_set 19 = .ok (.getfield 83, 3) := by decide +kernel
theorem fX6_83 : zFld RX6 83 2 4 := ⟨RX2, TX2, 5, rfl, inX2, by decide, rfl, Or.inr ⟨"ChainLeap", List.mem_of_getElem? (i := 145) (by decide +kernel)⟩⟩
theorem dX6_set_22 : decode cX6_set 22 = .ok (.getfield 86, 3) := by decide +kernel
theorem fX6_86 : zFld RX6 86 0 3 := ⟨RX0, TX0, 5, rfl, inX0, by decide, rfl, Or.inr ⟨"ChainLeap", List.mem_of_getElem? (i := 122) (by decide +kernel)⟩⟩
theorem dX6_set_25 : decode cX6_set 25 = .ok (.iload_n 2, 1) := by decide +kernel
theorem dX6_set_26 : decode cX6_set 26 = .ok (.if_icmp .lt 6, 3) := by decide +kernel
theorem dX6_set_29 : decode cX6_set 29 = .ok (.bipush (-3), 2) := by decide +kernel
theorem dX6_set_31 : decode cX6_set 31 = .ok (.ireturn, 1) := by decide +kernel
theorem dX6_set_8 : decode cX6_set 8 = .ok (.iconst (-1), 1) := by decide +kernel
theorem dX6_set_9 : decode cX6_set 9 = .ok (.ireturn, 1) := by decide +kernel
set_option maxRecDepth 100000 in
theorem c_X6_set (l : Launch) (D : va_G) (cy : Nat → Nat) (n : Nat) (ad : Nat → Nat) (F : Nat → va_E) (sz : Nat) (pic : Int32) (sc ps : Scn) (sh : Nat → Shf) (rd : Rdr) (dr : Stg) (fa : Tal) (mi : Crs) (hn : 56 ≤ n) (hX : RX ad cy F pic sc ps sh rd dr fa mi) (what q : Int32) : Met l yX6_set (zw yX6_set cX6_set 4 (some .int)) (rmL 2) (zPc D cy n ad F sz [.ref (ad 0), .int what, .int q]) (va_Qi (fun r F1 => r = sSet sc what q ∧ RX ad cy F1 pic (sSetN sc what q) ps sh rd dr fa mi ∧ fr56 F F1) (zB D n ad) (zA n ad sz)) 0 0 (zA n ad sz) := by
  refine zmet (by decide +kernel) (Nat.le_of_ble_eq_true rfl) (fun p e s m args below meth c ls hC hsz hZ hA hr hlocks hnm hl => ?_)
  have hC : zC p m c cX6_set 4 s args RX6 D cy := hC
  have hx := hC.1.1
  have hb := hC.1.2.1
  have hl : lv_has ls 4 [(0, .ref (ad 0)), (1, .int what), (2, .int q)] := hl
  refine lv_iload_n hx hb dX6_set_0 rfl (lv_at hl 1 rfl) ?_
  refine lv_iload_n hx hb dX6_set_1 rfl (lv_at hl 2 rfl) ?_
  refine zgoi hZ hA (zrunS (As := [.int what, .int q]) (rest := []) hC hZ (c_X6_maySet l D cy n ad F s.heap.size what q) mX6_maySet sX6_maySet kX6_79 (zRj_of rfl) rfl hl.1 rfl (Nat.le_of_ble_eq_true rfl) dX6_set_2 ⟨Nat.le_refl _, Nat.le_refl _⟩) (fun r_2 F_1 hp_3 H locs hZ => ?_)
  obtain ⟨hp_3, rfl⟩ := hp_3
  by_cases b_4 : bMay what q
  · rw [if_pos b_4] at hp_3
    subst hp_3
    refine lv_if_ne (tgt := 10) hx hb dX6_set_5 (by decide) (fun _ => ?_) (fun h => absurd (show (1 : Int32) = 0 from h) (by decide))
    refine lv_iload_n hx hb dX6_set_10 rfl (lv_at hl 1 rfl) ?_
    refine lv_iconst (v := 3) hx hb dX6_set_11 (by decide) ?_
    refine lv_icmp_ne (tgt := 32) hx hb dX6_set_12 (by decide) (fun c_12 => ?_) (fun c_12 => ?_)
    · refine lv_aload_n hx hb dX6_set_32 rfl (lv_at hl 0 rfl) ?_
      refine lv_iload_n hx hb dX6_set_33 rfl (lv_at hl 1 rfl) ?_
      refine zgoi hZ hA (zrunV (As := [.int what]) (rest := []) (k := 0) hC hZ (c_X6_chainNumber l D cy n ad F H.size pic sc ps sh rd dr fa mi hn hX what) mX6_chainNumber vX6_chainNumber kX6_89 (zRj_of rfl) (zlt hn rfl) hX.1 rfl rfl hl.1 rfl (Nat.le_of_ble_eq_true rfl) dX6_set_34 ⟨Nat.le_refl _, Nat.le_refl _⟩) (fun r_6 F_5 hp_7 H locs hZ => ?_)
      obtain ⟨rfl, rfl⟩ := hp_7
      refine lv_istore_n (lv' := [(3, .int (sCh sc what)), (0, .ref (ad 0)), (1, .int what), (2, .int q)]) hx hb dX6_set_37 rfl hl (by decide) rfl (fun ls hl => ?_)
      refine lv_iload_n hx hb dX6_set_38 rfl (lv_at hl 2 rfl) ?_
      by_cases c_39_0 : what = 0
      · refine lv_tableIn (off := 29) (tgt := 68) hx hb dX6_set_39 (by rw [c_39_0]; decide) (by rw [c_39_0]; decide) (by rw [c_39_0]; rfl) (by decide) ?_
        refine lv_aload_n hx hb dX6_set_68 rfl (lv_at hl 1 rfl) ?_
        refine zget hC hZ fX6_10 (zlt hn rfl) hX.1 rfl dX6_set_69 ?_
        refine zget hC hZ fX6_93 (zlt hn rfl) hX.2.1.1 rfl dX6_set_72 ?_
        refine lv_iload_n hx hb dX6_set_75 rfl (lv_at hl 3 rfl) ?_
        refine zput (E := oSetting (q, sc.1.2.1, sc.1.2.2.1, sc.1.2.2.2)) hC hZ pX6_96 (zlt hn rfl) hX.2.1.2.1 rfl rfl rfl (Nat.le_of_ble_eq_true rfl) dX6_set_76 (fun F_8 hF_9 H locs hZ => ?_)
        have hX_10 := rx_chain hX hF_9
        have hf_11 := fr56_up fr56_rf hF_9 (by decide)
        have hX_10 : RX ad cy F_8 pic ((q, sc.1.2.1, sc.1.2.2.1, sc.1.2.2.2), sc.2) ps sh rd dr fa mi := hX_10
        refine lv_goto (tgt := 132) hx hb dX6_set_79 (by decide) ?_
        refine lv_iload_n hx hb dX6_set_132 rfl (lv_at hl 0 rfl) ?_
        have hq := sSet_ok (sc := sc) b_4 (fun h => c_12 h.1)
        have hs : sSetS sc what q = ((q, sc.1.2.1, sc.1.2.2.1, sc.1.2.2.2), sc.2) := by simp [sSetS, c_12, c_39_0]
        rw [hs] at hq
        exact zireti hC hZ hr hlocks ⟨hq.1.symm, by rw [hq.2]; exact hX_10, hf_11⟩ dX6_set_133
      · by_cases c_39_1 : what = 1
        · refine lv_tableIn (off := 43) (tgt := 82) hx hb dX6_set_39 (by rw [c_39_1]; decide) (by rw [c_39_1]; decide) (by rw [c_39_1]; rfl) (by decide) ?_
          refine lv_aload_n hx hb dX6_set_82 rfl (lv_at hl 1 rfl) ?_
          refine zget hC hZ fX6_10 (zlt hn rfl) hX.1 rfl dX6_set_83 ?_
          refine zget hC hZ fX6_93 (zlt hn rfl) hX.2.1.1 rfl dX6_set_86 ?_
          refine lv_iload_n hx hb dX6_set_89 rfl (lv_at hl 3 rfl) ?_
          refine zput (E := oSetting (sc.1.1, q, sc.1.2.2.1, sc.1.2.2.2)) hC hZ pX6_99 (zlt hn rfl) hX.2.1.2.1 rfl rfl rfl (Nat.le_of_ble_eq_true rfl) dX6_set_90 (fun F_12 hF_13 H locs hZ => ?_)
          have hX_14 := rx_chain hX hF_13
          have hf_15 := fr56_up fr56_rf hF_13 (by decide)
          have hX_14 : RX ad cy F_12 pic ((sc.1.1, q, sc.1.2.2.1, sc.1.2.2.2), sc.2) ps sh rd dr fa mi := hX_14
          refine lv_goto (tgt := 132) hx hb dX6_set_93 (by decide) ?_
          refine lv_iload_n hx hb dX6_set_132 rfl (lv_at hl 0 rfl) ?_
          have hq := sSet_ok (sc := sc) b_4 (fun h => c_12 h.1)
          have hs : sSetS sc what q = ((sc.1.1, q, sc.1.2.2.1, sc.1.2.2.2), sc.2) := by simp [sSetS, c_12, c_39_0, c_39_1]
          rw [hs] at hq
          exact zireti hC hZ hr hlocks ⟨hq.1.symm, by rw [hq.2]; exact hX_14, hf_15⟩ dX6_set_133
        · by_cases c_39_2 : what = 2
          · refine lv_tableIn (off := 57) (tgt := 96) hx hb dX6_set_39 (by rw [c_39_2]; decide) (by rw [c_39_2]; decide) (by rw [c_39_2]; rfl) (by decide) ?_
            refine lv_aload_n hx hb dX6_set_96 rfl (lv_at hl 1 rfl) ?_
            refine zget hC hZ fX6_10 (zlt hn rfl) hX.1 rfl dX6_set_97 ?_
            refine zget hC hZ fX6_93 (zlt hn rfl) hX.2.1.1 rfl dX6_set_100 ?_
            refine lv_iload_n hx hb dX6_set_103 rfl (lv_at hl 3 rfl) ?_
            refine zput (E := oSetting (sc.1.1, sc.1.2.1, q, sc.1.2.2.2)) hC hZ pX6_102 (zlt hn rfl) hX.2.1.2.1 rfl rfl rfl (Nat.le_of_ble_eq_true rfl) dX6_set_104 (fun F_16 hF_17 H locs hZ => ?_)
            have hX_18 := rx_chain hX hF_17
            have hf_19 := fr56_up fr56_rf hF_17 (by decide)
            have hX_18 : RX ad cy F_16 pic ((sc.1.1, sc.1.2.1, q, sc.1.2.2.2), sc.2) ps sh rd dr fa mi := hX_18
            refine lv_goto (tgt := 132) hx hb dX6_set_107 (by decide) ?_
            refine lv_iload_n hx hb dX6_set_132 rfl (lv_at hl 0 rfl) ?_
            have hq := sSet_ok (sc := sc) b_4 (fun h => c_12 h.1)
            have hs : sSetS sc what q = ((sc.1.1, sc.1.2.1, q, sc.1.2.2.2), sc.2) := by simp [sSetS, c_12, c_39_0, c_39_1, c_39_2]
            rw [hs] at hq
            exact zireti hC hZ hr hlocks ⟨hq.1.symm, by rw [hq.2]; exact hX_18, hf_19⟩ dX6_set_133
          · by_cases c_39_3 : what = 3
            · refine lv_tableIn (off := 71) (tgt := 110) hx hb dX6_set_39 (by rw [c_39_3]; decide) (by rw [c_39_3]; decide) (by rw [c_39_3]; rfl) (by decide) ?_
              refine lv_aload_n hx hb dX6_set_110 rfl (lv_at hl 1 rfl) ?_
              refine zget hC hZ fX6_10 (zlt hn rfl) hX.1 rfl dX6_set_111 ?_
              refine lv_iload_n hx hb dX6_set_114 rfl (lv_at hl 3 rfl) ?_
              refine zput (E := oScene ad 1 q sc.2.2.2.1) hC hZ pX6_105 (zlt hn rfl) hX.2.1.1 rfl rfl rfl (Nat.le_of_ble_eq_true rfl) dX6_set_115 (fun F_20 hF_21 H locs hZ => ?_)
              have hX_22 := rx_self hX hF_21
              have hf_23 := fr56_up fr56_rf hF_21 (by decide)
              have hX_22 : RX ad cy F_20 pic (sc.1, q, sc.2.2.1, sc.2.2.2.1, sc.2.2.2.2) ps sh rd dr fa mi := hX_22
              refine lv_goto (tgt := 132) hx hb dX6_set_118 (by decide) ?_
              refine lv_iload_n hx hb dX6_set_132 rfl (lv_at hl 0 rfl) ?_
              have hq := sSet_ok (sc := sc) b_4 (fun h => c_12 h.1)
              have hs : sSetS sc what q = (sc.1, q, sc.2.2.1, sc.2.2.2.1, sc.2.2.2.2) := by simp [sSetS, c_12, c_39_0, c_39_1, c_39_2, c_39_3]
              rw [hs] at hq
              exact zireti hC hZ hr hlocks ⟨hq.1.symm, by rw [hq.2]; exact hX_22, hf_23⟩ dX6_set_133
            · refine lv_tableOut (tgt := 121) hx hb dX6_set_39 (by have e0 : ¬ what.toInt = 0 := lv_neT (k := 0) c_39_0 rfl; have e1 : ¬ what.toInt = 1 := lv_neT (k := 1) c_39_1 rfl; have e2 : ¬ what.toInt = 2 := lv_neT (k := 2) c_39_2 rfl; have e3 : ¬ what.toInt = 3 := lv_neT (k := 3) c_39_3 rfl; omega) (by decide) ?_
              refine lv_aload_n hx hb dX6_set_121 rfl (lv_at hl 1 rfl) ?_
              refine zget hC hZ fX6_10 (zlt hn rfl) hX.1 rfl dX6_set_122 ?_
              refine zget hC hZ fX6_93 (zlt hn rfl) hX.2.1.1 rfl dX6_set_125 ?_
              refine lv_iload_n hx hb dX6_set_128 rfl (lv_at hl 3 rfl) ?_
              refine zput (E := oSetting (sc.1.1, sc.1.2.1, sc.1.2.2.1, q)) hC hZ pX6_108 (zlt hn rfl) hX.2.1.2.1 rfl rfl rfl (Nat.le_of_ble_eq_true rfl) dX6_set_129 (fun F_24 hF_25 H locs hZ => ?_)
              have hX_26 := rx_chain hX hF_25
              have hf_27 := fr56_up fr56_rf hF_25 (by decide)
              have hX_26 : RX ad cy F_24 pic ((sc.1.1, sc.1.2.1, sc.1.2.2.1, q), sc.2) ps sh rd dr fa mi := hX_26
              refine lv_iload_n hx hb dX6_set_132 rfl (lv_at hl 0 rfl) ?_
              have hq := sSet_ok (sc := sc) b_4 (fun h => c_12 h.1)
              have hs : sSetS sc what q = ((sc.1.1, sc.1.2.1, sc.1.2.2.1, q), sc.2) := by simp [sSetS, c_12, c_39_0, c_39_1, c_39_2, c_39_3]
              rw [hs] at hq
              exact zireti hC hZ hr hlocks ⟨hq.1.symm, by rw [hq.2]; exact hX_26, hf_27⟩ dX6_set_133
    · refine lv_aload_n hx hb dX6_set_15 rfl (lv_at hl 0 rfl) ?_
      refine zget hC hZ fX6_10 (zlt hn rfl) hX.1 rfl dX6_set_16 ?_
      refine zget hC hZ fX6_83 (zlt hn rfl) hX.2.1.1 rfl dX6_set_19 ?_
      refine zget hC hZ fX6_86 (zlt hn rfl) hX.2.1.2.2.2.1 rfl dX6_set_22 ?_
      refine lv_iload_n hx hb dX6_set_25 rfl (lv_at hl 2 rfl) ?_
      refine lv_icmp_lt (tgt := 32) hx hb dX6_set_26 (by decide) (fun c_26 => ?_) (fun c_26 => ?_)
      · refine lv_aload_n hx hb dX6_set_32 rfl (lv_at hl 0 rfl) ?_
        refine lv_iload_n hx hb dX6_set_33 rfl (lv_at hl 1 rfl) ?_
        refine zgoi hZ hA (zrunV (As := [.int what]) (rest := []) (k := 0) hC hZ (c_X6_chainNumber l D cy n ad F H.size pic sc ps sh rd dr fa mi hn hX what) mX6_chainNumber vX6_chainNumber kX6_89 (zRj_of rfl) (zlt hn rfl) hX.1 rfl rfl hl.1 rfl (Nat.le_of_ble_eq_true rfl) dX6_set_34 ⟨Nat.le_refl _, Nat.le_refl _⟩) (fun r_29 F_28 hp_30 H locs hZ => ?_)
        obtain ⟨rfl, rfl⟩ := hp_30
        refine lv_istore_n (lv' := [(3, .int (sCh sc what)), (0, .ref (ad 0)), (1, .int what), (2, .int q)]) hx hb dX6_set_37 rfl hl (by decide) rfl (fun ls hl => ?_)
        refine lv_iload_n hx hb dX6_set_38 rfl (lv_at hl 2 rfl) ?_
        refine lv_tableIn (off := 71) (tgt := 110) hx hb dX6_set_39 (by rw [c_12]; decide) (by rw [c_12]; decide) (by rw [c_12]; rfl) (by decide) ?_
        refine lv_aload_n hx hb dX6_set_110 rfl (lv_at hl 1 rfl) ?_
        refine zget hC hZ fX6_10 (zlt hn rfl) hX.1 rfl dX6_set_111 ?_
        refine lv_iload_n hx hb dX6_set_114 rfl (lv_at hl 3 rfl) ?_
        refine zput (E := oScene ad 1 q sc.2.2.2.1) hC hZ pX6_105 (zlt hn rfl) hX.2.1.1 rfl rfl rfl (Nat.le_of_ble_eq_true rfl) dX6_set_115 (fun F_31 hF_32 H locs hZ => ?_)
        have hX_33 := rx_self hX hF_32
        have hf_34 := fr56_up fr56_rf hF_32 (by decide)
        have hX_33 : RX ad cy F_31 pic (sc.1, q, sc.2.2.1, sc.2.2.2.1, sc.2.2.2.2) ps sh rd dr fa mi := hX_33
        refine lv_goto (tgt := 132) hx hb dX6_set_118 (by decide) ?_
        refine lv_iload_n hx hb dX6_set_132 rfl (lv_at hl 0 rfl) ?_
        have hq := sSet_ok (sc := sc) b_4 (fun h => absurd h.2 (Int32.not_le.mpr c_26))
        have hs : sSetS sc what q = (sc.1, q, sc.2.2.1, sc.2.2.2.1, sc.2.2.2.2) := by simp [sSetS, c_12]
        rw [hs] at hq
        exact zireti hC hZ hr hlocks ⟨hq.1.symm, by rw [hq.2]; exact hX_33, hf_34⟩ dX6_set_133
      · refine lv_bipush (v := (-3)) hx hb dX6_set_29 (by decide) ?_
        have hq := sSet_now (sc := sc) b_4 ⟨c_12, Int32.not_lt.mp c_26⟩
        exact zireti hC hZ hr hlocks ⟨hq.1.symm, by rw [hq.2]; exact hX, fr56_rf⟩ dX6_set_31
  · rw [if_neg b_4] at hp_3
    subst hp_3
    refine lv_if_ne (tgt := 10) hx hb dX6_set_5 (by decide) (fun h => absurd (show (0 : Int32) = 0 by decide) h) (fun _ => ?_)
    refine lv_iconst (v := (-1)) hx hb dX6_set_8 (by decide) ?_
    have hq := sSet_no (sc := sc) b_4
    exact zireti hC hZ hr hlocks ⟨hq.1.symm, by rw [hq.2]; exact hX, fr56_rf⟩ dX6_set_9

theorem mX6_leave : zMd yX6_leave cX6_leave 1 (some .int) 0 := ⟨by decide +kernel, gt_of 360 (by decide +kernel) rfl, gt_of 45 (by decide +kernel) rfl, by decide⟩
theorem dX6_leave_0 : decode cX6_leave 0 = .ok (.aload_n 0, 1) := by decide +kernel
theorem dX6_leave_1 : decode cX6_leave 1 = .ok (.getfield 10, 3) := by decide +kernel
theorem dX6_leave_4 : decode cX6_leave 4 = .ok (.getfield 147, 3) := by decide +kernel
theorem fX6_147 : zFld RX6 147 2 3 := ⟨RX2, TX2, 5, rfl, inX2, by decide, rfl, Or.inr ⟨"ChainLeap", List.mem_of_getElem? (i := 143) (by decide +kernel)⟩⟩
theorem dX6_leave_7 : decode cX6_leave 7 = .ok (.ifCond .gt 6, 3) := by decide +kernel
theorem dX6_leave_13 : decode cX6_leave 13 = .ok (.aload_n 0, 1) := by decide +kernel
theorem dX6_leave_14 : decode cX6_leave 14 = .ok (.getfield 10, 3) := by decide +kernel
theorem dX6_leave_17 : decode cX6_leave 17 = .ok (.dup, 1) := by decide +kernel
theorem dX6_leave_18 : decode cX6_leave 18 = .ok (.getfield 147, 3) := by decide +kernel
theorem dX6_leave_21 : decode cX6_leave 21 = .ok (.iconst 1, 1) := by decide +kernel
theorem dX6_leave_22 : decode cX6_leave 22 = .ok (.isub, 1) := by decide +kernel
theorem dX6_leave_23 : decode cX6_leave 23 = .ok (.putfield 147, 3) := by decide +kernel
theorem pX6_147 : zFldP RX6 147 2 3 false .int := ⟨RX2, TX2, 5, tyX2, rfl, inX2, by decide, rfl, Or.inr ⟨rfl, "ChainLeap", List.mem_of_getElem? (i := 143) (by decide +kernel)⟩, tyX2_ok, nmX2, rfl, by decide +kernel, fun h => by cases h⟩
theorem dX6_leave_26 : decode cX6_leave 26 = .ok (.aload_n 0, 1) := by decide +kernel
theorem dX6_leave_27 : decode cX6_leave 27 = .ok (.getfield 10, 3) := by decide +kernel
theorem dX6_leave_30 : decode cX6_leave 30 = .ok (.getfield 147, 3) := by decide +kernel
theorem dX6_leave_33 : decode cX6_leave 33 = .ok (.ireturn, 1) := by decide +kernel
theorem dX6_leave_10 : decode cX6_leave 10 = .ok (.bipush (-3), 2) := by decide +kernel
theorem dX6_leave_12 : decode cX6_leave 12 = .ok (.ireturn, 1) := by decide +kernel
set_option maxRecDepth 100000 in
theorem c_X6_leave (l : Launch) (D : va_G) (cy : Nat → Nat) (n : Nat) (ad : Nat → Nat) (F : Nat → va_E) (sz : Nat) (pic : Int32) (sc ps : Scn) (sh : Nat → Shf) (rd : Rdr) (dr : Stg) (fa : Tal) (mi : Crs) (hn : 56 ≤ n) (hX : RX ad cy F pic sc ps sh rd dr fa mi) : Met l yX6_leave (zw yX6_leave cX6_leave 1 (some .int)) (rmL 0) (zPc D cy n ad F sz [.ref (ad 0)]) (va_Qi (fun r F1 => r = (if 0 < sc.2.2.2.1 then sc.2.2.2.1 - 1 else -3) ∧ RX ad cy F1 pic (if 0 < sc.2.2.2.1 then (sc.1, sc.2.1, sc.2.2.1, sc.2.2.2.1 - 1, sc.2.2.2.2) else sc) ps sh rd dr fa mi ∧ fr56 F F1) (zB D n ad) (zA n ad sz)) 0 0 (zA n ad sz) := by
  refine zmet (by decide +kernel) (Nat.le_of_ble_eq_true rfl) (fun p e s m args below meth c ls hC hsz hZ hA hr hlocks hnm hl => ?_)
  have hC : zC p m c cX6_leave 1 s args RX6 D cy := hC
  have hx := hC.1.1
  have hb := hC.1.2.1
  have hl : lv_has ls 1 [(0, .ref (ad 0))] := hl
  refine lv_aload_n hx hb dX6_leave_0 rfl (lv_at hl 0 rfl) ?_
  refine zget hC hZ fX6_10 (zlt hn rfl) hX.1 rfl dX6_leave_1 ?_
  refine zget hC hZ fX6_147 (zlt hn rfl) hX.2.1.1 rfl dX6_leave_4 ?_
  refine lv_if_gt (tgt := 13) hx hb dX6_leave_7 (by decide) (fun c_7 => ?_) (fun c_7 => ?_)
  · refine lv_aload_n hx hb dX6_leave_13 rfl (lv_at hl 0 rfl) ?_
    refine zget hC hZ fX6_10 (zlt hn rfl) hX.1 rfl dX6_leave_14 ?_
    refine lv_dup hx hb dX6_leave_17 rfl ?_
    refine zget hC hZ fX6_147 (zlt hn rfl) hX.2.1.1 rfl dX6_leave_18 ?_
    refine lv_iconst (v := 1) hx hb dX6_leave_21 (by decide) ?_
    refine lv_isub hx hb dX6_leave_22 ?_
    refine zput (E := oScene ad 1 sc.2.1 (sc.2.2.2.1 - 1)) hC hZ pX6_147 (zlt hn rfl) hX.2.1.1 rfl rfl rfl (Nat.le_of_ble_eq_true rfl) dX6_leave_23 (fun F_1 hF_2 H locs hZ => ?_)
    have hX_3 := rx_self hX hF_2
    have hf_4 := fr56_up fr56_rf hF_2 (by decide)
    have hX_3 : RX ad cy F_1 pic (sc.1, sc.2.1, sc.2.2.1, (sc.2.2.2.1 - 1), sc.2.2.2.2) ps sh rd dr fa mi := hX_3
    refine lv_aload_n hx hb dX6_leave_26 rfl (lv_at hl 0 rfl) ?_
    refine zget hC hZ fX6_10 (zlt hn rfl) hX_3.1 rfl dX6_leave_27 ?_
    refine zget hC hZ fX6_147 (zlt hn rfl) hX_3.2.1.1 rfl dX6_leave_30 ?_
    have hq0 : (sc.2.2.2.1 - 1) = if 0 < sc.2.2.2.1 then sc.2.2.2.1 - 1 else -3 := (if_pos c_7).symm
    have hq1 : (if 0 < sc.2.2.2.1 then (sc.1, sc.2.1, sc.2.2.1, sc.2.2.2.1 - 1, sc.2.2.2.2) else sc) = (sc.1, sc.2.1, sc.2.2.1, (sc.2.2.2.1 - 1), sc.2.2.2.2) := if_pos c_7
    exact zireti hC hZ hr hlocks ⟨hq0, by rw [hq1]; exact hX_3, hf_4⟩ dX6_leave_33
  · refine lv_bipush (v := (-3)) hx hb dX6_leave_10 (by decide) ?_
    have hq0 : (-3 : Int32) = if 0 < sc.2.2.2.1 then sc.2.2.2.1 - 1 else -3 := (if_neg c_7).symm
    have hq1 : (if 0 < sc.2.2.2.1 then (sc.1, sc.2.1, sc.2.2.1, sc.2.2.2.1 - 1, sc.2.2.2.2) else sc) = sc := if_neg c_7
    exact zireti hC hZ hr hlocks ⟨hq0, by rw [hq1]; exact hX, fr56_rf⟩ dX6_leave_12

theorem mX6_anew : zMd yX6_anew cX6_anew 2 (some .int) 0 := ⟨by decide +kernel, gt_of 416 (by decide +kernel) rfl, gt_of 45 (by decide +kernel) rfl, by decide⟩
theorem dX6_anew_0 : decode cX6_anew 0 = .ok (.aload_n 0, 1) := by decide +kernel
theorem dX6_anew_1 : decode cX6_anew 1 = .ok (.getfield 10, 3) := by decide +kernel
theorem dX6_anew_4 : decode cX6_anew 4 = .ok (.getfield 83, 3) := by decide +kernel
theorem dX6_anew_7 : decode cX6_anew 7 = .ok (.getfield 174, 3) := by decide +kernel
theorem fX6_174 : zFld RX6 174 0 0 := ⟨RX0, TX0, 5, rfl, inX0, by decide, rfl, Or.inr ⟨"ChainLeap", List.mem_of_getElem? (i := 115) (by decide +kernel)⟩⟩
theorem dX6_anew_10 : decode cX6_anew 10 = .ok (.istore_n 1, 1) := by decide +kernel
theorem dX6_anew_11 : decode cX6_anew 11 = .ok (.aload_n 0, 1) := by decide +kernel
theorem dX6_anew_12 : decode cX6_anew 12 = .ok (.getfield 10, 3) := by decide +kernel
theorem dX6_anew_15 : decode cX6_anew 15 = .ok (.getfield 83, 3) := by decide +kernel
theorem dX6_anew_18 : decode cX6_anew 18 = .ok (.invokevirtual 181, 3) := by decide +kernel
theorem kX6_181 : zLk RX6 181 yX0_clear := Or.inl (gt_of 417 (by decide +kernel) rfl)
theorem vX0_clear : zMi yX0_clear := ⟨gt_of 418 (by decide +kernel) rfl, gt_of 419 (by decide +kernel) rfl⟩
theorem dX6_anew_21 : decode cX6_anew 21 = .ok (.iload_n 1, 1) := by decide +kernel
theorem dX6_anew_22 : decode cX6_anew 22 = .ok (.ireturn, 1) := by decide +kernel
set_option maxRecDepth 100000 in
theorem c_X6_anew (l : Launch) (D : va_G) (cy : Nat → Nat) (n : Nat) (ad : Nat → Nat) (F : Nat → va_E) (sz : Nat) (pic : Int32) (sc ps : Scn) (sh : Nat → Shf) (rd : Rdr) (dr : Stg) (fa : Tal) (mi : Crs) (hn : 56 ≤ n) (hX : RX ad cy F pic sc ps sh rd dr fa mi) : Met l yX6_anew (zw yX6_anew cX6_anew 2 (some .int)) (rmL 1) (zPc D cy n ad F sz [.ref (ad 0)]) (va_Qi (fun r F1 => r = sc.2.2.2.2.1 ∧ RX ad cy F1 pic (sc.1, sc.2.1, sc.2.2.1, sc.2.2.2.1, sCC) ps sh rd dr fa mi ∧ fr56 F F1) (zB D n ad) (zA n ad sz)) 0 0 (zA n ad sz) := by
  refine zmet (by decide +kernel) (Nat.le_of_ble_eq_true rfl) (fun p e s m args below meth c ls hC hsz hZ hA hr hlocks hnm hl => ?_)
  have hC : zC p m c cX6_anew 2 s args RX6 D cy := hC
  have hx := hC.1.1
  have hb := hC.1.2.1
  have hl : lv_has ls 2 [(0, .ref (ad 0))] := hl
  refine lv_aload_n hx hb dX6_anew_0 rfl (lv_at hl 0 rfl) ?_
  refine zget hC hZ fX6_10 (zlt hn rfl) hX.1 rfl dX6_anew_1 ?_
  refine zget hC hZ fX6_83 (zlt hn rfl) hX.2.1.1 rfl dX6_anew_4 ?_
  refine zget hC hZ fX6_174 (zlt hn rfl) hX.2.1.2.2.2.1 rfl dX6_anew_7 ?_
  refine lv_istore_n (lv' := [(1, .int sc.2.2.2.2.1), (0, .ref (ad 0))]) hx hb dX6_anew_10 rfl hl (by decide) rfl (fun ls hl => ?_)
  refine lv_aload_n hx hb dX6_anew_11 rfl (lv_at hl 1 rfl) ?_
  refine zget hC hZ fX6_10 (zlt hn rfl) hX.1 rfl dX6_anew_12 ?_
  refine zget hC hZ fX6_83 (zlt hn rfl) hX.2.1.1 rfl dX6_anew_15 ?_
  refine zgov hZ hA (zrunV (As := []) (rest := []) (k := 4) hC hZ (c_X0_clear l D cy n ad F s.heap.size 4 sc.2.2.2.2 (zlt hn rfl) hX.2.1.2.2.2.1) mX0_clear vX0_clear kX6_181 (zRj_of rfl) (zlt hn rfl) hX.2.1.2.2.2.1 rfl rfl hl.1 rfl (Nat.le_of_ble_eq_true rfl) dX6_anew_18 ⟨Nat.le_refl _, Nat.le_refl _⟩) (fun F_1 hp_3 H locs hZ => ?_)
  have hX_4 := rx_course hX hp_3
  have hf_5 := fr56_up fr56_rf hp_3 (by decide)
  have hX_4 : RX ad cy F_1 pic (sc.1, sc.2.1, sc.2.2.1, sc.2.2.2.1, (0, 0, 0, 0, 0)) ps sh rd dr fa mi := hX_4
  refine lv_iload_n hx hb dX6_anew_21 rfl (lv_at hl 0 rfl) ?_
  exact zireti hC hZ hr hlocks ⟨rfl, hX_4, hf_5⟩ dX6_anew_22

theorem mX6_state : zMd yX6_state cX6_state 2 (some .int) 1 := ⟨by decide +kernel, gt_of 424 (by decide +kernel) rfl, gt_of 45 (by decide +kernel) rfl, by decide⟩
theorem dX6_state_0 : decode cX6_state 0 = .ok (.iload_n 1, 1) := by decide +kernel
theorem dX6_state_1 : decode cX6_state 1 = .ok (.tableswitch 110 0 5 #[39, 50, 61, 72, 83, 94], 39) := by decide +kernel
theorem dX6_state_40 : decode cX6_state 40 = .ok (.aload_n 0, 1) := by decide +kernel
theorem dX6_state_41 : decode cX6_state 41 = .ok (.getfield 10, 3) := by decide +kernel
theorem dX6_state_44 : decode cX6_state 44 = .ok (.getfield 83, 3) := by decide +kernel
theorem dX6_state_47 : decode cX6_state 47 = .ok (.getfield 174, 3) := by decide +kernel
theorem dX6_state_50 : decode cX6_state 50 = .ok (.ireturn, 1) := by decide +kernel
theorem dX6_state_51 : decode cX6_state 51 = .ok (.aload_n 0, 1) := by decide +kernel
theorem dX6_state_52 : decode cX6_state 52 = .ok (.getfield 10, 3) := by decide +kernel
theorem dX6_state_55 : decode cX6_state 55 = .ok (.getfield 83, 3) := by decide +kernel
theorem dX6_state_58 : decode cX6_state 58 = .ok (.getfield 184, 3) := by decide +kernel
theorem fX6_184 : zFld RX6 184 0 1 := ⟨RX0, TX0, 5, rfl, inX0, by decide, rfl, Or.inr ⟨"ChainLeap", List.mem_of_getElem? (i := 117) (by decide +kernel)⟩⟩
theorem dX6_state_61 : decode cX6_state 61 = .ok (.ireturn, 1) := by decide +kernel
theorem dX6_state_62 : decode cX6_state 62 = .ok (.aload_n 0, 1) := by decide +kernel
theorem dX6_state_63 : decode cX6_state 63 = .ok (.getfield 10, 3) := by decide +kernel
theorem dX6_state_66 : decode cX6_state 66 = .ok (.getfield 83, 3) := by decide +kernel
theorem dX6_state_69 : decode cX6_state 69 = .ok (.getfield 187, 3) := by decide +kernel
theorem fX6_187 : zFld RX6 187 0 2 := ⟨RX0, TX0, 5, rfl, inX0, by decide, rfl, Or.inr ⟨"ChainLeap", List.mem_of_getElem? (i := 119) (by decide +kernel)⟩⟩
theorem dX6_state_72 : decode cX6_state 72 = .ok (.ireturn, 1) := by decide +kernel
theorem dX6_state_73 : decode cX6_state 73 = .ok (.aload_n 0, 1) := by decide +kernel
theorem dX6_state_74 : decode cX6_state 74 = .ok (.getfield 10, 3) := by decide +kernel
theorem dX6_state_77 : decode cX6_state 77 = .ok (.getfield 83, 3) := by decide +kernel
theorem dX6_state_80 : decode cX6_state 80 = .ok (.getfield 86, 3) := by decide +kernel
theorem dX6_state_83 : decode cX6_state 83 = .ok (.ireturn, 1) := by decide +kernel
theorem dX6_state_84 : decode cX6_state 84 = .ok (.aload_n 0, 1) := by decide +kernel
theorem dX6_state_85 : decode cX6_state 85 = .ok (.getfield 10, 3) := by decide +kernel
theorem dX6_state_88 : decode cX6_state 88 = .ok (.getfield 83, 3) := by decide +kernel
theorem dX6_state_91 : decode cX6_state 91 = .ok (.getfield 190, 3) := by decide +kernel
theorem fX6_190 : zFld RX6 190 0 4 := ⟨RX0, TX0, 5, rfl, inX0, by decide, rfl, Or.inr ⟨"ChainLeap", List.mem_of_getElem? (i := 124) (by decide +kernel)⟩⟩
theorem dX6_state_94 : decode cX6_state 94 = .ok (.ireturn, 1) := by decide +kernel
theorem dX6_state_95 : decode cX6_state 95 = .ok (.aload_n 0, 1) := by decide +kernel
theorem dX6_state_96 : decode cX6_state 96 = .ok (.getfield 10, 3) := by decide +kernel
theorem dX6_state_99 : decode cX6_state 99 = .ok (.invokevirtual 193, 3) := by decide +kernel
theorem kX6_193 : zLk RX6 193 yX2_isDone := Or.inl (gt_of 425 (by decide +kernel) rfl)
theorem vX2_isDone : zMi yX2_isDone := ⟨gt_of 426 (by decide +kernel) rfl, gt_of 427 (by decide +kernel) rfl⟩
theorem dX6_state_102 : decode cX6_state 102 = .ok (.ifCond .eq 7, 3) := by decide +kernel
theorem dX6_state_105 : decode cX6_state 105 = .ok (.iconst 1, 1) := by decide +kernel
theorem dX6_state_106 : decode cX6_state 106 = .ok (.goto 4, 3) := by decide +kernel
theorem dX6_state_110 : decode cX6_state 110 = .ok (.ireturn, 1) := by decide +kernel
theorem dX6_state_109 : decode cX6_state 109 = .ok (.iconst 0, 1) := by decide +kernel
theorem dX6_state_111 : decode cX6_state 111 = .ok (.iconst (-1), 1) := by decide +kernel
theorem dX6_state_112 : decode cX6_state 112 = .ok (.ireturn, 1) := by decide +kernel
set_option maxRecDepth 100000 in
theorem c_X6_state (l : Launch) (D : va_G) (cy : Nat → Nat) (n : Nat) (ad : Nat → Nat) (F : Nat → va_E) (sz : Nat) (pic : Int32) (sc ps : Scn) (sh : Nat → Shf) (rd : Rdr) (dr : Stg) (fa : Tal) (mi : Crs) (hn : 56 ≤ n) (hX : RX ad cy F pic sc ps sh rd dr fa mi) (what : Int32) : Met l yX6_state (zw yX6_state cX6_state 2 (some .int)) (rmL 1) (zPc D cy n ad F sz [.ref (ad 0), .int what]) (va_Qi (fun r F1 => r = sState sc what ∧ F = F1) (zB D n ad) (zA n ad sz)) 0 0 (zA n ad sz) := by
  refine zmet (by decide +kernel) (Nat.le_of_ble_eq_true rfl) (fun p e s m args below meth c ls hC hsz hZ hA hr hlocks hnm hl => ?_)
  have hC : zC p m c cX6_state 2 s args RX6 D cy := hC
  have hx := hC.1.1
  have hb := hC.1.2.1
  have hl : lv_has ls 2 [(0, .ref (ad 0)), (1, .int what)] := hl
  refine lv_iload_n hx hb dX6_state_0 rfl (lv_at hl 1 rfl) ?_
  by_cases c_1_0 : what = 0
  · refine lv_tableIn (off := 39) (tgt := 40) hx hb dX6_state_1 (by rw [c_1_0]; decide) (by rw [c_1_0]; decide) (by rw [c_1_0]; rfl) (by decide) ?_
    refine lv_aload_n hx hb dX6_state_40 rfl (lv_at hl 0 rfl) ?_
    refine zget hC hZ fX6_10 (zlt hn rfl) hX.1 rfl dX6_state_41 ?_
    refine zget hC hZ fX6_83 (zlt hn rfl) hX.2.1.1 rfl dX6_state_44 ?_
    refine zget hC hZ fX6_174 (zlt hn rfl) hX.2.1.2.2.2.1 rfl dX6_state_47 ?_
    have hq_1 : sc.2.2.2.2.1 = sState sc what := by first | rfl | simp [sState, c_1_0] | (simp only [sState]; simp [c_1_0])
    exact zireti hC hZ hr hlocks ⟨hq_1, rfl⟩ dX6_state_50
  · by_cases c_1_1 : what = 1
    · refine lv_tableIn (off := 50) (tgt := 51) hx hb dX6_state_1 (by rw [c_1_1]; decide) (by rw [c_1_1]; decide) (by rw [c_1_1]; rfl) (by decide) ?_
      refine lv_aload_n hx hb dX6_state_51 rfl (lv_at hl 0 rfl) ?_
      refine zget hC hZ fX6_10 (zlt hn rfl) hX.1 rfl dX6_state_52 ?_
      refine zget hC hZ fX6_83 (zlt hn rfl) hX.2.1.1 rfl dX6_state_55 ?_
      refine zget hC hZ fX6_184 (zlt hn rfl) hX.2.1.2.2.2.1 rfl dX6_state_58 ?_
      have hq_2 : sc.2.2.2.2.2.1 = sState sc what := by first | rfl | simp [sState, c_1_0, c_1_1] | (simp only [sState]; simp [c_1_0, c_1_1])
      exact zireti hC hZ hr hlocks ⟨hq_2, rfl⟩ dX6_state_61
    · by_cases c_1_2 : what = 2
      · refine lv_tableIn (off := 61) (tgt := 62) hx hb dX6_state_1 (by rw [c_1_2]; decide) (by rw [c_1_2]; decide) (by rw [c_1_2]; rfl) (by decide) ?_
        refine lv_aload_n hx hb dX6_state_62 rfl (lv_at hl 0 rfl) ?_
        refine zget hC hZ fX6_10 (zlt hn rfl) hX.1 rfl dX6_state_63 ?_
        refine zget hC hZ fX6_83 (zlt hn rfl) hX.2.1.1 rfl dX6_state_66 ?_
        refine zget hC hZ fX6_187 (zlt hn rfl) hX.2.1.2.2.2.1 rfl dX6_state_69 ?_
        have hq_3 : sc.2.2.2.2.2.2.1 = sState sc what := by first | rfl | simp [sState, c_1_0, c_1_1, c_1_2] | (simp only [sState]; simp [c_1_0, c_1_1, c_1_2])
        exact zireti hC hZ hr hlocks ⟨hq_3, rfl⟩ dX6_state_72
      · by_cases c_1_3 : what = 3
        · refine lv_tableIn (off := 72) (tgt := 73) hx hb dX6_state_1 (by rw [c_1_3]; decide) (by rw [c_1_3]; decide) (by rw [c_1_3]; rfl) (by decide) ?_
          refine lv_aload_n hx hb dX6_state_73 rfl (lv_at hl 0 rfl) ?_
          refine zget hC hZ fX6_10 (zlt hn rfl) hX.1 rfl dX6_state_74 ?_
          refine zget hC hZ fX6_83 (zlt hn rfl) hX.2.1.1 rfl dX6_state_77 ?_
          refine zget hC hZ fX6_86 (zlt hn rfl) hX.2.1.2.2.2.1 rfl dX6_state_80 ?_
          have hq_4 : sc.2.2.2.2.2.2.2.1 = sState sc what := by first | rfl | simp [sState, c_1_0, c_1_1, c_1_2, c_1_3] | (simp only [sState]; simp [c_1_0, c_1_1, c_1_2, c_1_3])
          exact zireti hC hZ hr hlocks ⟨hq_4, rfl⟩ dX6_state_83
        · by_cases c_1_4 : what = 4
          · refine lv_tableIn (off := 83) (tgt := 84) hx hb dX6_state_1 (by rw [c_1_4]; decide) (by rw [c_1_4]; decide) (by rw [c_1_4]; rfl) (by decide) ?_
            refine lv_aload_n hx hb dX6_state_84 rfl (lv_at hl 0 rfl) ?_
            refine zget hC hZ fX6_10 (zlt hn rfl) hX.1 rfl dX6_state_85 ?_
            refine zget hC hZ fX6_83 (zlt hn rfl) hX.2.1.1 rfl dX6_state_88 ?_
            refine zget hC hZ fX6_190 (zlt hn rfl) hX.2.1.2.2.2.1 rfl dX6_state_91 ?_
            have hq_5 : sc.2.2.2.2.2.2.2.2 = sState sc what := by first | rfl | simp [sState, c_1_0, c_1_1, c_1_2, c_1_3, c_1_4] | (simp only [sState]; simp [c_1_0, c_1_1, c_1_2, c_1_3, c_1_4])
            exact zireti hC hZ hr hlocks ⟨hq_5, rfl⟩ dX6_state_94
          · by_cases c_1_5 : what = 5
            · refine lv_tableIn (off := 94) (tgt := 95) hx hb dX6_state_1 (by rw [c_1_5]; decide) (by rw [c_1_5]; decide) (by rw [c_1_5]; rfl) (by decide) ?_
              refine lv_aload_n hx hb dX6_state_95 rfl (lv_at hl 0 rfl) ?_
              refine zget hC hZ fX6_10 (zlt hn rfl) hX.1 rfl dX6_state_96 ?_
              refine zgoi hZ hA (zrunV (As := []) (rest := []) (k := 1) hC hZ (c_X2_isDone l D cy n ad F s.heap.size 1 sc (by omega) hX.2.1) mX2_isDone vX2_isDone kX6_193 (zRj_of rfl) (zlt hn rfl) hX.2.1.1 rfl rfl hl.1 rfl (Nat.le_of_ble_eq_true rfl) dX6_state_99 ⟨Nat.le_refl _, Nat.le_refl _⟩) (fun r_7 F_6 hp_8 H locs hZ => ?_)
              obtain ⟨hp_8, rfl⟩ := hp_8
              by_cases b_9 : sc.2.1 ≤ sc.2.2.2.2.2.2.2.1
              · rw [if_pos b_9] at hp_8
                subst hp_8
                refine lv_if_eq (tgt := 109) hx hb dX6_state_102 (by decide) (fun h => absurd (show (1 : Int32) = 0 from h) (by decide)) (fun _ => ?_)
                refine lv_iconst (v := 1) hx hb dX6_state_105 (by decide) ?_
                refine lv_goto (tgt := 110) hx hb dX6_state_106 (by decide) ?_
                have hq_10 : (1 : Int32) = sState sc what := by first | rfl | simp [sState, c_1_0, c_1_1, c_1_2, c_1_3, c_1_4, c_1_5, b_9] | (simp only [sState]; simp [c_1_0, c_1_1, c_1_2, c_1_3, c_1_4, c_1_5, b_9])
                exact zireti hC hZ hr hlocks ⟨hq_10, rfl⟩ dX6_state_110
              · rw [if_neg b_9] at hp_8
                subst hp_8
                refine lv_if_eq (tgt := 109) hx hb dX6_state_102 (by decide) (fun _ => ?_) (fun h => absurd (show (0 : Int32) = 0 by decide) h)
                refine lv_iconst (v := 0) hx hb dX6_state_109 (by decide) ?_
                have hq_11 : (0 : Int32) = sState sc what := by first | rfl | simp [sState, c_1_0, c_1_1, c_1_2, c_1_3, c_1_4, c_1_5, b_9] | (simp only [sState]; simp [c_1_0, c_1_1, c_1_2, c_1_3, c_1_4, c_1_5, b_9])
                exact zireti hC hZ hr hlocks ⟨hq_11, rfl⟩ dX6_state_110
            · refine lv_tableOut (tgt := 111) hx hb dX6_state_1 (by have e0 : ¬ what.toInt = 0 := lv_neT (k := 0) c_1_0 rfl; have e1 : ¬ what.toInt = 1 := lv_neT (k := 1) c_1_1 rfl; have e2 : ¬ what.toInt = 2 := lv_neT (k := 2) c_1_2 rfl; have e3 : ¬ what.toInt = 3 := lv_neT (k := 3) c_1_3 rfl; have e4 : ¬ what.toInt = 4 := lv_neT (k := 4) c_1_4 rfl; have e5 : ¬ what.toInt = 5 := lv_neT (k := 5) c_1_5 rfl; omega) (by decide) ?_
              refine lv_iconst (v := (-1)) hx hb dX6_state_111 (by decide) ?_
              have hq_12 : (-1 : Int32) = sState sc what := by first | rfl | simp [sState, c_1_0, c_1_1, c_1_2, c_1_3, c_1_4, c_1_5] | (simp only [sState]; simp [c_1_0, c_1_1, c_1_2, c_1_3, c_1_4, c_1_5])
              exact zireti hC hZ hr hlocks ⟨hq_12, rfl⟩ dX6_state_112

theorem mX6_count : zMd yX6_count cX6_count 2 (some .int) 1 := ⟨by decide +kernel, gt_of 563 (by decide +kernel) rfl, gt_of 45 (by decide +kernel) rfl, by decide⟩
theorem dX6_count_0 : decode cX6_count 0 = .ok (.iload_n 1, 1) := by decide +kernel
theorem dX6_count_1 : decode cX6_count 1 = .ok (.iconst 0, 1) := by decide +kernel
theorem dX6_count_2 : decode cX6_count 2 = .ok (.iconst 5, 1) := by decide +kernel
theorem dX6_count_3 : decode cX6_count 3 = .ok (.invokestatic 111, 3) := by decide +kernel
theorem dX6_count_6 : decode cX6_count 6 = .ok (.ifCond .ne 5, 3) := by decide +kernel
theorem dX6_count_11 : decode cX6_count 11 = .ok (.iload_n 1, 1) := by decide +kernel
theorem dX6_count_12 : decode cX6_count 12 = .ok (.ifCond .ne 13, 3) := by decide +kernel
theorem dX6_count_25 : decode cX6_count 25 = .ok (.aload_n 0, 1) := by decide +kernel
theorem dX6_count_26 : decode cX6_count 26 = .ok (.iload_n 1, 1) := by decide +kernel
theorem dX6_count_27 : decode cX6_count 27 = .ok (.iconst 1, 1) := by decide +kernel
theorem dX6_count_28 : decode cX6_count 28 = .ok (.isub, 1) := by decide +kernel
theorem dX6_count_29 : decode cX6_count 29 = .ok (.invokevirtual 89, 3) := by decide +kernel
theorem dX6_count_32 : decode cX6_count 32 = .ok (.ireturn, 1) := by decide +kernel
theorem dX6_count_15 : decode cX6_count 15 = .ok (.aload_n 0, 1) := by decide +kernel
theorem dX6_count_16 : decode cX6_count 16 = .ok (.getfield 10, 3) := by decide +kernel
theorem dX6_count_19 : decode cX6_count 19 = .ok (.getfield 147, 3) := by decide +kernel
theorem dX6_count_22 : decode cX6_count 22 = .ok (.goto 10, 3) := by decide +kernel
theorem dX6_count_9 : decode cX6_count 9 = .ok (.iconst (-1), 1) := by decide +kernel
theorem dX6_count_10 : decode cX6_count 10 = .ok (.ireturn, 1) := by decide +kernel
set_option maxRecDepth 100000 in
theorem c_X6_count (l : Launch) (D : va_G) (cy : Nat → Nat) (n : Nat) (ad : Nat → Nat) (F : Nat → va_E) (sz : Nat) (pic : Int32) (sc ps : Scn) (sh : Nat → Shf) (rd : Rdr) (dr : Stg) (fa : Tal) (mi : Crs) (hn : 56 ≤ n) (hX : RX ad cy F pic sc ps sh rd dr fa mi) (what : Int32) : Met l yX6_count (zw yX6_count cX6_count 2 (some .int)) (rmL 1) (zPc D cy n ad F sz [.ref (ad 0), .int what]) (va_Qi (fun r F1 => r = (if bIn what 0 5 then (if what = 0 then sc.2.2.2.1 else sCh sc (what - 1)) else -1) ∧ F = F1) (zB D n ad) (zA n ad sz)) 0 0 (zA n ad sz) := by
  refine zmet (by decide +kernel) (Nat.le_of_ble_eq_true rfl) (fun p e s m args below meth c ls hC hsz hZ hA hr hlocks hnm hl => ?_)
  have hC : zC p m c cX6_count 2 s args RX6 D cy := hC
  have hx := hC.1.1
  have hb := hC.1.2.1
  have hl : lv_has ls 2 [(0, .ref (ad 0)), (1, .int what)] := hl
  refine lv_iload_n hx hb dX6_count_0 rfl (lv_at hl 1 rfl) ?_
  refine lv_iconst (v := 0) hx hb dX6_count_1 (by decide) ?_
  refine lv_iconst (v := 5) hx hb dX6_count_2 (by decide) ?_
  refine zgoi hZ hA (zrunS (As := [.int what, .int 0, .int 5]) (rest := []) hC hZ (c_X6_isWithin l D cy n ad F s.heap.size what 0 5) mX6_isWithin sX6_isWithin kX6_111 (zRj_of rfl) rfl hl.1 rfl (Nat.le_of_ble_eq_true rfl) dX6_count_3 ⟨Nat.le_refl _, Nat.le_refl _⟩) (fun r_2 F_1 hp_3 H locs hZ => ?_)
  obtain ⟨hp_3, rfl⟩ := hp_3
  by_cases b_4 : bIn what 0 5
  · rw [if_pos b_4] at hp_3
    subst hp_3
    refine lv_if_ne (tgt := 11) hx hb dX6_count_6 (by decide) (fun _ => ?_) (fun h => absurd (show (1 : Int32) = 0 from h) (by decide))
    refine lv_iload_n hx hb dX6_count_11 rfl (lv_at hl 1 rfl) ?_
    refine lv_if_ne (tgt := 25) hx hb dX6_count_12 (by decide) (fun c_12 => ?_) (fun c_12 => ?_)
    · refine lv_aload_n hx hb dX6_count_25 rfl (lv_at hl 0 rfl) ?_
      refine lv_iload_n hx hb dX6_count_26 rfl (lv_at hl 1 rfl) ?_
      refine lv_iconst (v := 1) hx hb dX6_count_27 (by decide) ?_
      refine lv_isub hx hb dX6_count_28 ?_
      refine zgoi hZ hA (zrunV (As := [.int (what - 1)]) (rest := []) (k := 0) hC hZ (c_X6_chainNumber l D cy n ad F H.size pic sc ps sh rd dr fa mi hn hX (what - 1)) mX6_chainNumber vX6_chainNumber kX6_89 (zRj_of rfl) (zlt hn rfl) hX.1 rfl rfl hl.1 rfl (Nat.le_of_ble_eq_true rfl) dX6_count_29 ⟨Nat.le_refl _, Nat.le_refl _⟩) (fun r_6 F_5 hp_7 H locs hZ => ?_)
      obtain ⟨rfl, rfl⟩ := hp_7
      have hq_8 : (sCh sc (what - 1)) = (if bIn what 0 5 then (if what = 0 then sc.2.2.2.1 else sCh sc (what - 1)) else -1) := by first | rfl | simp [b_4, c_12] | (simp only [id]; simp [b_4, c_12])
      exact zireti hC hZ hr hlocks ⟨hq_8, rfl⟩ dX6_count_32
    · refine lv_aload_n hx hb dX6_count_15 rfl (lv_at hl 0 rfl) ?_
      refine zget hC hZ fX6_10 (zlt hn rfl) hX.1 rfl dX6_count_16 ?_
      refine zget hC hZ fX6_147 (zlt hn rfl) hX.2.1.1 rfl dX6_count_19 ?_
      refine lv_goto (tgt := 32) hx hb dX6_count_22 (by decide) ?_
      have hq_9 : sc.2.2.2.1 = (if bIn what 0 5 then (if what = 0 then sc.2.2.2.1 else sCh sc (what - 1)) else -1) := by first | rfl | simp [b_4, c_12] | (simp only [id]; simp [b_4, c_12])
      exact zireti hC hZ hr hlocks ⟨hq_9, rfl⟩ dX6_count_32
  · rw [if_neg b_4] at hp_3
    subst hp_3
    refine lv_if_ne (tgt := 11) hx hb dX6_count_6 (by decide) (fun h => absurd (show (0 : Int32) = 0 by decide) h) (fun _ => ?_)
    refine lv_iconst (v := (-1)) hx hb dX6_count_9 (by decide) ?_
    have hq_10 : (-1 : Int32) = (if bIn what 0 5 then (if what = 0 then sc.2.2.2.1 else sCh sc (what - 1)) else -1) := by first | rfl | simp [b_4] | (simp only [id]; simp [b_4])
    exact zireti hC hZ hr hlocks ⟨hq_10, rfl⟩ dX6_count_10

theorem mX6_tryOf : zMd yX6_tryOf cX6_tryOf 4 (some .int) 2 := ⟨by decide +kernel, gt_of 352 (by decide +kernel) rfl, gt_of 45 (by decide +kernel) rfl, by decide⟩
theorem dX6_tryOf_0 : decode cX6_tryOf 0 = .ok (.aload_n 0, 1) := by decide +kernel
theorem dX6_tryOf_1 : decode cX6_tryOf 1 = .ok (.getfield 10, 3) := by decide +kernel
theorem dX6_tryOf_4 : decode cX6_tryOf 4 = .ok (.iload_n 1, 1) := by decide +kernel
theorem dX6_tryOf_5 : decode cX6_tryOf 5 = .ok (.invokevirtual 150, 3) := by decide +kernel
theorem kX6_150 : zLk RX6 150 yX2_hasTry := Or.inl (gt_of 353 (by decide +kernel) rfl)
theorem vX2_hasTry : zMi yX2_hasTry := ⟨gt_of 354 (by decide +kernel) rfl, gt_of 355 (by decide +kernel) rfl⟩
theorem dX6_tryOf_8 : decode cX6_tryOf 8 = .ok (.ifCond .ne 5, 3) := by decide +kernel
theorem dX6_tryOf_13 : decode cX6_tryOf 13 = .ok (.aload_n 0, 1) := by decide +kernel
theorem dX6_tryOf_14 : decode cX6_tryOf 14 = .ok (.getfield 10, 3) := by decide +kernel
theorem dX6_tryOf_17 : decode cX6_tryOf 17 = .ok (.getfield 153, 3) := by decide +kernel
theorem fX6_153 : zFld RX6 153 2 2 := ⟨RX2, TX2, 5, rfl, inX2, by decide, rfl, Or.inr ⟨"ChainLeap", List.mem_of_getElem? (i := 141) (by decide +kernel)⟩⟩
theorem dX6_tryOf_20 : decode cX6_tryOf 20 = .ok (.iload_n 1, 1) := by decide +kernel
theorem dX6_tryOf_21 : decode cX6_tryOf 21 = .ok (.aaload, 1) := by decide +kernel
theorem dX6_tryOf_22 : decode cX6_tryOf 22 = .ok (.astore_n 3, 1) := by decide +kernel
theorem dX6_tryOf_23 : decode cX6_tryOf 23 = .ok (.iload_n 2, 1) := by decide +kernel
theorem dX6_tryOf_24 : decode cX6_tryOf 24 = .ok (.tableswitch 52 0 3 #[32, 37, 42, 47], 32) := by decide +kernel
theorem dX6_tryOf_56 : decode cX6_tryOf 56 = .ok (.aload_n 3, 1) := by decide +kernel
theorem dX6_tryOf_57 : decode cX6_tryOf 57 = .ok (.getfield 96, 3) := by decide +kernel
theorem dX6_tryOf_60 : decode cX6_tryOf 60 = .ok (.ireturn, 1) := by decide +kernel
theorem dX6_tryOf_61 : decode cX6_tryOf 61 = .ok (.aload_n 3, 1) := by decide +kernel
theorem dX6_tryOf_62 : decode cX6_tryOf 62 = .ok (.getfield 99, 3) := by decide +kernel
theorem dX6_tryOf_65 : decode cX6_tryOf 65 = .ok (.ireturn, 1) := by decide +kernel
theorem dX6_tryOf_66 : decode cX6_tryOf 66 = .ok (.aload_n 3, 1) := by decide +kernel
theorem dX6_tryOf_67 : decode cX6_tryOf 67 = .ok (.getfield 102, 3) := by decide +kernel
theorem dX6_tryOf_70 : decode cX6_tryOf 70 = .ok (.ireturn, 1) := by decide +kernel
theorem dX6_tryOf_71 : decode cX6_tryOf 71 = .ok (.aload_n 3, 1) := by decide +kernel
theorem dX6_tryOf_72 : decode cX6_tryOf 72 = .ok (.getfield 108, 3) := by decide +kernel
theorem dX6_tryOf_75 : decode cX6_tryOf 75 = .ok (.ireturn, 1) := by decide +kernel
theorem dX6_tryOf_76 : decode cX6_tryOf 76 = .ok (.iconst (-1), 1) := by decide +kernel
theorem dX6_tryOf_77 : decode cX6_tryOf 77 = .ok (.ireturn, 1) := by decide +kernel
theorem dX6_tryOf_11 : decode cX6_tryOf 11 = .ok (.iconst (-1), 1) := by decide +kernel
theorem dX6_tryOf_12 : decode cX6_tryOf 12 = .ok (.ireturn, 1) := by decide +kernel
set_option maxRecDepth 100000 in
theorem c_X6_tryOf (l : Launch) (D : va_G) (cy : Nat → Nat) (n : Nat) (ad : Nat → Nat) (F : Nat → va_E) (sz : Nat) (pic : Int32) (sc ps : Scn) (sh : Nat → Shf) (rd : Rdr) (dr : Stg) (fa : Tal) (mi : Crs) (hn : 56 ≤ n) (hX : RX ad cy F pic sc ps sh rd dr fa mi) (i what : Int32) : Met l yX6_tryOf (zw yX6_tryOf cX6_tryOf 4 (some .int)) (rmL 1) (zPc D cy n ad F sz [.ref (ad 0), .int i, .int what]) (va_Qi (fun r F1 => r = (if bTry sc.2.2.2.1 i then (if what = 0 then (sc.2.2.1 (iN i)).1 else if what = 1 then (sc.2.2.1 (iN i)).2.1 else if what = 2 then (sc.2.2.1 (iN i)).2.2.1 else if what = 3 then (sc.2.2.1 (iN i)).2.2.2 else -1) else -1) ∧ F = F1) (zB D n ad) (zA n ad sz)) 0 0 (zA n ad sz) := by
  refine zmet (by decide +kernel) (Nat.le_of_ble_eq_true rfl) (fun p e s m args below meth c ls hC hsz hZ hA hr hlocks hnm hl => ?_)
  have hC : zC p m c cX6_tryOf 4 s args RX6 D cy := hC
  have hx := hC.1.1
  have hb := hC.1.2.1
  have hl : lv_has ls 4 [(0, .ref (ad 0)), (1, .int i), (2, .int what)] := hl
  refine lv_aload_n hx hb dX6_tryOf_0 rfl (lv_at hl 0 rfl) ?_
  refine zget hC hZ fX6_10 (zlt hn rfl) hX.1 rfl dX6_tryOf_1 ?_
  refine lv_iload_n hx hb dX6_tryOf_4 rfl (lv_at hl 1 rfl) ?_
  refine zgoi hZ hA (zrunV (As := [.int i]) (rest := []) (k := 1) hC hZ (c_X2_hasTry l D cy n ad F s.heap.size 1 sc (by omega) hX.2.1 i) mX2_hasTry vX2_hasTry kX6_150 (zRj_of rfl) (zlt hn rfl) hX.2.1.1 rfl rfl hl.1 rfl (Nat.le_of_ble_eq_true rfl) dX6_tryOf_5 ⟨Nat.le_refl _, Nat.le_refl _⟩) (fun r_2 F_1 hp_3 H locs hZ => ?_)
  obtain ⟨hp_3, rfl⟩ := hp_3
  by_cases b_4 : bTry sc.2.2.2.1 i
  · rw [if_pos b_4] at hp_3
    subst hp_3
    refine lv_if_ne (tgt := 13) hx hb dX6_tryOf_8 (by decide) (fun _ => ?_) (fun h => absurd (show (1 : Int32) = 0 from h) (by decide))
    refine lv_aload_n hx hb dX6_tryOf_13 rfl (lv_at hl 0 rfl) ?_
    refine zget hC hZ fX6_10 (zlt hn rfl) hX.1 rfl dX6_tryOf_14 ?_
    refine zget hC hZ fX6_153 (zlt hn rfl) hX.2.1.1 rfl dX6_tryOf_17 ?_
    refine lv_iload_n hx hb dX6_tryOf_20 rfl (lv_at hl 1 rfl) ?_
    have ht_5 := iN_at (N := 8) b_4.1 b_4.2.2 rfl
    refine zaald hC hZ (zlt hn rfl) hX.2.1.2.2.1 (C := RX3) rfl ht_5.1 ht_5.2 (by decide) rfl dX6_tryOf_21 ?_
    refine lv_astore_n (lv' := [(3, .ref (ad (5 + (iN i)))), (0, .ref (ad 0)), (1, .int i), (2, .int what)]) hx hb dX6_tryOf_22 rfl hl (by decide) rfl (fun ls hl => ?_)
    refine lv_iload_n hx hb dX6_tryOf_23 rfl (lv_at hl 3 rfl) ?_
    by_cases c_24_0 : what = 0
    · refine lv_tableIn (off := 32) (tgt := 56) hx hb dX6_tryOf_24 (by rw [c_24_0]; decide) (by rw [c_24_0]; decide) (by rw [c_24_0]; rfl) (by decide) ?_
      refine lv_aload_n hx hb dX6_tryOf_56 rfl (lv_at hl 0 rfl) ?_
      refine zget hC hZ fX6_96 (by have := ht_5.2; omega) (hX.2.1.2.2.2.2 (iN i) ht_5.2) rfl dX6_tryOf_57 ?_
      have hq_6 : (sc.2.2.1 (iN i)).1 = (if bTry sc.2.2.2.1 i then (if what = 0 then (sc.2.2.1 (iN i)).1 else if what = 1 then (sc.2.2.1 (iN i)).2.1 else if what = 2 then (sc.2.2.1 (iN i)).2.2.1 else if what = 3 then (sc.2.2.1 (iN i)).2.2.2 else -1) else -1) := by first | rfl | simp [b_4, c_24_0] | (simp only [id]; simp [b_4, c_24_0])
      exact zireti hC hZ hr hlocks ⟨hq_6, rfl⟩ dX6_tryOf_60
    · by_cases c_24_1 : what = 1
      · refine lv_tableIn (off := 37) (tgt := 61) hx hb dX6_tryOf_24 (by rw [c_24_1]; decide) (by rw [c_24_1]; decide) (by rw [c_24_1]; rfl) (by decide) ?_
        refine lv_aload_n hx hb dX6_tryOf_61 rfl (lv_at hl 0 rfl) ?_
        refine zget hC hZ fX6_99 (by have := ht_5.2; omega) (hX.2.1.2.2.2.2 (iN i) ht_5.2) rfl dX6_tryOf_62 ?_
        have hq_7 : (sc.2.2.1 (iN i)).2.1 = (if bTry sc.2.2.2.1 i then (if what = 0 then (sc.2.2.1 (iN i)).1 else if what = 1 then (sc.2.2.1 (iN i)).2.1 else if what = 2 then (sc.2.2.1 (iN i)).2.2.1 else if what = 3 then (sc.2.2.1 (iN i)).2.2.2 else -1) else -1) := by first | rfl | simp [b_4, c_24_0, c_24_1] | (simp only [id]; simp [b_4, c_24_0, c_24_1])
        exact zireti hC hZ hr hlocks ⟨hq_7, rfl⟩ dX6_tryOf_65
      · by_cases c_24_2 : what = 2
        · refine lv_tableIn (off := 42) (tgt := 66) hx hb dX6_tryOf_24 (by rw [c_24_2]; decide) (by rw [c_24_2]; decide) (by rw [c_24_2]; rfl) (by decide) ?_
          refine lv_aload_n hx hb dX6_tryOf_66 rfl (lv_at hl 0 rfl) ?_
          refine zget hC hZ fX6_102 (by have := ht_5.2; omega) (hX.2.1.2.2.2.2 (iN i) ht_5.2) rfl dX6_tryOf_67 ?_
          have hq_8 : (sc.2.2.1 (iN i)).2.2.1 = (if bTry sc.2.2.2.1 i then (if what = 0 then (sc.2.2.1 (iN i)).1 else if what = 1 then (sc.2.2.1 (iN i)).2.1 else if what = 2 then (sc.2.2.1 (iN i)).2.2.1 else if what = 3 then (sc.2.2.1 (iN i)).2.2.2 else -1) else -1) := by first | rfl | simp [b_4, c_24_0, c_24_1, c_24_2] | (simp only [id]; simp [b_4, c_24_0, c_24_1, c_24_2])
          exact zireti hC hZ hr hlocks ⟨hq_8, rfl⟩ dX6_tryOf_70
        · by_cases c_24_3 : what = 3
          · refine lv_tableIn (off := 47) (tgt := 71) hx hb dX6_tryOf_24 (by rw [c_24_3]; decide) (by rw [c_24_3]; decide) (by rw [c_24_3]; rfl) (by decide) ?_
            refine lv_aload_n hx hb dX6_tryOf_71 rfl (lv_at hl 0 rfl) ?_
            refine zget hC hZ fX6_108 (by have := ht_5.2; omega) (hX.2.1.2.2.2.2 (iN i) ht_5.2) rfl dX6_tryOf_72 ?_
            have hq_9 : (sc.2.2.1 (iN i)).2.2.2 = (if bTry sc.2.2.2.1 i then (if what = 0 then (sc.2.2.1 (iN i)).1 else if what = 1 then (sc.2.2.1 (iN i)).2.1 else if what = 2 then (sc.2.2.1 (iN i)).2.2.1 else if what = 3 then (sc.2.2.1 (iN i)).2.2.2 else -1) else -1) := by first | rfl | simp [b_4, c_24_0, c_24_1, c_24_2, c_24_3] | (simp only [id]; simp [b_4, c_24_0, c_24_1, c_24_2, c_24_3])
            exact zireti hC hZ hr hlocks ⟨hq_9, rfl⟩ dX6_tryOf_75
          · refine lv_tableOut (tgt := 76) hx hb dX6_tryOf_24 (by have e0 : ¬ what.toInt = 0 := lv_neT (k := 0) c_24_0 rfl; have e1 : ¬ what.toInt = 1 := lv_neT (k := 1) c_24_1 rfl; have e2 : ¬ what.toInt = 2 := lv_neT (k := 2) c_24_2 rfl; have e3 : ¬ what.toInt = 3 := lv_neT (k := 3) c_24_3 rfl; omega) (by decide) ?_
            refine lv_iconst (v := (-1)) hx hb dX6_tryOf_76 (by decide) ?_
            have hq_10 : (-1 : Int32) = (if bTry sc.2.2.2.1 i then (if what = 0 then (sc.2.2.1 (iN i)).1 else if what = 1 then (sc.2.2.1 (iN i)).2.1 else if what = 2 then (sc.2.2.1 (iN i)).2.2.1 else if what = 3 then (sc.2.2.1 (iN i)).2.2.2 else -1) else -1) := by first | rfl | simp [b_4, c_24_0, c_24_1, c_24_2, c_24_3] | (simp only [id]; simp [b_4, c_24_0, c_24_1, c_24_2, c_24_3])
            exact zireti hC hZ hr hlocks ⟨hq_10, rfl⟩ dX6_tryOf_77
  · rw [if_neg b_4] at hp_3
    subst hp_3
    refine lv_if_ne (tgt := 13) hx hb dX6_tryOf_8 (by decide) (fun h => absurd (show (0 : Int32) = 0 by decide) h) (fun _ => ?_)
    refine lv_iconst (v := (-1)) hx hb dX6_tryOf_11 (by decide) ?_
    have hq_11 : (-1 : Int32) = (if bTry sc.2.2.2.1 i then (if what = 0 then (sc.2.2.1 (iN i)).1 else if what = 1 then (sc.2.2.1 (iN i)).2.1 else if what = 2 then (sc.2.2.1 (iN i)).2.2.1 else if what = 3 then (sc.2.2.1 (iN i)).2.2.2 else -1) else -1) := by first | rfl | simp [b_4] | (simp only [id]; simp [b_4])
    exact zireti hC hZ hr hlocks ⟨hq_11, rfl⟩ dX6_tryOf_12

theorem mX6_story : zMd yX6_story cX6_story 5 (some .int) 2 := ⟨by decide +kernel, gt_of 364 (by decide +kernel) rfl, gt_of 45 (by decide +kernel) rfl, by decide⟩
theorem dX6_story_0 : decode cX6_story 0 = .ok (.iload_n 2, 1) := by decide +kernel
theorem dX6_story_1 : decode cX6_story 1 = .ok (.iconst 0, 1) := by decide +kernel
theorem dX6_story_2 : decode cX6_story 2 = .ok (.iconst 2, 1) := by decide +kernel
theorem dX6_story_3 : decode cX6_story 3 = .ok (.invokestatic 111, 3) := by decide +kernel
theorem dX6_story_6 : decode cX6_story 6 = .ok (.ifCond .eq 11, 3) := by decide +kernel
theorem dX6_story_9 : decode cX6_story 9 = .ok (.aload_n 0, 1) := by decide +kernel
theorem dX6_story_10 : decode cX6_story 10 = .ok (.iload_n 1, 1) := by decide +kernel
theorem dX6_story_11 : decode cX6_story 11 = .ok (.invokevirtual 157, 3) := by decide +kernel
theorem kX6_157 : zLk RX6 157 yX6_storyRefusal := Or.inl (gt_of 365 (by decide +kernel) rfl)
theorem vX6_storyRefusal : zMi yX6_storyRefusal := ⟨gt_of 367 (by decide +kernel) rfl, gt_of 10 (by decide +kernel) rfl⟩
theorem dX6_story_14 : decode cX6_story 14 = .ok (.goto 4, 3) := by decide +kernel
theorem dX6_story_18 : decode cX6_story 18 = .ok (.istore_n 3, 1) := by decide +kernel
theorem dX6_story_19 : decode cX6_story 19 = .ok (.iload_n 3, 1) := by decide +kernel
theorem dX6_story_20 : decode cX6_story 20 = .ok (.ifCond .eq 5, 3) := by decide +kernel
theorem dX6_story_25 : decode cX6_story 25 = .ok (.aload_n 0, 1) := by decide +kernel
theorem dX6_story_26 : decode cX6_story 26 = .ok (.getfield 25, 3) := by decide +kernel
theorem dX6_story_29 : decode cX6_story 29 = .ok (.iload_n 1, 1) := by decide +kernel
theorem dX6_story_30 : decode cX6_story 30 = .ok (.aaload, 1) := by decide +kernel
theorem dX6_story_31 : decode cX6_story 31 = .ok (.getfield 160, 3) := by decide +kernel
theorem fX6_160 : zFld RX6 160 4 1 := ⟨RX4, TX4, 5, rfl, inX4, by decide, rfl, Or.inr ⟨"ChainLeap", List.mem_of_getElem? (i := 181) (by decide +kernel)⟩⟩
theorem dX6_story_34 : decode cX6_story 34 = .ok (.astore 4, 2) := by decide +kernel
theorem dX6_story_36 : decode cX6_story 36 = .ok (.iload_n 2, 1) := by decide +kernel
theorem dX6_story_37 : decode cX6_story 37 = .ok (.lookupswitch 46 #[(0, 27), (1, 40)], 27) := by decide +kernel
theorem dX6_story_64 : decode cX6_story 64 = .ok (.aload 4, 2) := by decide +kernel
theorem dX6_story_66 : decode cX6_story 66 = .ok (.aload_n 0, 1) := by decide +kernel
theorem dX6_story_67 : decode cX6_story 67 = .ok (.getfield 10, 3) := by decide +kernel
theorem dX6_story_70 : decode cX6_story 70 = .ok (.getfield 93, 3) := by decide +kernel
theorem dX6_story_73 : decode cX6_story 73 = .ok (.invokevirtual 163, 3) := by decide +kernel
theorem kX6_163 : zLk RX6 163 yX5_kick := Or.inl (gt_of 369 (by decide +kernel) rfl)
theorem dX6_story_76 : decode cX6_story 76 = .ok (.ireturn, 1) := by decide +kernel
theorem dX6_story_77 : decode cX6_story 77 = .ok (.aload 4, 2) := by decide +kernel
theorem dX6_story_79 : decode cX6_story 79 = .ok (.invokevirtual 167, 3) := by decide +kernel
theorem kX6_167 : zLk RX6 167 yX5_draw := Or.inl (gt_of 381 (by decide +kernel) rfl)
theorem dX6_story_82 : decode cX6_story 82 = .ok (.ireturn, 1) := by decide +kernel
theorem dX6_story_83 : decode cX6_story 83 = .ok (.aload 4, 2) := by decide +kernel
theorem dX6_story_85 : decode cX6_story 85 = .ok (.invokevirtual 171, 3) := by decide +kernel
theorem kX6_171 : zLk RX6 171 yX5_hold := Or.inl (gt_of 385 (by decide +kernel) rfl)
theorem dX6_story_88 : decode cX6_story 88 = .ok (.ireturn, 1) := by decide +kernel
theorem dX6_story_23 : decode cX6_story 23 = .ok (.iload_n 3, 1) := by decide +kernel
theorem dX6_story_24 : decode cX6_story 24 = .ok (.ireturn, 1) := by decide +kernel
theorem dX6_story_17 : decode cX6_story 17 = .ok (.iconst (-1), 1) := by decide +kernel
set_option maxRecDepth 100000 in
theorem c_X6_story (l : Launch) (D : va_G) (cy : Nat → Nat) (n : Nat) (ad : Nat → Nat) (F : Nat → va_E) (sz : Nat) (pic : Int32) (sc ps : Scn) (sh : Nat → Shf) (rd : Rdr) (dr : Stg) (fa : Tal) (mi : Crs) (hn : 56 ≤ n) (hX : RX ad cy F pic sc ps sh rd dr fa mi) (d what : Int32) : Met l yX6_story (zw yX6_story cX6_story 5 (some .int)) (rmL 3) (zPc D cy n ad F sz [.ref (ad 0), .int d, .int what]) (va_Qi (fun r F1 => r = zr (bIn what 0 2) (sStR sh d) (sStory sc (sh (iN d)).2.1 what) ∧ F = F1) (zB D n ad) (zA n ad sz)) 0 0 (zA n ad sz) := by
  refine zmet (by decide +kernel) (Nat.le_of_ble_eq_true rfl) (fun p e s m args below meth c ls hC hsz hZ hA hr hlocks hnm hl => ?_)
  have hC : zC p m c cX6_story 5 s args RX6 D cy := hC
  have hx := hC.1.1
  have hb := hC.1.2.1
  have hl : lv_has ls 5 [(0, .ref (ad 0)), (1, .int d), (2, .int what)] := hl
  refine lv_iload_n hx hb dX6_story_0 rfl (lv_at hl 2 rfl) ?_
  refine lv_iconst (v := 0) hx hb dX6_story_1 (by decide) ?_
  refine lv_iconst (v := 2) hx hb dX6_story_2 (by decide) ?_
  refine zgoi hZ hA (zrunS (As := [.int what, .int 0, .int 2]) (rest := []) hC hZ (c_X6_isWithin l D cy n ad F s.heap.size what 0 2) mX6_isWithin sX6_isWithin kX6_111 (zRj_of rfl) rfl hl.1 rfl (Nat.le_of_ble_eq_true rfl) dX6_story_3 ⟨Nat.le_refl _, Nat.le_refl _⟩) (fun r_2 F_1 hp_3 H locs hZ => ?_)
  obtain ⟨hp_3, rfl⟩ := hp_3
  by_cases b_4 : bIn what 0 2
  · rw [if_pos b_4] at hp_3
    subst hp_3
    refine lv_if_eq (tgt := 17) hx hb dX6_story_6 (by decide) (fun h => absurd (show (1 : Int32) = 0 from h) (by decide)) (fun _ => ?_)
    refine lv_aload_n hx hb dX6_story_9 rfl (lv_at hl 0 rfl) ?_
    refine lv_iload_n hx hb dX6_story_10 rfl (lv_at hl 1 rfl) ?_
    refine zgoi hZ hA (zrunV (As := [.int d]) (rest := []) (k := 0) hC hZ (c_X6_storyRefusal l D cy n ad F H.size pic sc ps sh rd dr fa mi hn hX d) mX6_storyRefusal vX6_storyRefusal kX6_157 (zRj_of rfl) (zlt hn rfl) hX.1 rfl rfl hl.1 rfl (Nat.le_of_ble_eq_true rfl) dX6_story_11 ⟨Nat.le_refl _, Nat.le_refl _⟩) (fun r_6 F_5 hp_7 H locs hZ => ?_)
    obtain ⟨rfl, rfl⟩ := hp_7
    refine lv_goto (tgt := 18) hx hb dX6_story_14 (by decide) ?_
    refine lv_istore_n (lv' := [(3, .int (sStR sh d)), (0, .ref (ad 0)), (1, .int d), (2, .int what)]) hx hb dX6_story_18 rfl hl (by decide) rfl (fun ls hl => ?_)
    refine lv_iload_n hx hb dX6_story_19 rfl (lv_at hl 0 rfl) ?_
    refine lv_if_eq (tgt := 25) hx hb dX6_story_20 (by decide) (fun c_20 => ?_) (fun c_20 => ?_)
    · refine lv_aload_n hx hb dX6_story_25 rfl (lv_at hl 1 rfl) ?_
      refine zget hC hZ fX6_25 (zlt hn rfl) hX.1 rfl dX6_story_26 ?_
      refine lv_iload_n hx hb dX6_story_29 rfl (lv_at hl 2 rfl) ?_
      have hs_8 := sStR_0 c_20
      refine zaald hC hZ (zlt hn rfl) hX.2.2.2.1 (C := RX4) rfl hs_8.1.1 hs_8.1.2 (by decide) rfl dX6_story_30 ?_
      refine zget hC hZ fX6_160 (by have := hs_8.1.2; omega) (hX.2.2.2.2.1 (iN d) hs_8.1.2).1 rfl dX6_story_31 ?_
      refine lv_astore (lv' := [(4, .ref (ad (26 + 3 * (iN d) + 1))), (3, .int (sStR sh d)), (0, .ref (ad 0)), (1, .int d), (2, .int what)]) hx hb dX6_story_34 hl (by decide) rfl (fun ls hl => ?_)
      refine lv_iload_n hx hb dX6_story_36 rfl (lv_at hl 4 rfl) ?_
      by_cases c_37_0 : what = 0
      · refine lv_lookup (off := 27) (tgt := 64) hx hb dX6_story_37 (by decide) (by rw [c_37_0]; decide) (by decide) ?_
        refine lv_aload hx hb dX6_story_64 (lv_at hl 0 rfl) ?_
        refine lv_aload_n hx hb dX6_story_66 rfl (lv_at hl 2 rfl) ?_
        refine zget hC hZ fX6_10 (zlt hn rfl) hX.1 rfl dX6_story_67 ?_
        refine zget hC hZ fX6_93 (zlt hn rfl) hX.2.1.1 rfl dX6_story_70 ?_
        refine zgoi hZ hA (zrunV (As := [.ref (ad 2)]) (rest := []) (k := 26 + 3 * (iN d) + 1) hC hZ (c_X5_kick l D cy n ad F H.size (26 + 3 * (iN d) + 1) (sh (iN d)).2.1 (by have := hs_8.1.2; omega) (hX.2.2.2.2.1 (iN d) hs_8.1.2).2.1 2 sc.1 (zlt hn rfl) hX.2.1.2.1) mX5_kick vX5_kick kX6_163 (zRj_of rfl) (by have := hs_8.1.2; omega) (hX.2.2.2.2.1 (iN d) hs_8.1.2).2.1 rfl rfl hl.1 rfl (Nat.le_of_ble_eq_true rfl) dX6_story_73 ⟨Nat.le_refl _, Nat.le_refl _⟩) (fun r_10 F_9 hp_11 H locs hZ => ?_)
        obtain ⟨rfl, rfl⟩ := hp_11
        have hv_13 : (sKick (sh (iN d)).2.1 sc.1) = sStory sc (sh (iN d)).2.1 what := by first | rfl | simp [sStory, b_4, c_20, c_37_0]
        have hq_12 : (sKick (sh (iN d)).2.1 sc.1) = zr (bIn what 0 2) (sStR sh d) (sStory sc (sh (iN d)).2.1 what) := hv_13.trans (zr_ok b_4 c_20).symm
        exact zireti hC hZ hr hlocks ⟨hq_12, rfl⟩ dX6_story_76
      · by_cases c_37_1 : what = 1
        · refine lv_lookup (off := 40) (tgt := 77) hx hb dX6_story_37 (by decide) (by rw [c_37_1]; decide) (by decide) ?_
          refine lv_aload hx hb dX6_story_77 (lv_at hl 0 rfl) ?_
          refine zgoi hZ hA (zrunV (As := []) (rest := []) (k := 26 + 3 * (iN d) + 1) hC hZ (c_X5_draw l D cy n ad F H.size (26 + 3 * (iN d) + 1) (sh (iN d)).2.1 (by have := hs_8.1.2; omega) (hX.2.2.2.2.1 (iN d) hs_8.1.2).2.1) mX5_draw vX5_draw kX6_167 (zRj_of rfl) (by have := hs_8.1.2; omega) (hX.2.2.2.2.1 (iN d) hs_8.1.2).2.1 rfl rfl hl.1 rfl (Nat.le_of_ble_eq_true rfl) dX6_story_79 ⟨Nat.le_refl _, Nat.le_refl _⟩) (fun r_15 F_14 hp_16 H locs hZ => ?_)
          obtain ⟨rfl, rfl⟩ := hp_16
          have hv_18 : (sDraw (sh (iN d)).2.1) = sStory sc (sh (iN d)).2.1 what := by first | rfl | simp [sStory, b_4, c_20, c_37_0, c_37_1]
          have hq_17 : (sDraw (sh (iN d)).2.1) = zr (bIn what 0 2) (sStR sh d) (sStory sc (sh (iN d)).2.1 what) := hv_18.trans (zr_ok b_4 c_20).symm
          exact zireti hC hZ hr hlocks ⟨hq_17, rfl⟩ dX6_story_82
        · refine lv_lookup (off := 46) (tgt := 83) hx hb dX6_story_37 (by decide) ((lv_osw (k := 0) c_37_0 rfl).trans ((lv_osw (k := 1) c_37_1 rfl).trans rfl)) (by decide) ?_
          refine lv_aload hx hb dX6_story_83 (lv_at hl 0 rfl) ?_
          refine zgoi hZ hA (zrunV (As := []) (rest := []) (k := 26 + 3 * (iN d) + 1) hC hZ (c_X5_hold l D cy n ad F H.size (26 + 3 * (iN d) + 1) (sh (iN d)).2.1 (by have := hs_8.1.2; omega) (hX.2.2.2.2.1 (iN d) hs_8.1.2).2.1) mX5_hold vX5_hold kX6_171 (zRj_of rfl) (by have := hs_8.1.2; omega) (hX.2.2.2.2.1 (iN d) hs_8.1.2).2.1 rfl rfl hl.1 rfl (Nat.le_of_ble_eq_true rfl) dX6_story_85 ⟨Nat.le_refl _, Nat.le_refl _⟩) (fun r_20 F_19 hp_21 H locs hZ => ?_)
          obtain ⟨rfl, rfl⟩ := hp_21
          have hv_23 : (sHold (sh (iN d)).2.1) = sStory sc (sh (iN d)).2.1 what := by first | rfl | simp [sStory, b_4, c_20, c_37_0, c_37_1]
          have hq_22 : (sHold (sh (iN d)).2.1) = zr (bIn what 0 2) (sStR sh d) (sStory sc (sh (iN d)).2.1 what) := hv_23.trans (zr_ok b_4 c_20).symm
          exact zireti hC hZ hr hlocks ⟨hq_22, rfl⟩ dX6_story_88
    · refine lv_iload_n hx hb dX6_story_23 rfl (lv_at hl 0 rfl) ?_
      have hq_24 : (sStR sh d) = zr (bIn what 0 2) (sStR sh d) (sStory sc (sh (iN d)).2.1 what) := (zr_rf b_4 c_20).symm
      exact zireti hC hZ hr hlocks ⟨hq_24, rfl⟩ dX6_story_24
  · rw [if_neg b_4] at hp_3
    subst hp_3
    refine lv_if_eq (tgt := 17) hx hb dX6_story_6 (by decide) (fun _ => ?_) (fun h => absurd (show (0 : Int32) = 0 by decide) h)
    refine lv_iconst (v := (-1)) hx hb dX6_story_17 (by decide) ?_
    refine lv_istore_n (lv' := [(3, .int (-1)), (0, .ref (ad 0)), (1, .int d), (2, .int what)]) hx hb dX6_story_18 rfl hl (by decide) rfl (fun ls hl => ?_)
    refine lv_iload_n hx hb dX6_story_19 rfl (lv_at hl 0 rfl) ?_
    refine lv_if_eq (tgt := 25) hx hb dX6_story_20 (by decide) (fun h => absurd (show (-1 : Int32) = 0 from h) (by decide)) (fun _ => ?_)
    refine lv_iload_n hx hb dX6_story_23 rfl (lv_at hl 0 rfl) ?_
    have hq_25 : (-1 : Int32) = zr (bIn what 0 2) (sStR sh d) (sStory sc (sh (iN d)).2.1 what) := (zr_no b_4).symm
    exact zireti hC hZ hr hlocks ⟨hq_25, rfl⟩ dX6_story_24

theorem mX6_ahead : zMd yX6_ahead cX6_ahead 4 (some .int) 2 := ⟨by decide +kernel, gt_of 440 (by decide +kernel) rfl, gt_of 45 (by decide +kernel) rfl, by decide⟩
theorem dX6_ahead_0 : decode cX6_ahead 0 = .ok (.aload_n 0, 1) := by decide +kernel
theorem dX6_ahead_1 : decode cX6_ahead 1 = .ok (.getfield 10, 3) := by decide +kernel
theorem dX6_ahead_4 : decode cX6_ahead 4 = .ok (.iload_n 2, 1) := by decide +kernel
theorem dX6_ahead_5 : decode cX6_ahead 5 = .ok (.invokevirtual 150, 3) := by decide +kernel
theorem dX6_ahead_8 : decode cX6_ahead 8 = .ok (.ifCond .eq 11, 3) := by decide +kernel
theorem dX6_ahead_11 : decode cX6_ahead 11 = .ok (.aload_n 0, 1) := by decide +kernel
theorem dX6_ahead_12 : decode cX6_ahead 12 = .ok (.iload_n 1, 1) := by decide +kernel
theorem dX6_ahead_13 : decode cX6_ahead 13 = .ok (.invokevirtual 157, 3) := by decide +kernel
theorem dX6_ahead_16 : decode cX6_ahead 16 = .ok (.goto 4, 3) := by decide +kernel
theorem dX6_ahead_20 : decode cX6_ahead 20 = .ok (.istore_n 3, 1) := by decide +kernel
theorem dX6_ahead_21 : decode cX6_ahead 21 = .ok (.iload_n 3, 1) := by decide +kernel
theorem dX6_ahead_22 : decode cX6_ahead 22 = .ok (.ifCond .eq 5, 3) := by decide +kernel
theorem dX6_ahead_27 : decode cX6_ahead 27 = .ok (.aload_n 0, 1) := by decide +kernel
theorem dX6_ahead_28 : decode cX6_ahead 28 = .ok (.getfield 25, 3) := by decide +kernel
theorem dX6_ahead_31 : decode cX6_ahead 31 = .ok (.iload_n 1, 1) := by decide +kernel
theorem dX6_ahead_32 : decode cX6_ahead 32 = .ok (.aaload, 1) := by decide +kernel
theorem dX6_ahead_33 : decode cX6_ahead 33 = .ok (.getfield 160, 3) := by decide +kernel
theorem dX6_ahead_36 : decode cX6_ahead 36 = .ok (.aload_n 0, 1) := by decide +kernel
theorem dX6_ahead_37 : decode cX6_ahead 37 = .ok (.getfield 10, 3) := by decide +kernel
theorem dX6_ahead_40 : decode cX6_ahead 40 = .ok (.getfield 153, 3) := by decide +kernel
theorem dX6_ahead_43 : decode cX6_ahead 43 = .ok (.iload_n 2, 1) := by decide +kernel
theorem dX6_ahead_44 : decode cX6_ahead 44 = .ok (.aaload, 1) := by decide +kernel
theorem dX6_ahead_45 : decode cX6_ahead 45 = .ok (.invokevirtual 202, 3) := by decide +kernel
theorem kX6_202 : zLk RX6 202 yX5_arch := Or.inl (gt_of 441 (by decide +kernel) rfl)
theorem vX5_arch : zMi yX5_arch := ⟨gt_of 442 (by decide +kernel) rfl, gt_of 443 (by decide +kernel) rfl⟩
theorem dX6_ahead_48 : decode cX6_ahead 48 = .ok (.ireturn, 1) := by decide +kernel
theorem dX6_ahead_25 : decode cX6_ahead 25 = .ok (.iload_n 3, 1) := by decide +kernel
theorem dX6_ahead_26 : decode cX6_ahead 26 = .ok (.ireturn, 1) := by decide +kernel
theorem dX6_ahead_19 : decode cX6_ahead 19 = .ok (.iconst (-1), 1) := by decide +kernel
set_option maxRecDepth 100000 in
theorem c_X6_ahead (l : Launch) (D : va_G) (cy : Nat → Nat) (n : Nat) (ad : Nat → Nat) (F : Nat → va_E) (sz : Nat) (pic : Int32) (sc ps : Scn) (sh : Nat → Shf) (rd : Rdr) (dr : Stg) (fa : Tal) (mi : Crs) (hn : 56 ≤ n) (hX : RX ad cy F pic sc ps sh rd dr fa mi) (hG : gX sc ps sh) (d i : Int32) : Met l yX6_ahead (zw yX6_ahead cX6_ahead 4 (some .int)) (rmL 5) (zPc D cy n ad F sz [.ref (ad 0), .int d, .int i]) (va_Qi (fun r F1 => r = zr (bTry sc.2.2.2.1 i) (sStR sh d) (sArchAt (sh (iN d)).2.1 (sc.2.2.1 (iN i)) 0) ∧ F = F1) (zB D n ad) (zA n ad sz)) 0 0 (zA n ad sz) := by
  refine zmet (by decide +kernel) (Nat.le_of_ble_eq_true rfl) (fun p e s m args below meth c ls hC hsz hZ hA hr hlocks hnm hl => ?_)
  have hC : zC p m c cX6_ahead 4 s args RX6 D cy := hC
  have hx := hC.1.1
  have hb := hC.1.2.1
  have hl : lv_has ls 4 [(0, .ref (ad 0)), (1, .int d), (2, .int i)] := hl
  refine lv_aload_n hx hb dX6_ahead_0 rfl (lv_at hl 0 rfl) ?_
  refine zget hC hZ fX6_10 (zlt hn rfl) hX.1 rfl dX6_ahead_1 ?_
  refine lv_iload_n hx hb dX6_ahead_4 rfl (lv_at hl 2 rfl) ?_
  refine zgoi hZ hA (zrunV (As := [.int i]) (rest := []) (k := 1) hC hZ (c_X2_hasTry l D cy n ad F s.heap.size 1 sc (by omega) hX.2.1 i) mX2_hasTry vX2_hasTry kX6_150 (zRj_of rfl) (zlt hn rfl) hX.2.1.1 rfl rfl hl.1 rfl (Nat.le_of_ble_eq_true rfl) dX6_ahead_5 ⟨Nat.le_refl _, Nat.le_refl _⟩) (fun r_2 F_1 hp_3 H locs hZ => ?_)
  obtain ⟨hp_3, rfl⟩ := hp_3
  by_cases b_4 : bTry sc.2.2.2.1 i
  · rw [if_pos b_4] at hp_3
    subst hp_3
    refine lv_if_eq (tgt := 19) hx hb dX6_ahead_8 (by decide) (fun h => absurd (show (1 : Int32) = 0 from h) (by decide)) (fun _ => ?_)
    refine lv_aload_n hx hb dX6_ahead_11 rfl (lv_at hl 0 rfl) ?_
    refine lv_iload_n hx hb dX6_ahead_12 rfl (lv_at hl 1 rfl) ?_
    refine zgoi hZ hA (zrunV (As := [.int d]) (rest := []) (k := 0) hC hZ (c_X6_storyRefusal l D cy n ad F H.size pic sc ps sh rd dr fa mi hn hX d) mX6_storyRefusal vX6_storyRefusal kX6_157 (zRj_of rfl) (zlt hn rfl) hX.1 rfl rfl hl.1 rfl (Nat.le_of_ble_eq_true rfl) dX6_ahead_13 ⟨Nat.le_refl _, Nat.le_refl _⟩) (fun r_6 F_5 hp_7 H locs hZ => ?_)
    obtain ⟨rfl, rfl⟩ := hp_7
    refine lv_goto (tgt := 20) hx hb dX6_ahead_16 (by decide) ?_
    refine lv_istore_n (lv' := [(3, .int (sStR sh d)), (0, .ref (ad 0)), (1, .int d), (2, .int i)]) hx hb dX6_ahead_20 rfl hl (by decide) rfl (fun ls hl => ?_)
    refine lv_iload_n hx hb dX6_ahead_21 rfl (lv_at hl 0 rfl) ?_
    refine lv_if_eq (tgt := 27) hx hb dX6_ahead_22 (by decide) (fun c_22 => ?_) (fun c_22 => ?_)
    · refine lv_aload_n hx hb dX6_ahead_27 rfl (lv_at hl 1 rfl) ?_
      refine zget hC hZ fX6_25 (zlt hn rfl) hX.1 rfl dX6_ahead_28 ?_
      refine lv_iload_n hx hb dX6_ahead_31 rfl (lv_at hl 2 rfl) ?_
      have hs_8 := sStR_0 c_22
      refine zaald hC hZ (zlt hn rfl) hX.2.2.2.1 (C := RX4) rfl hs_8.1.1 hs_8.1.2 (by decide) rfl dX6_ahead_32 ?_
      refine zget hC hZ fX6_160 (by have := hs_8.1.2; omega) (hX.2.2.2.2.1 (iN d) hs_8.1.2).1 rfl dX6_ahead_33 ?_
      refine lv_aload_n hx hb dX6_ahead_36 rfl (lv_at hl 1 rfl) ?_
      refine zget hC hZ fX6_10 (zlt hn rfl) hX.1 rfl dX6_ahead_37 ?_
      refine zget hC hZ fX6_153 (zlt hn rfl) hX.2.1.1 rfl dX6_ahead_40 ?_
      refine lv_iload_n hx hb dX6_ahead_43 rfl (lv_at hl 3 rfl) ?_
      have ht_9 := iN_at (N := 8) b_4.1 b_4.2.2 rfl
      refine zaald hC hZ (zlt hn rfl) hX.2.1.2.2.1 (C := RX3) rfl ht_9.1 ht_9.2 (by decide) rfl dX6_ahead_44 ?_
      refine zgoi hZ hA (zrunV (As := [.ref (ad (5 + (iN i)))]) (rest := []) (k := 26 + 3 * (iN d) + 1) hC hZ (c_X5_arch l D cy n ad F H.size (26 + 3 * (iN d) + 1) (sh (iN d)).2.1 (by have := hs_8.1.2; omega) (hX.2.2.2.2.1 (iN d) hs_8.1.2).2.1 (5 + (iN i)) (sc.2.2.1 (iN i)) (by have := ht_9.2; omega) (hX.2.1.2.2.2.2 (iN i) ht_9.2) ((hG.2.2 _ hs_8.1.2).1 hs_8.2) (hG.1.2.2.2.1 _ ht_9.2)) mX5_arch vX5_arch kX6_202 (zRj_of rfl) (by have := hs_8.1.2; omega) (hX.2.2.2.2.1 (iN d) hs_8.1.2).2.1 rfl rfl hl.1 rfl (Nat.le_of_ble_eq_true rfl) dX6_ahead_45 ⟨Nat.le_refl _, Nat.le_refl _⟩) (fun r_11 F_10 hp_12 H locs hZ => ?_)
      obtain ⟨rfl, rfl⟩ := hp_12
      have hv_14 : (sArchAt (sh (iN d)).2.1 (sc.2.2.1 (iN i)) 0) = sArchAt (sh (iN d)).2.1 (sc.2.2.1 (iN i)) 0 := by first | rfl | simp [b_4, c_22]
      have hq_13 : (sArchAt (sh (iN d)).2.1 (sc.2.2.1 (iN i)) 0) = zr (bTry sc.2.2.2.1 i) (sStR sh d) (sArchAt (sh (iN d)).2.1 (sc.2.2.1 (iN i)) 0) := hv_14.trans (zr_ok b_4 c_22).symm
      exact zireti hC hZ hr hlocks ⟨hq_13, rfl⟩ dX6_ahead_48
    · refine lv_iload_n hx hb dX6_ahead_25 rfl (lv_at hl 0 rfl) ?_
      have hq_15 : (sStR sh d) = zr (bTry sc.2.2.2.1 i) (sStR sh d) (sArchAt (sh (iN d)).2.1 (sc.2.2.1 (iN i)) 0) := (zr_rf b_4 c_22).symm
      exact zireti hC hZ hr hlocks ⟨hq_15, rfl⟩ dX6_ahead_26
  · rw [if_neg b_4] at hp_3
    subst hp_3
    refine lv_if_eq (tgt := 19) hx hb dX6_ahead_8 (by decide) (fun _ => ?_) (fun h => absurd (show (0 : Int32) = 0 by decide) h)
    refine lv_iconst (v := (-1)) hx hb dX6_ahead_19 (by decide) ?_
    refine lv_istore_n (lv' := [(3, .int (-1)), (0, .ref (ad 0)), (1, .int d), (2, .int i)]) hx hb dX6_ahead_20 rfl hl (by decide) rfl (fun ls hl => ?_)
    refine lv_iload_n hx hb dX6_ahead_21 rfl (lv_at hl 0 rfl) ?_
    refine lv_if_eq (tgt := 27) hx hb dX6_ahead_22 (by decide) (fun h => absurd (show (-1 : Int32) = 0 from h) (by decide)) (fun _ => ?_)
    refine lv_iload_n hx hb dX6_ahead_25 rfl (lv_at hl 0 rfl) ?_
    have hq_16 : (-1 : Int32) = zr (bTry sc.2.2.2.1 i) (sStR sh d) (sArchAt (sh (iN d)).2.1 (sc.2.2.1 (iN i)) 0) := (zr_no b_4).symm
    exact zireti hC hZ hr hlocks ⟨hq_16, rfl⟩ dX6_ahead_26

theorem mX6_slant : zMd yX6_slant cX6_slant 4 (some .int) 2 := ⟨by decide +kernel, gt_of 538 (by decide +kernel) rfl, gt_of 45 (by decide +kernel) rfl, by decide⟩
theorem dX6_slant_0 : decode cX6_slant 0 = .ok (.iload_n 2, 1) := by decide +kernel
theorem dX6_slant_1 : decode cX6_slant 1 = .ok (.iconst 0, 1) := by decide +kernel
theorem dX6_slant_2 : decode cX6_slant 2 = .ok (.bipush 100, 2) := by decide +kernel
theorem dX6_slant_4 : decode cX6_slant 4 = .ok (.invokestatic 111, 3) := by decide +kernel
theorem dX6_slant_7 : decode cX6_slant 7 = .ok (.ifCond .eq 11, 3) := by decide +kernel
theorem dX6_slant_10 : decode cX6_slant 10 = .ok (.aload_n 0, 1) := by decide +kernel
theorem dX6_slant_11 : decode cX6_slant 11 = .ok (.iload_n 1, 1) := by decide +kernel
theorem dX6_slant_12 : decode cX6_slant 12 = .ok (.invokevirtual 157, 3) := by decide +kernel
theorem dX6_slant_15 : decode cX6_slant 15 = .ok (.goto 4, 3) := by decide +kernel
theorem dX6_slant_19 : decode cX6_slant 19 = .ok (.istore_n 3, 1) := by decide +kernel
theorem dX6_slant_20 : decode cX6_slant 20 = .ok (.iload_n 3, 1) := by decide +kernel
theorem dX6_slant_21 : decode cX6_slant 21 = .ok (.ifCond .eq 5, 3) := by decide +kernel
theorem dX6_slant_26 : decode cX6_slant 26 = .ok (.aload_n 0, 1) := by decide +kernel
theorem dX6_slant_27 : decode cX6_slant 27 = .ok (.getfield 25, 3) := by decide +kernel
theorem dX6_slant_30 : decode cX6_slant 30 = .ok (.iload_n 1, 1) := by decide +kernel
theorem dX6_slant_31 : decode cX6_slant 31 = .ok (.aaload, 1) := by decide +kernel
theorem dX6_slant_32 : decode cX6_slant 32 = .ok (.getfield 160, 3) := by decide +kernel
theorem dX6_slant_35 : decode cX6_slant 35 = .ok (.aload_n 0, 1) := by decide +kernel
theorem dX6_slant_36 : decode cX6_slant 36 = .ok (.getfield 10, 3) := by decide +kernel
theorem dX6_slant_39 : decode cX6_slant 39 = .ok (.getfield 93, 3) := by decide +kernel
theorem dX6_slant_42 : decode cX6_slant 42 = .ok (.iload_n 2, 1) := by decide +kernel
theorem dX6_slant_43 : decode cX6_slant 43 = .ok (.invokevirtual 253, 3) := by decide +kernel
theorem kX6_253 : zLk RX6 253 yX5_archAt := Or.inl (gt_of 539 (by decide +kernel) rfl)
theorem dX6_slant_46 : decode cX6_slant 46 = .ok (.ireturn, 1) := by decide +kernel
theorem dX6_slant_24 : decode cX6_slant 24 = .ok (.iload_n 3, 1) := by decide +kernel
theorem dX6_slant_25 : decode cX6_slant 25 = .ok (.ireturn, 1) := by decide +kernel
theorem dX6_slant_18 : decode cX6_slant 18 = .ok (.iconst (-1), 1) := by decide +kernel
set_option maxRecDepth 100000 in
theorem c_X6_slant (l : Launch) (D : va_G) (cy : Nat → Nat) (n : Nat) (ad : Nat → Nat) (F : Nat → va_E) (sz : Nat) (pic : Int32) (sc ps : Scn) (sh : Nat → Shf) (rd : Rdr) (dr : Stg) (fa : Tal) (mi : Crs) (hn : 56 ≤ n) (hX : RX ad cy F pic sc ps sh rd dr fa mi) (hG : gX sc ps sh) (d q : Int32) : Met l yX6_slant (zw yX6_slant cX6_slant 4 (some .int)) (rmL 4) (zPc D cy n ad F sz [.ref (ad 0), .int d, .int q]) (va_Qi (fun r F1 => r = zr (bIn q 0 100) (sStR sh d) (sArchAt (sh (iN d)).2.1 sc.1 q) ∧ F = F1) (zB D n ad) (zA n ad sz)) 0 0 (zA n ad sz) := by
  refine zmet (by decide +kernel) (Nat.le_of_ble_eq_true rfl) (fun p e s m args below meth c ls hC hsz hZ hA hr hlocks hnm hl => ?_)
  have hC : zC p m c cX6_slant 4 s args RX6 D cy := hC
  have hx := hC.1.1
  have hb := hC.1.2.1
  have hl : lv_has ls 4 [(0, .ref (ad 0)), (1, .int d), (2, .int q)] := hl
  refine lv_iload_n hx hb dX6_slant_0 rfl (lv_at hl 2 rfl) ?_
  refine lv_iconst (v := 0) hx hb dX6_slant_1 (by decide) ?_
  refine lv_bipush (v := 100) hx hb dX6_slant_2 (by decide) ?_
  refine zgoi hZ hA (zrunS (As := [.int q, .int 0, .int 100]) (rest := []) hC hZ (c_X6_isWithin l D cy n ad F s.heap.size q 0 100) mX6_isWithin sX6_isWithin kX6_111 (zRj_of rfl) rfl hl.1 rfl (Nat.le_of_ble_eq_true rfl) dX6_slant_4 ⟨Nat.le_refl _, Nat.le_refl _⟩) (fun r_2 F_1 hp_3 H locs hZ => ?_)
  obtain ⟨hp_3, rfl⟩ := hp_3
  by_cases b_4 : bIn q 0 100
  · rw [if_pos b_4] at hp_3
    subst hp_3
    refine lv_if_eq (tgt := 18) hx hb dX6_slant_7 (by decide) (fun h => absurd (show (1 : Int32) = 0 from h) (by decide)) (fun _ => ?_)
    refine lv_aload_n hx hb dX6_slant_10 rfl (lv_at hl 0 rfl) ?_
    refine lv_iload_n hx hb dX6_slant_11 rfl (lv_at hl 1 rfl) ?_
    refine zgoi hZ hA (zrunV (As := [.int d]) (rest := []) (k := 0) hC hZ (c_X6_storyRefusal l D cy n ad F H.size pic sc ps sh rd dr fa mi hn hX d) mX6_storyRefusal vX6_storyRefusal kX6_157 (zRj_of rfl) (zlt hn rfl) hX.1 rfl rfl hl.1 rfl (Nat.le_of_ble_eq_true rfl) dX6_slant_12 ⟨Nat.le_refl _, Nat.le_refl _⟩) (fun r_6 F_5 hp_7 H locs hZ => ?_)
    obtain ⟨rfl, rfl⟩ := hp_7
    refine lv_goto (tgt := 19) hx hb dX6_slant_15 (by decide) ?_
    refine lv_istore_n (lv' := [(3, .int (sStR sh d)), (0, .ref (ad 0)), (1, .int d), (2, .int q)]) hx hb dX6_slant_19 rfl hl (by decide) rfl (fun ls hl => ?_)
    refine lv_iload_n hx hb dX6_slant_20 rfl (lv_at hl 0 rfl) ?_
    refine lv_if_eq (tgt := 26) hx hb dX6_slant_21 (by decide) (fun c_21 => ?_) (fun c_21 => ?_)
    · refine lv_aload_n hx hb dX6_slant_26 rfl (lv_at hl 1 rfl) ?_
      refine zget hC hZ fX6_25 (zlt hn rfl) hX.1 rfl dX6_slant_27 ?_
      refine lv_iload_n hx hb dX6_slant_30 rfl (lv_at hl 2 rfl) ?_
      have hs_8 := sStR_0 c_21
      refine zaald hC hZ (zlt hn rfl) hX.2.2.2.1 (C := RX4) rfl hs_8.1.1 hs_8.1.2 (by decide) rfl dX6_slant_31 ?_
      refine zget hC hZ fX6_160 (by have := hs_8.1.2; omega) (hX.2.2.2.2.1 (iN d) hs_8.1.2).1 rfl dX6_slant_32 ?_
      refine lv_aload_n hx hb dX6_slant_35 rfl (lv_at hl 1 rfl) ?_
      refine zget hC hZ fX6_10 (zlt hn rfl) hX.1 rfl dX6_slant_36 ?_
      refine zget hC hZ fX6_93 (zlt hn rfl) hX.2.1.1 rfl dX6_slant_39 ?_
      refine lv_iload_n hx hb dX6_slant_42 rfl (lv_at hl 3 rfl) ?_
      refine zgoi hZ hA (zrunV (As := [.ref (ad 2), .int q]) (rest := []) (k := 26 + 3 * (iN d) + 1) hC hZ (c_X5_archAt l D cy n ad F H.size (26 + 3 * (iN d) + 1) (sh (iN d)).2.1 (by have := hs_8.1.2; omega) (hX.2.2.2.2.1 (iN d) hs_8.1.2).2.1 2 sc.1 (zlt hn rfl) hX.2.1.2.1 q ((hG.2.2 _ hs_8.1.2).1 hs_8.2) hG.1.1) mX5_archAt vX5_archAt kX6_253 (zRj_of rfl) (by have := hs_8.1.2; omega) (hX.2.2.2.2.1 (iN d) hs_8.1.2).2.1 rfl rfl hl.1 rfl (Nat.le_of_ble_eq_true rfl) dX6_slant_43 ⟨Nat.le_refl _, Nat.le_refl _⟩) (fun r_10 F_9 hp_11 H locs hZ => ?_)
      obtain ⟨rfl, rfl⟩ := hp_11
      have hv_13 : (sArchAt (sh (iN d)).2.1 sc.1 q) = sArchAt (sh (iN d)).2.1 sc.1 q := by first | rfl | simp [b_4, c_21]
      have hq_12 : (sArchAt (sh (iN d)).2.1 sc.1 q) = zr (bIn q 0 100) (sStR sh d) (sArchAt (sh (iN d)).2.1 sc.1 q) := hv_13.trans (zr_ok b_4 c_21).symm
      exact zireti hC hZ hr hlocks ⟨hq_12, rfl⟩ dX6_slant_46
    · refine lv_iload_n hx hb dX6_slant_24 rfl (lv_at hl 0 rfl) ?_
      have hq_14 : (sStR sh d) = zr (bIn q 0 100) (sStR sh d) (sArchAt (sh (iN d)).2.1 sc.1 q) := (zr_rf b_4 c_21).symm
      exact zireti hC hZ hr hlocks ⟨hq_14, rfl⟩ dX6_slant_25
  · rw [if_neg b_4] at hp_3
    subst hp_3
    refine lv_if_eq (tgt := 18) hx hb dX6_slant_7 (by decide) (fun _ => ?_) (fun h => absurd (show (0 : Int32) = 0 by decide) h)
    refine lv_iconst (v := (-1)) hx hb dX6_slant_18 (by decide) ?_
    refine lv_istore_n (lv' := [(3, .int (-1)), (0, .ref (ad 0)), (1, .int d), (2, .int q)]) hx hb dX6_slant_19 rfl hl (by decide) rfl (fun ls hl => ?_)
    refine lv_iload_n hx hb dX6_slant_20 rfl (lv_at hl 0 rfl) ?_
    refine lv_if_eq (tgt := 26) hx hb dX6_slant_21 (by decide) (fun h => absurd (show (-1 : Int32) = 0 from h) (by decide)) (fun _ => ?_)
    refine lv_iload_n hx hb dX6_slant_24 rfl (lv_at hl 0 rfl) ?_
    have hq_15 : (-1 : Int32) = zr (bIn q 0 100) (sStR sh d) (sArchAt (sh (iN d)).2.1 sc.1 q) := (zr_no b_4).symm
    exact zireti hC hZ hr hlocks ⟨hq_15, rfl⟩ dX6_slant_25

theorem mX6_waits : zMd yX6_waits cX6_waits 3 (some .int) 1 := ⟨by decide +kernel, gt_of 608 (by decide +kernel) rfl, gt_of 45 (by decide +kernel) rfl, by decide⟩
theorem dX6_waits_0 : decode cX6_waits 0 = .ok (.aload_n 0, 1) := by decide +kernel
theorem dX6_waits_1 : decode cX6_waits 1 = .ok (.iload_n 1, 1) := by decide +kernel
theorem dX6_waits_2 : decode cX6_waits 2 = .ok (.invokevirtual 157, 3) := by decide +kernel
theorem dX6_waits_5 : decode cX6_waits 5 = .ok (.istore_n 2, 1) := by decide +kernel
theorem dX6_waits_6 : decode cX6_waits 6 = .ok (.iload_n 2, 1) := by decide +kernel
theorem dX6_waits_7 : decode cX6_waits 7 = .ok (.ifCond .eq 8, 3) := by decide +kernel
theorem dX6_waits_15 : decode cX6_waits 15 = .ok (.aload_n 0, 1) := by decide +kernel
theorem dX6_waits_16 : decode cX6_waits 16 = .ok (.getfield 25, 3) := by decide +kernel
theorem dX6_waits_19 : decode cX6_waits 19 = .ok (.iload_n 1, 1) := by decide +kernel
theorem dX6_waits_20 : decode cX6_waits 20 = .ok (.aaload, 1) := by decide +kernel
theorem dX6_waits_21 : decode cX6_waits 21 = .ok (.getfield 160, 3) := by decide +kernel
theorem dX6_waits_24 : decode cX6_waits 24 = .ok (.invokevirtual 301, 3) := by decide +kernel
theorem kX6_301 : zLk RX6 301 yX5_waiting := Or.inl (gt_of 609 (by decide +kernel) rfl)
theorem vX5_waiting : zMi yX5_waiting := ⟨gt_of 610 (by decide +kernel) rfl, gt_of 611 (by decide +kernel) rfl⟩
theorem dX6_waits_27 : decode cX6_waits 27 = .ok (.ireturn, 1) := by decide +kernel
theorem dX6_waits_10 : decode cX6_waits 10 = .ok (.iload_n 2, 1) := by decide +kernel
theorem dX6_waits_11 : decode cX6_waits 11 = .ok (.invokestatic 243, 3) := by decide +kernel
theorem kX6_243 : zLk RX6 243 yX6_putApart := Or.inl (gt_of 510 (by decide +kernel) rfl)
theorem sX6_putApart : Cond.static yX6_putApart ∈ gtbl := gt_of 511 (by decide +kernel) rfl
theorem dX6_waits_14 : decode cX6_waits 14 = .ok (.ireturn, 1) := by decide +kernel
set_option maxRecDepth 100000 in
theorem c_X6_waits (l : Launch) (D : va_G) (cy : Nat → Nat) (n : Nat) (ad : Nat → Nat) (F : Nat → va_E) (sz : Nat) (pic : Int32) (sc ps : Scn) (sh : Nat → Shf) (rd : Rdr) (dr : Stg) (fa : Tal) (mi : Crs) (hn : 56 ≤ n) (hX : RX ad cy F pic sc ps sh rd dr fa mi) (d : Int32) : Met l yX6_waits (zw yX6_waits cX6_waits 3 (some .int)) (rmL 3) (zPc D cy n ad F sz [.ref (ad 0), .int d]) (va_Qi (fun r F1 => r = (if sStR sh d = 0 then sWait (sh (iN d)).2.1 else -1000000000 + sStR sh d) ∧ F = F1) (zB D n ad) (zA n ad sz)) 0 0 (zA n ad sz) := by
  refine zmet (by decide +kernel) (Nat.le_of_ble_eq_true rfl) (fun p e s m args below meth c ls hC hsz hZ hA hr hlocks hnm hl => ?_)
  have hC : zC p m c cX6_waits 3 s args RX6 D cy := hC
  have hx := hC.1.1
  have hb := hC.1.2.1
  have hl : lv_has ls 3 [(0, .ref (ad 0)), (1, .int d)] := hl
  refine lv_aload_n hx hb dX6_waits_0 rfl (lv_at hl 0 rfl) ?_
  refine lv_iload_n hx hb dX6_waits_1 rfl (lv_at hl 1 rfl) ?_
  refine zgoi hZ hA (zrunV (As := [.int d]) (rest := []) (k := 0) hC hZ (c_X6_storyRefusal l D cy n ad F s.heap.size pic sc ps sh rd dr fa mi hn hX d) mX6_storyRefusal vX6_storyRefusal kX6_157 (zRj_of rfl) (zlt hn rfl) hX.1 rfl rfl hl.1 rfl (Nat.le_of_ble_eq_true rfl) dX6_waits_2 ⟨Nat.le_refl _, Nat.le_refl _⟩) (fun r_2 F_1 hp_3 H locs hZ => ?_)
  obtain ⟨rfl, rfl⟩ := hp_3
  refine lv_istore_n (lv' := [(2, .int (sStR sh d)), (0, .ref (ad 0)), (1, .int d)]) hx hb dX6_waits_5 rfl hl (by decide) rfl (fun ls hl => ?_)
  refine lv_iload_n hx hb dX6_waits_6 rfl (lv_at hl 0 rfl) ?_
  refine lv_if_eq (tgt := 15) hx hb dX6_waits_7 (by decide) (fun c_7 => ?_) (fun c_7 => ?_)
  · refine lv_aload_n hx hb dX6_waits_15 rfl (lv_at hl 1 rfl) ?_
    refine zget hC hZ fX6_25 (zlt hn rfl) hX.1 rfl dX6_waits_16 ?_
    refine lv_iload_n hx hb dX6_waits_19 rfl (lv_at hl 2 rfl) ?_
    have hs_4 := sStR_0 c_7
    refine zaald hC hZ (zlt hn rfl) hX.2.2.2.1 (C := RX4) rfl hs_4.1.1 hs_4.1.2 (by decide) rfl dX6_waits_20 ?_
    refine zget hC hZ fX6_160 (by have := hs_4.1.2; omega) (hX.2.2.2.2.1 (iN d) hs_4.1.2).1 rfl dX6_waits_21 ?_
    refine zgoi hZ hA (zrunV (As := []) (rest := []) (k := 26 + 3 * (iN d) + 1) hC hZ (c_X5_waiting l D cy n ad F H.size (26 + 3 * (iN d) + 1) (sh (iN d)).2.1 (by have := hs_4.1.2; omega) (hX.2.2.2.2.1 (iN d) hs_4.1.2).2.1) mX5_waiting vX5_waiting kX6_301 (zRj_of rfl) (by have := hs_4.1.2; omega) (hX.2.2.2.2.1 (iN d) hs_4.1.2).2.1 rfl rfl hl.1 rfl (Nat.le_of_ble_eq_true rfl) dX6_waits_24 ⟨Nat.le_refl _, Nat.le_refl _⟩) (fun r_6 F_5 hp_7 H locs hZ => ?_)
    obtain ⟨rfl, rfl⟩ := hp_7
    have hq0 : (sWait (sh (iN d)).2.1) = if sStR sh d = 0 then sWait (sh (iN d)).2.1 else -1000000000 + sStR sh d := (if_pos c_7).symm
    exact zireti hC hZ hr hlocks ⟨hq0, rfl⟩ dX6_waits_27
  · refine lv_iload_n hx hb dX6_waits_10 rfl (lv_at hl 0 rfl) ?_
    refine zgoi hZ hA (zrunS (As := [.int (sStR sh d)]) (rest := []) hC hZ (c_X6_putApart l D cy n ad F H.size (sStR sh d)) mX6_putApart sX6_putApart kX6_243 (zRj_of rfl) rfl hl.1 rfl (Nat.le_of_ble_eq_true rfl) dX6_waits_11 ⟨Nat.le_refl _, Nat.le_refl _⟩) (fun r_9 F_8 hp_10 H locs hZ => ?_)
    obtain ⟨rfl, rfl⟩ := hp_10
    have hq0 : (-1000000000 + (sStR sh d)) = if sStR sh d = 0 then sWait (sh (iN d)).2.1 else -1000000000 + sStR sh d := (if_neg c_7).symm
    exact zireti hC hZ hr hlocks ⟨hq0, rfl⟩ dX6_waits_14
