theorem mX6_isWithin : zMd yX6_isWithin cX6_isWithin 3 (some .boolean) 3 := ⟨by decide +kernel, gt_of 265 (by decide +kernel) rfl, gt_of 45 (by decide +kernel) rfl, by decide⟩
theorem dX6_isWithin_0 : decode cX6_isWithin 0 = .ok (.iload_n 0, 1) := by decide +kernel
theorem dX6_isWithin_1 : decode cX6_isWithin 1 = .ok (.iload_n 1, 1) := by decide +kernel
theorem dX6_isWithin_2 : decode cX6_isWithin 2 = .ok (.if_icmp .lt 12, 3) := by decide +kernel
theorem dX6_isWithin_14 : decode cX6_isWithin 14 = .ok (.iconst 0, 1) := by decide +kernel
theorem dX6_isWithin_15 : decode cX6_isWithin 15 = .ok (.ireturn, 1) := by decide +kernel
theorem dX6_isWithin_5 : decode cX6_isWithin 5 = .ok (.iload_n 0, 1) := by decide +kernel
theorem dX6_isWithin_6 : decode cX6_isWithin 6 = .ok (.iload_n 2, 1) := by decide +kernel
theorem dX6_isWithin_7 : decode cX6_isWithin 7 = .ok (.if_icmp .gt 7, 3) := by decide +kernel
theorem dX6_isWithin_10 : decode cX6_isWithin 10 = .ok (.iconst 1, 1) := by decide +kernel
theorem dX6_isWithin_11 : decode cX6_isWithin 11 = .ok (.goto 4, 3) := by decide +kernel
set_option maxRecDepth 100000 in
theorem c_X6_isWithin (l : Launch) (D : va_G) (cy : Nat → Nat) (n : Nat) (ad : Nat → Nat) (F : Nat → va_E) (sz : Nat) (v lo hi : Int32) : Met l yX6_isWithin (zw yX6_isWithin cX6_isWithin 3 (some .boolean)) (rmL 0) (zPc D cy n ad F sz [.int v, .int lo, .int hi]) (va_Qi (fun r F1 => r = (if bIn v lo hi then 1 else 0) ∧ F = F1) (zB D n ad) (zA n ad sz)) 0 0 (zA n ad sz) := by
  refine zmet (by decide +kernel) (Nat.le_of_ble_eq_true rfl) (fun p e s m args below meth c ls hC hsz hZ hA hr hlocks hnm hl => ?_)
  have hC : zC p m c cX6_isWithin 3 s args RX6 D cy := hC
  have hx := hC.1.1
  have hb := hC.1.2.1
  have hl : lv_has ls 3 [(0, .int v), (1, .int lo), (2, .int hi)] := hl
  refine lv_iload_n hx hb dX6_isWithin_0 rfl (lv_at hl 0 rfl) ?_
  refine lv_iload_n hx hb dX6_isWithin_1 rfl (lv_at hl 1 rfl) ?_
  refine lv_icmp_lt (tgt := 14) hx hb dX6_isWithin_2 (by decide) (fun c_2 => ?_) (fun c_2 => ?_)
  · refine lv_iconst (v := 0) hx hb dX6_isWithin_14 (by decide) ?_
    have hq_1 : (0 : Int32) = if bIn v lo hi then 1 else 0 := by simp [c_2, Int32.not_le.mpr c_2]
    exact zbreti hC hZ hr hlocks rfl ⟨hq_1, rfl⟩ dX6_isWithin_15
  · refine lv_iload_n hx hb dX6_isWithin_5 rfl (lv_at hl 0 rfl) ?_
    refine lv_iload_n hx hb dX6_isWithin_6 rfl (lv_at hl 2 rfl) ?_
    refine lv_icmp_gt (tgt := 14) hx hb dX6_isWithin_7 (by decide) (fun c_7 => ?_) (fun c_7 => ?_)
    · refine lv_iconst (v := 0) hx hb dX6_isWithin_14 (by decide) ?_
      have hq_2 : (0 : Int32) = if bIn v lo hi then 1 else 0 := by simp [c_2, Int32.not_lt.mp c_2, c_7, Int32.not_le.mpr c_7]
      exact zbreti hC hZ hr hlocks rfl ⟨hq_2, rfl⟩ dX6_isWithin_15
    · refine lv_iconst (v := 1) hx hb dX6_isWithin_10 (by decide) ?_
      refine lv_goto (tgt := 15) hx hb dX6_isWithin_11 (by decide) ?_
      have hq_3 : (1 : Int32) = if bIn v lo hi then 1 else 0 := by simp [c_2, Int32.not_lt.mp c_2, c_7, Int32.not_lt.mp c_7]
      exact zbreti hC hZ hr hlocks rfl ⟨hq_3, rfl⟩ dX6_isWithin_15

theorem mX6_isShelf : zMd yX6_isShelf cX6_isShelf 1 (some .boolean) 1 := ⟨by decide +kernel, gt_of 284 (by decide +kernel) rfl, gt_of 45 (by decide +kernel) rfl, by decide⟩
theorem dX6_isShelf_0 : decode cX6_isShelf 0 = .ok (.iload_n 0, 1) := by decide +kernel
theorem dX6_isShelf_1 : decode cX6_isShelf 1 = .ok (.ifCond .lt 13, 3) := by decide +kernel
theorem dX6_isShelf_14 : decode cX6_isShelf 14 = .ok (.iconst 0, 1) := by decide +kernel
theorem dX6_isShelf_15 : decode cX6_isShelf 15 = .ok (.ireturn, 1) := by decide +kernel
theorem dX6_isShelf_4 : decode cX6_isShelf 4 = .ok (.iload_n 0, 1) := by decide +kernel
theorem dX6_isShelf_5 : decode cX6_isShelf 5 = .ok (.bipush 8, 2) := by decide +kernel
theorem dX6_isShelf_7 : decode cX6_isShelf 7 = .ok (.if_icmp .ge 7, 3) := by decide +kernel
theorem dX6_isShelf_10 : decode cX6_isShelf 10 = .ok (.iconst 1, 1) := by decide +kernel
theorem dX6_isShelf_11 : decode cX6_isShelf 11 = .ok (.goto 4, 3) := by decide +kernel
set_option maxRecDepth 100000 in
theorem c_X6_isShelf (l : Launch) (D : va_G) (cy : Nat → Nat) (n : Nat) (ad : Nat → Nat) (F : Nat → va_E) (sz : Nat) (d : Int32) : Met l yX6_isShelf (zw yX6_isShelf cX6_isShelf 1 (some .boolean)) (rmL 0) (zPc D cy n ad F sz [.int d]) (va_Qi (fun r F1 => r = (if bSh d then 1 else 0) ∧ F = F1) (zB D n ad) (zA n ad sz)) 0 0 (zA n ad sz) := by
  refine zmet (by decide +kernel) (Nat.le_of_ble_eq_true rfl) (fun p e s m args below meth c ls hC hsz hZ hA hr hlocks hnm hl => ?_)
  have hC : zC p m c cX6_isShelf 1 s args RX6 D cy := hC
  have hx := hC.1.1
  have hb := hC.1.2.1
  have hl : lv_has ls 1 [(0, .int d)] := hl
  refine lv_iload_n hx hb dX6_isShelf_0 rfl (lv_at hl 0 rfl) ?_
  refine lv_if_lt (tgt := 14) hx hb dX6_isShelf_1 (by decide) (fun c_1 => ?_) (fun c_1 => ?_)
  · refine lv_iconst (v := 0) hx hb dX6_isShelf_14 (by decide) ?_
    have hq_1 : (0 : Int32) = if bSh d then 1 else 0 := by simp [c_1, Int32.not_le.mpr c_1]
    exact zbreti hC hZ hr hlocks rfl ⟨hq_1, rfl⟩ dX6_isShelf_15
  · refine lv_iload_n hx hb dX6_isShelf_4 rfl (lv_at hl 0 rfl) ?_
    refine lv_bipush (v := 8) hx hb dX6_isShelf_5 (by decide) ?_
    refine lv_icmp_ge (tgt := 14) hx hb dX6_isShelf_7 (by decide) (fun c_7 => ?_) (fun c_7 => ?_)
    · refine lv_iconst (v := 0) hx hb dX6_isShelf_14 (by decide) ?_
      have hq_2 : (0 : Int32) = if bSh d then 1 else 0 := by simp [c_1, Int32.not_lt.mp c_1, c_7, Int32.not_lt.mpr c_7]
      exact zbreti hC hZ hr hlocks rfl ⟨hq_2, rfl⟩ dX6_isShelf_15
    · refine lv_iconst (v := 1) hx hb dX6_isShelf_10 (by decide) ?_
      refine lv_goto (tgt := 15) hx hb dX6_isShelf_11 (by decide) ?_
      have hq_3 : (1 : Int32) = if bSh d then 1 else 0 := by simp [c_1, Int32.not_lt.mp c_1, c_7, Int32.not_le.mp c_7]
      exact zbreti hC hZ hr hlocks rfl ⟨hq_3, rfl⟩ dX6_isShelf_15

theorem mX6_firstRefusal : zMd yX6_firstRefusal cX6_firstRefusal 2 (some .int) 2 := ⟨by decide +kernel, gt_of 456 (by decide +kernel) rfl, gt_of 45 (by decide +kernel) rfl, by decide⟩
theorem dX6_firstRefusal_0 : decode cX6_firstRefusal 0 = .ok (.iload_n 0, 1) := by decide +kernel
theorem dX6_firstRefusal_1 : decode cX6_firstRefusal 1 = .ok (.ifCond .eq 7, 3) := by decide +kernel
theorem dX6_firstRefusal_8 : decode cX6_firstRefusal 8 = .ok (.iload_n 0, 1) := by decide +kernel
theorem dX6_firstRefusal_9 : decode cX6_firstRefusal 9 = .ok (.iload_n 1, 1) := by decide +kernel
theorem dX6_firstRefusal_10 : decode cX6_firstRefusal 10 = .ok (.iadd, 1) := by decide +kernel
theorem dX6_firstRefusal_11 : decode cX6_firstRefusal 11 = .ok (.ireturn, 1) := by decide +kernel
theorem dX6_firstRefusal_4 : decode cX6_firstRefusal 4 = .ok (.iload_n 1, 1) := by decide +kernel
theorem dX6_firstRefusal_5 : decode cX6_firstRefusal 5 = .ok (.ifCond .ne 7, 3) := by decide +kernel
theorem dX6_firstRefusal_12 : decode cX6_firstRefusal 12 = .ok (.iload_n 0, 1) := by decide +kernel
theorem dX6_firstRefusal_13 : decode cX6_firstRefusal 13 = .ok (.iload_n 1, 1) := by decide +kernel
theorem dX6_firstRefusal_14 : decode cX6_firstRefusal 14 = .ok (.invokestatic 73, 3) := by decide +kernel
theorem kX6_73 : zMath RX6 73 Lib.Math.max.name Lib.Math.max.code 2 (some .int) := ⟨gt_of 457 (by decide +kernel) rfl, gt_of 410 (by decide +kernel) rfl, gt_of 53 (by decide +kernel) rfl, gt_of 411 (by decide +kernel) rfl⟩
theorem dX6_firstRefusal_17 : decode cX6_firstRefusal 17 = .ok (.ireturn, 1) := by decide +kernel
set_option maxRecDepth 100000 in
theorem c_X6_firstRefusal (l : Launch) (D : va_G) (cy : Nat → Nat) (n : Nat) (ad : Nat → Nat) (F : Nat → va_E) (sz : Nat) (x y : Int32) : Met l yX6_firstRefusal (zw yX6_firstRefusal cX6_firstRefusal 2 (some .int)) (rmL 1) (zPc D cy n ad F sz [.int x, .int y]) (va_Qi (fun r F1 => r = sFirst x y ∧ F = F1) (zB D n ad) (zA n ad sz)) 0 0 (zA n ad sz) := by
  refine zmet (by decide +kernel) (Nat.le_of_ble_eq_true rfl) (fun p e s m args below meth c ls hC hsz hZ hA hr hlocks hnm hl => ?_)
  have hC : zC p m c cX6_firstRefusal 2 s args RX6 D cy := hC
  have hx := hC.1.1
  have hb := hC.1.2.1
  have hl : lv_has ls 2 [(0, .int x), (1, .int y)] := hl
  refine lv_iload_n hx hb dX6_firstRefusal_0 rfl (lv_at hl 0 rfl) ?_
  refine lv_if_eq (tgt := 8) hx hb dX6_firstRefusal_1 (by decide) (fun c_1 => ?_) (fun c_1 => ?_)
  · refine lv_iload_n hx hb dX6_firstRefusal_8 rfl (lv_at hl 0 rfl) ?_
    refine lv_iload_n hx hb dX6_firstRefusal_9 rfl (lv_at hl 1 rfl) ?_
    refine lv_iadd hx hb dX6_firstRefusal_10 ?_
    have hq_1 : (x + y) = sFirst x y := by first | rfl | simp [sFirst, sMax, c_1] | (simp only [sFirst, sMax]; simp [c_1])
    exact zireti hC hZ hr hlocks ⟨hq_1, rfl⟩ dX6_firstRefusal_11
  · refine lv_iload_n hx hb dX6_firstRefusal_4 rfl (lv_at hl 1 rfl) ?_
    refine lv_if_ne (tgt := 12) hx hb dX6_firstRefusal_5 (by decide) (fun c_5 => ?_) (fun c_5 => ?_)
    · refine lv_iload_n hx hb dX6_firstRefusal_12 rfl (lv_at hl 0 rfl) ?_
      refine lv_iload_n hx hb dX6_firstRefusal_13 rfl (lv_at hl 1 rfl) ?_
      refine zmax hC kX6_73 hl.1 (zRj_of rfl) (Nat.le_of_ble_eq_true rfl) ⟨Nat.le_refl _, Nat.le_refl _⟩ dX6_firstRefusal_14 ?_
      have hq_2 : (if x < y then y else x) = sFirst x y := by first | rfl | simp [sFirst, sMax, c_1, c_5] | (simp only [sFirst, sMax]; simp [c_1, c_5])
      exact zireti hC hZ hr hlocks ⟨hq_2, rfl⟩ dX6_firstRefusal_17
    · refine lv_iload_n hx hb dX6_firstRefusal_8 rfl (lv_at hl 0 rfl) ?_
      refine lv_iload_n hx hb dX6_firstRefusal_9 rfl (lv_at hl 1 rfl) ?_
      refine lv_iadd hx hb dX6_firstRefusal_10 ?_
      have hq_3 : (x + y) = sFirst x y := by first | rfl | simp [sFirst, sMax, c_1, c_5] | (simp only [sFirst, sMax]; simp [c_1, c_5])
      exact zireti hC hZ hr hlocks ⟨hq_3, rfl⟩ dX6_firstRefusal_11

theorem mX6_putApart : zMd yX6_putApart cX6_putApart 1 (some .int) 1 := ⟨by decide +kernel, gt_of 512 (by decide +kernel) rfl, gt_of 45 (by decide +kernel) rfl, by decide⟩
theorem dX6_putApart_0 : decode cX6_putApart 0 = .ok (.ldc 78, 2) := by decide +kernel
theorem qX6_78 : Cond.constant RX6 78 (-1000000000) ∈ gtbl := gt_of 513 (by decide +kernel) rfl
theorem dX6_putApart_2 : decode cX6_putApart 2 = .ok (.iload_n 0, 1) := by decide +kernel
theorem dX6_putApart_3 : decode cX6_putApart 3 = .ok (.iadd, 1) := by decide +kernel
theorem dX6_putApart_4 : decode cX6_putApart 4 = .ok (.ireturn, 1) := by decide +kernel
set_option maxRecDepth 100000 in
theorem c_X6_putApart (l : Launch) (D : va_G) (cy : Nat → Nat) (n : Nat) (ad : Nat → Nat) (F : Nat → va_E) (sz : Nat) (x : Int32) : Met l yX6_putApart (zw yX6_putApart cX6_putApart 1 (some .int)) (rmL 0) (zPc D cy n ad F sz [.int x]) (va_Qi (fun r F1 => r = -1000000000 + x ∧ F = F1) (zB D n ad) (zA n ad sz)) 0 0 (zA n ad sz) := by
  refine zmet (by decide +kernel) (Nat.le_of_ble_eq_true rfl) (fun p e s m args below meth c ls hC hsz hZ hA hr hlocks hnm hl => ?_)
  have hC : zC p m c cX6_putApart 1 s args RX6 D cy := hC
  have hx := hC.1.1
  have hb := hC.1.2.1
  have hl : lv_has ls 1 [(0, .int x)] := hl
  refine lv_ldc (v := (-1000000000)) hx hb hC.1.2.2.2.1 (hC.1.2.2.2.2 _ qX6_78) dX6_putApart_0 ?_
  refine lv_iload_n hx hb dX6_putApart_2 rfl (lv_at hl 0 rfl) ?_
  refine lv_iadd hx hb dX6_putApart_3 ?_
  have hq_1 : ((-1000000000) + x) = -1000000000 + x := by rfl
  exact zireti hC hZ hr hlocks ⟨hq_1, rfl⟩ dX6_putApart_4

theorem mX3_isAsTold : zMd yX3_isAsTold cX3_isAsTold 1 (some .boolean) 0 := ⟨by decide +kernel, gt_of 339 (by decide +kernel) rfl, gt_of 47 (by decide +kernel) rfl, by decide⟩
theorem dX3_isAsTold_0 : decode cX3_isAsTold 0 = .ok (.aload_n 0, 1) := by decide +kernel
theorem dX3_isAsTold_1 : decode cX3_isAsTold 1 = .ok (.getfield 9, 3) := by decide +kernel
theorem dX3_isAsTold_4 : decode cX3_isAsTold 4 = .ok (.iconst 0, 1) := by decide +kernel
theorem dX3_isAsTold_5 : decode cX3_isAsTold 5 = .ok (.bipush 100, 2) := by decide +kernel
theorem dX3_isAsTold_7 : decode cX3_isAsTold 7 = .ok (.invokestatic 24, 3) := by decide +kernel
theorem kX3_24 : zLk RX3 24 yX6_isWithin := Or.inr ⟨"ChainLeap", List.mem_of_getElem? (i := 340) (by decide +kernel)⟩
theorem sX6_isWithin : Cond.static yX6_isWithin ∈ gtbl := gt_of 264 (by decide +kernel) rfl
theorem dX3_isAsTold_10 : decode cX3_isAsTold 10 = .ok (.ifCond .eq 46, 3) := by decide +kernel
theorem dX3_isAsTold_13 : decode cX3_isAsTold 13 = .ok (.aload_n 0, 1) := by decide +kernel
theorem dX3_isAsTold_14 : decode cX3_isAsTold 14 = .ok (.getfield 15, 3) := by decide +kernel
theorem dX3_isAsTold_17 : decode cX3_isAsTold 17 = .ok (.iconst 0, 1) := by decide +kernel
theorem dX3_isAsTold_18 : decode cX3_isAsTold 18 = .ok (.bipush 100, 2) := by decide +kernel
theorem dX3_isAsTold_20 : decode cX3_isAsTold 20 = .ok (.invokestatic 24, 3) := by decide +kernel
theorem dX3_isAsTold_23 : decode cX3_isAsTold 23 = .ok (.ifCond .eq 33, 3) := by decide +kernel
theorem dX3_isAsTold_26 : decode cX3_isAsTold 26 = .ok (.aload_n 0, 1) := by decide +kernel
theorem dX3_isAsTold_27 : decode cX3_isAsTold 27 = .ok (.getfield 18, 3) := by decide +kernel
theorem dX3_isAsTold_30 : decode cX3_isAsTold 30 = .ok (.iconst 0, 1) := by decide +kernel
theorem dX3_isAsTold_31 : decode cX3_isAsTold 31 = .ok (.iconst 2, 1) := by decide +kernel
theorem dX3_isAsTold_32 : decode cX3_isAsTold 32 = .ok (.invokestatic 24, 3) := by decide +kernel
theorem dX3_isAsTold_35 : decode cX3_isAsTold 35 = .ok (.ifCond .eq 21, 3) := by decide +kernel
theorem dX3_isAsTold_38 : decode cX3_isAsTold 38 = .ok (.aload_n 0, 1) := by decide +kernel
theorem dX3_isAsTold_39 : decode cX3_isAsTold 39 = .ok (.getfield 21, 3) := by decide +kernel
theorem dX3_isAsTold_42 : decode cX3_isAsTold 42 = .ok (.iconst 1, 1) := by decide +kernel
theorem dX3_isAsTold_43 : decode cX3_isAsTold 43 = .ok (.sipush 400, 3) := by decide +kernel
theorem dX3_isAsTold_46 : decode cX3_isAsTold 46 = .ok (.invokestatic 24, 3) := by decide +kernel
theorem dX3_isAsTold_49 : decode cX3_isAsTold 49 = .ok (.ifCond .eq 7, 3) := by decide +kernel
theorem dX3_isAsTold_52 : decode cX3_isAsTold 52 = .ok (.iconst 1, 1) := by decide +kernel
theorem dX3_isAsTold_53 : decode cX3_isAsTold 53 = .ok (.goto 4, 3) := by decide +kernel
theorem dX3_isAsTold_57 : decode cX3_isAsTold 57 = .ok (.ireturn, 1) := by decide +kernel
theorem dX3_isAsTold_56 : decode cX3_isAsTold 56 = .ok (.iconst 0, 1) := by decide +kernel
set_option maxRecDepth 100000 in
theorem c_X3_isAsTold (l : Launch) (D : va_G) (cy : Nat → Nat) (n : Nat) (ad : Nat → Nat) (F : Nat → va_E) (sz : Nat) (j : Nat) (b : Stg) (hj : j < n) (hFj : F j = oSetting b) : Met l yX3_isAsTold (zw yX3_isAsTold cX3_isAsTold 1 (some .boolean)) (rmL 1) (zPc D cy n ad F sz [.ref (ad j)]) (va_Qi (fun r F1 => r = (if bTold b then 1 else 0) ∧ F = F1) (zB D n ad) (zA n ad sz)) 0 0 (zA n ad sz) := by
  refine zmet (by decide +kernel) (Nat.le_of_ble_eq_true rfl) (fun p e s m args below meth c ls hC hsz hZ hA hr hlocks hnm hl => ?_)
  have hC : zC p m c cX3_isAsTold 1 s args RX3 D cy := hC
  have hx := hC.1.1
  have hb := hC.1.2.1
  have hl : lv_has ls 1 [(0, .ref (ad j))] := hl
  refine lv_aload_n hx hb dX3_isAsTold_0 rfl (lv_at hl 0 rfl) ?_
  refine zget hC hZ fX3_9 hj hFj rfl dX3_isAsTold_1 ?_
  refine lv_iconst (v := 0) hx hb dX3_isAsTold_4 (by decide) ?_
  refine lv_bipush (v := 100) hx hb dX3_isAsTold_5 (by decide) ?_
  refine zgoi hZ hA (zrunS (As := [.int b.1, .int 0, .int 100]) (rest := []) hC hZ (c_X6_isWithin l D cy n ad F s.heap.size b.1 0 100) mX6_isWithin sX6_isWithin kX3_24 (zRj_of rfl) rfl hl.1 rfl (Nat.le_of_ble_eq_true rfl) dX3_isAsTold_7 ⟨Nat.le_refl _, Nat.le_refl _⟩) (fun r_2 F_1 hp_3 H locs hZ => ?_)
  obtain ⟨hp_3, rfl⟩ := hp_3
  by_cases b_4 : bIn b.1 0 100
  · rw [if_pos b_4] at hp_3
    subst hp_3
    refine lv_if_eq (tgt := 56) hx hb dX3_isAsTold_10 (by decide) (fun h => absurd (show (1 : Int32) = 0 from h) (by decide)) (fun _ => ?_)
    refine lv_aload_n hx hb dX3_isAsTold_13 rfl (lv_at hl 0 rfl) ?_
    refine zget hC hZ fX3_15 hj hFj rfl dX3_isAsTold_14 ?_
    refine lv_iconst (v := 0) hx hb dX3_isAsTold_17 (by decide) ?_
    refine lv_bipush (v := 100) hx hb dX3_isAsTold_18 (by decide) ?_
    refine zgoi hZ hA (zrunS (As := [.int b.2.1, .int 0, .int 100]) (rest := []) hC hZ (c_X6_isWithin l D cy n ad F H.size b.2.1 0 100) mX6_isWithin sX6_isWithin kX3_24 (zRj_of rfl) rfl hl.1 rfl (Nat.le_of_ble_eq_true rfl) dX3_isAsTold_20 ⟨Nat.le_refl _, Nat.le_refl _⟩) (fun r_6 F_5 hp_7 H locs hZ => ?_)
    obtain ⟨hp_7, rfl⟩ := hp_7
    by_cases b_8 : bIn b.2.1 0 100
    · rw [if_pos b_8] at hp_7
      subst hp_7
      refine lv_if_eq (tgt := 56) hx hb dX3_isAsTold_23 (by decide) (fun h => absurd (show (1 : Int32) = 0 from h) (by decide)) (fun _ => ?_)
      refine lv_aload_n hx hb dX3_isAsTold_26 rfl (lv_at hl 0 rfl) ?_
      refine zget hC hZ fX3_18 hj hFj rfl dX3_isAsTold_27 ?_
      refine lv_iconst (v := 0) hx hb dX3_isAsTold_30 (by decide) ?_
      refine lv_iconst (v := 2) hx hb dX3_isAsTold_31 (by decide) ?_
      refine zgoi hZ hA (zrunS (As := [.int b.2.2.1, .int 0, .int 2]) (rest := []) hC hZ (c_X6_isWithin l D cy n ad F H.size b.2.2.1 0 2) mX6_isWithin sX6_isWithin kX3_24 (zRj_of rfl) rfl hl.1 rfl (Nat.le_of_ble_eq_true rfl) dX3_isAsTold_32 ⟨Nat.le_refl _, Nat.le_refl _⟩) (fun r_10 F_9 hp_11 H locs hZ => ?_)
      obtain ⟨hp_11, rfl⟩ := hp_11
      by_cases b_12 : bIn b.2.2.1 0 2
      · rw [if_pos b_12] at hp_11
        subst hp_11
        refine lv_if_eq (tgt := 56) hx hb dX3_isAsTold_35 (by decide) (fun h => absurd (show (1 : Int32) = 0 from h) (by decide)) (fun _ => ?_)
        refine lv_aload_n hx hb dX3_isAsTold_38 rfl (lv_at hl 0 rfl) ?_
        refine zget hC hZ fX3_21 hj hFj rfl dX3_isAsTold_39 ?_
        refine lv_iconst (v := 1) hx hb dX3_isAsTold_42 (by decide) ?_
        refine lv_sipush (v := 400) hx hb dX3_isAsTold_43 (by decide) ?_
        refine zgoi hZ hA (zrunS (As := [.int b.2.2.2, .int 1, .int 400]) (rest := []) hC hZ (c_X6_isWithin l D cy n ad F H.size b.2.2.2 1 400) mX6_isWithin sX6_isWithin kX3_24 (zRj_of rfl) rfl hl.1 rfl (Nat.le_of_ble_eq_true rfl) dX3_isAsTold_46 ⟨Nat.le_refl _, Nat.le_refl _⟩) (fun r_14 F_13 hp_15 H locs hZ => ?_)
        obtain ⟨hp_15, rfl⟩ := hp_15
        by_cases b_16 : bIn b.2.2.2 1 400
        · rw [if_pos b_16] at hp_15
          subst hp_15
          refine lv_if_eq (tgt := 56) hx hb dX3_isAsTold_49 (by decide) (fun h => absurd (show (1 : Int32) = 0 from h) (by decide)) (fun _ => ?_)
          refine lv_iconst (v := 1) hx hb dX3_isAsTold_52 (by decide) ?_
          refine lv_goto (tgt := 57) hx hb dX3_isAsTold_53 (by decide) ?_
          have hq_17 : (1 : Int32) = if bTold b then 1 else 0 := by simp [b_4, b_8, b_12, b_16]
          exact zbreti hC hZ hr hlocks rfl ⟨hq_17, rfl⟩ dX3_isAsTold_57
        · rw [if_neg b_16] at hp_15
          subst hp_15
          refine lv_if_eq (tgt := 56) hx hb dX3_isAsTold_49 (by decide) (fun _ => ?_) (fun h => absurd (show (0 : Int32) = 0 by decide) h)
          refine lv_iconst (v := 0) hx hb dX3_isAsTold_56 (by decide) ?_
          have hq_18 : (0 : Int32) = if bTold b then 1 else 0 := by simp [b_4, b_8, b_12, b_16]
          exact zbreti hC hZ hr hlocks rfl ⟨hq_18, rfl⟩ dX3_isAsTold_57
      · rw [if_neg b_12] at hp_11
        subst hp_11
        refine lv_if_eq (tgt := 56) hx hb dX3_isAsTold_35 (by decide) (fun _ => ?_) (fun h => absurd (show (0 : Int32) = 0 by decide) h)
        refine lv_iconst (v := 0) hx hb dX3_isAsTold_56 (by decide) ?_
        have hq_19 : (0 : Int32) = if bTold b then 1 else 0 := by simp [b_4, b_8, b_12]
        exact zbreti hC hZ hr hlocks rfl ⟨hq_19, rfl⟩ dX3_isAsTold_57
    · rw [if_neg b_8] at hp_7
      subst hp_7
      refine lv_if_eq (tgt := 56) hx hb dX3_isAsTold_23 (by decide) (fun _ => ?_) (fun h => absurd (show (0 : Int32) = 0 by decide) h)
      refine lv_iconst (v := 0) hx hb dX3_isAsTold_56 (by decide) ?_
      have hq_20 : (0 : Int32) = if bTold b then 1 else 0 := by simp [b_4, b_8]
      exact zbreti hC hZ hr hlocks rfl ⟨hq_20, rfl⟩ dX3_isAsTold_57
  · rw [if_neg b_4] at hp_3
    subst hp_3
    refine lv_if_eq (tgt := 56) hx hb dX3_isAsTold_10 (by decide) (fun _ => ?_) (fun h => absurd (show (0 : Int32) = 0 by decide) h)
    refine lv_iconst (v := 0) hx hb dX3_isAsTold_56 (by decide) ?_
    have hq_21 : (0 : Int32) = if bTold b then 1 else 0 := by simp [b_4]
    exact zbreti hC hZ hr hlocks rfl ⟨hq_21, rfl⟩ dX3_isAsTold_57

theorem mX2_hasTry : zMd yX2_hasTry cX2_hasTry 2 (some .boolean) 1 := ⟨by decide +kernel, gt_of 356 (by decide +kernel) rfl, gt_of 46 (by decide +kernel) rfl, by decide⟩
theorem dX2_hasTry_0 : decode cX2_hasTry 0 = .ok (.iload_n 1, 1) := by decide +kernel
theorem dX2_hasTry_1 : decode cX2_hasTry 1 = .ok (.ifCond .lt 21, 3) := by decide +kernel
theorem dX2_hasTry_22 : decode cX2_hasTry 22 = .ok (.iconst 0, 1) := by decide +kernel
theorem dX2_hasTry_23 : decode cX2_hasTry 23 = .ok (.ireturn, 1) := by decide +kernel
theorem dX2_hasTry_4 : decode cX2_hasTry 4 = .ok (.iload_n 1, 1) := by decide +kernel
theorem dX2_hasTry_5 : decode cX2_hasTry 5 = .ok (.aload_n 0, 1) := by decide +kernel
theorem dX2_hasTry_6 : decode cX2_hasTry 6 = .ok (.getfield 26, 3) := by decide +kernel
theorem fX2_26 : zFld RX2 26 2 3 := ⟨RX2, TX2, 5, rfl, inX2, by decide, rfl, Or.inl (gt_of 142 (by decide +kernel) rfl)⟩
theorem dX2_hasTry_9 : decode cX2_hasTry 9 = .ok (.if_icmp .ge 13, 3) := by decide +kernel
theorem dX2_hasTry_12 : decode cX2_hasTry 12 = .ok (.iload_n 1, 1) := by decide +kernel
theorem dX2_hasTry_13 : decode cX2_hasTry 13 = .ok (.bipush 8, 2) := by decide +kernel
theorem dX2_hasTry_15 : decode cX2_hasTry 15 = .ok (.if_icmp .ge 7, 3) := by decide +kernel
theorem dX2_hasTry_18 : decode cX2_hasTry 18 = .ok (.iconst 1, 1) := by decide +kernel
theorem dX2_hasTry_19 : decode cX2_hasTry 19 = .ok (.goto 4, 3) := by decide +kernel
set_option maxRecDepth 100000 in
theorem c_X2_hasTry (l : Launch) (D : va_G) (cy : Nat → Nat) (n : Nat) (ad : Nat → Nat) (F : Nat → va_E) (sz : Nat) (k : Nat) (sc : Scn) (hk : k + 12 ≤ n) (hR : RS ad cy k F sc) (i : Int32) : Met l yX2_hasTry (zw yX2_hasTry cX2_hasTry 2 (some .boolean)) (rmL 0) (zPc D cy n ad F sz [.ref (ad k), .int i]) (va_Qi (fun r F1 => r = (if bTry sc.2.2.2.1 i then 1 else 0) ∧ F = F1) (zB D n ad) (zA n ad sz)) 0 0 (zA n ad sz) := by
  refine zmet (by decide +kernel) (Nat.le_of_ble_eq_true rfl) (fun p e s m args below meth c ls hC hsz hZ hA hr hlocks hnm hl => ?_)
  have hC : zC p m c cX2_hasTry 2 s args RX2 D cy := hC
  have hx := hC.1.1
  have hb := hC.1.2.1
  have hl : lv_has ls 2 [(0, .ref (ad k)), (1, .int i)] := hl
  refine lv_iload_n hx hb dX2_hasTry_0 rfl (lv_at hl 1 rfl) ?_
  refine lv_if_lt (tgt := 22) hx hb dX2_hasTry_1 (by decide) (fun c_1 => ?_) (fun c_1 => ?_)
  · refine lv_iconst (v := 0) hx hb dX2_hasTry_22 (by decide) ?_
    have hq_1 : (0 : Int32) = if bTry sc.2.2.2.1 i then 1 else 0 := by simp [c_1, Int32.not_le.mpr c_1]
    exact zbreti hC hZ hr hlocks rfl ⟨hq_1, rfl⟩ dX2_hasTry_23
  · refine lv_iload_n hx hb dX2_hasTry_4 rfl (lv_at hl 1 rfl) ?_
    refine lv_aload_n hx hb dX2_hasTry_5 rfl (lv_at hl 0 rfl) ?_
    refine zget hC hZ fX2_26 (by omega) hR.1 rfl dX2_hasTry_6 ?_
    refine lv_icmp_ge (tgt := 22) hx hb dX2_hasTry_9 (by decide) (fun c_9 => ?_) (fun c_9 => ?_)
    · refine lv_iconst (v := 0) hx hb dX2_hasTry_22 (by decide) ?_
      have hq_2 : (0 : Int32) = if bTry sc.2.2.2.1 i then 1 else 0 := by simp [c_1, Int32.not_lt.mp c_1, c_9, Int32.not_lt.mpr c_9]
      exact zbreti hC hZ hr hlocks rfl ⟨hq_2, rfl⟩ dX2_hasTry_23
    · refine lv_iload_n hx hb dX2_hasTry_12 rfl (lv_at hl 1 rfl) ?_
      refine lv_bipush (v := 8) hx hb dX2_hasTry_13 (by decide) ?_
      refine lv_icmp_ge (tgt := 22) hx hb dX2_hasTry_15 (by decide) (fun c_15 => ?_) (fun c_15 => ?_)
      · refine lv_iconst (v := 0) hx hb dX2_hasTry_22 (by decide) ?_
        have hq_3 : (0 : Int32) = if bTry sc.2.2.2.1 i then 1 else 0 := by simp [c_1, Int32.not_lt.mp c_1, c_9, Int32.not_le.mp c_9, c_15, Int32.not_lt.mpr c_15]
        exact zbreti hC hZ hr hlocks rfl ⟨hq_3, rfl⟩ dX2_hasTry_23
      · refine lv_iconst (v := 1) hx hb dX2_hasTry_18 (by decide) ?_
        refine lv_goto (tgt := 23) hx hb dX2_hasTry_19 (by decide) ?_
        have hq_4 : (1 : Int32) = if bTry sc.2.2.2.1 i then 1 else 0 := by simp [c_1, Int32.not_lt.mp c_1, c_9, Int32.not_le.mp c_9, c_15, Int32.not_le.mp c_15]
        exact zbreti hC hZ hr hlocks rfl ⟨hq_4, rfl⟩ dX2_hasTry_23

theorem mX2_isDone : zMd yX2_isDone cX2_isDone 1 (some .boolean) 0 := ⟨by decide +kernel, gt_of 428 (by decide +kernel) rfl, gt_of 46 (by decide +kernel) rfl, by decide⟩
theorem dX2_isDone_0 : decode cX2_isDone 0 = .ok (.aload_n 0, 1) := by decide +kernel
theorem dX2_isDone_1 : decode cX2_isDone 1 = .ok (.getfield 32, 3) := by decide +kernel
theorem fX2_32 : zFld RX2 32 2 4 := ⟨RX2, TX2, 5, rfl, inX2, by decide, rfl, Or.inl (gt_of 144 (by decide +kernel) rfl)⟩
theorem dX2_isDone_4 : decode cX2_isDone 4 = .ok (.getfield 43, 3) := by decide +kernel
theorem fX2_43 : zFld RX2 43 0 3 := ⟨RX0, TX0, 5, rfl, inX0, by decide, rfl, Or.inr ⟨"ChainLeap", List.mem_of_getElem? (i := 121) (by decide +kernel)⟩⟩
theorem dX2_isDone_7 : decode cX2_isDone 7 = .ok (.aload_n 0, 1) := by decide +kernel
theorem dX2_isDone_8 : decode cX2_isDone 8 = .ok (.getfield 18, 3) := by decide +kernel
theorem fX2_18 : zFld RX2 18 2 1 := ⟨RX2, TX2, 5, rfl, inX2, by decide, rfl, Or.inl (gt_of 138 (by decide +kernel) rfl)⟩
theorem dX2_isDone_11 : decode cX2_isDone 11 = .ok (.if_icmp .lt 7, 3) := by decide +kernel
theorem dX2_isDone_18 : decode cX2_isDone 18 = .ok (.iconst 0, 1) := by decide +kernel
theorem dX2_isDone_19 : decode cX2_isDone 19 = .ok (.ireturn, 1) := by decide +kernel
theorem dX2_isDone_14 : decode cX2_isDone 14 = .ok (.iconst 1, 1) := by decide +kernel
theorem dX2_isDone_15 : decode cX2_isDone 15 = .ok (.goto 4, 3) := by decide +kernel
set_option maxRecDepth 100000 in
theorem c_X2_isDone (l : Launch) (D : va_G) (cy : Nat → Nat) (n : Nat) (ad : Nat → Nat) (F : Nat → va_E) (sz : Nat) (k : Nat) (sc : Scn) (hk : k + 12 ≤ n) (hR : RS ad cy k F sc) : Met l yX2_isDone (zw yX2_isDone cX2_isDone 1 (some .boolean)) (rmL 0) (zPc D cy n ad F sz [.ref (ad k)]) (va_Qi (fun r F1 => r = (if sc.2.1 ≤ sc.2.2.2.2.2.2.2.1 then 1 else 0) ∧ F = F1) (zB D n ad) (zA n ad sz)) 0 0 (zA n ad sz) := by
  refine zmet (by decide +kernel) (Nat.le_of_ble_eq_true rfl) (fun p e s m args below meth c ls hC hsz hZ hA hr hlocks hnm hl => ?_)
  have hC : zC p m c cX2_isDone 1 s args RX2 D cy := hC
  have hx := hC.1.1
  have hb := hC.1.2.1
  have hl : lv_has ls 1 [(0, .ref (ad k))] := hl
  refine lv_aload_n hx hb dX2_isDone_0 rfl (lv_at hl 0 rfl) ?_
  refine zget hC hZ fX2_32 (by omega) hR.1 rfl dX2_isDone_1 ?_
  refine zget hC hZ fX2_43 (by omega) hR.2.2.2.1 rfl dX2_isDone_4 ?_
  refine lv_aload_n hx hb dX2_isDone_7 rfl (lv_at hl 0 rfl) ?_
  refine zget hC hZ fX2_18 (by omega) hR.1 rfl dX2_isDone_8 ?_
  refine lv_icmp_lt (tgt := 18) hx hb dX2_isDone_11 (by decide) (fun c_11 => ?_) (fun c_11 => ?_)
  · refine lv_iconst (v := 0) hx hb dX2_isDone_18 (by decide) ?_
    have hq_1 : (0 : Int32) = if sc.2.1 ≤ sc.2.2.2.2.2.2.2.1 then 1 else 0 := by simp [c_11, Int32.not_le.mpr c_11]
    exact zbreti hC hZ hr hlocks rfl ⟨hq_1, rfl⟩ dX2_isDone_19
  · refine lv_iconst (v := 1) hx hb dX2_isDone_14 (by decide) ?_
    refine lv_goto (tgt := 19) hx hb dX2_isDone_15 (by decide) ?_
    have hq_2 : (1 : Int32) = if sc.2.1 ≤ sc.2.2.2.2.2.2.2.1 then 1 else 0 := by simp [c_11, Int32.not_lt.mp c_11]
    exact zbreti hC hZ hr hlocks rfl ⟨hq_2, rfl⟩ dX2_isDone_19

theorem mX2_step : zMd yX2_step cX2_step 3 none 2 := ⟨by decide +kernel, gt_of 396 (by decide +kernel) rfl, gt_of 46 (by decide +kernel) rfl, by decide⟩
theorem dX2_step_0 : decode cX2_step 0 = .ok (.aload_n 1, 1) := by decide +kernel
theorem dX2_step_1 : decode cX2_step 1 = .ok (.aload_n 2, 1) := by decide +kernel
theorem dX2_step_2 : decode cX2_step 2 = .ok (.aload_n 0, 1) := by decide +kernel
theorem dX2_step_3 : decode cX2_step 3 = .ok (.getfield 12, 3) := by decide +kernel
theorem fX2_12 : zFld RX2 12 2 0 := ⟨RX2, TX2, 5, rfl, inX2, by decide, rfl, Or.inl (gt_of 136 (by decide +kernel) rfl)⟩
theorem dX2_step_6 : decode cX2_step 6 = .ok (.invokevirtual 46, 3) := by decide +kernel
theorem kX2_46 : zLk RX2 46 yX5_kick := Or.inl (gt_of 397 (by decide +kernel) rfl)
theorem dX2_step_9 : decode cX2_step 9 = .ok (.aload_n 2, 1) := by decide +kernel
theorem dX2_step_10 : decode cX2_step 10 = .ok (.aload_n 0, 1) := by decide +kernel
theorem dX2_step_11 : decode cX2_step 11 = .ok (.getfield 12, 3) := by decide +kernel
theorem dX2_step_14 : decode cX2_step 14 = .ok (.invokevirtual 52, 3) := by decide +kernel
theorem kX2_52 : zLk RX2 52 yX5_less := Or.inl (gt_of 398 (by decide +kernel) rfl)
theorem dX2_step_17 : decode cX2_step 17 = .ok (.aload_n 0, 1) := by decide +kernel
theorem dX2_step_18 : decode cX2_step 18 = .ok (.getfield 12, 3) := by decide +kernel
theorem dX2_step_21 : decode cX2_step 21 = .ok (.getfield 55, 3) := by decide +kernel
theorem fX2_55 : zFld RX2 55 3 3 := ⟨RX3, TX3, 4, rfl, inX3, by decide, rfl, Or.inr ⟨"ChainLeap", List.mem_of_getElem? (i := 95) (by decide +kernel)⟩⟩
theorem dX2_step_24 : decode cX2_step 24 = .ok (.aload_n 0, 1) := by decide +kernel
theorem dX2_step_25 : decode cX2_step 25 = .ok (.getfield 18, 3) := by decide +kernel
theorem dX2_step_28 : decode cX2_step 28 = .ok (.invokevirtual 58, 3) := by decide +kernel
theorem kX2_58 : zLk RX2 58 yX0_step := Or.inl (gt_of 405 (by decide +kernel) rfl)
theorem vX0_step : zMi yX0_step := ⟨gt_of 406 (by decide +kernel) rfl, gt_of 407 (by decide +kernel) rfl⟩
theorem dX2_step_31 : decode cX2_step 31 = .ok (.return_, 1) := by decide +kernel
set_option maxRecDepth 100000 in
theorem c_X2_step (l : Launch) (D : va_G) (cy : Nat → Nat) (n : Nat) (ad : Nat → Nat) (F : Nat → va_E) (sz : Nat) (k : Nat) (sc : Scn) (hk : k + 12 ≤ n) (hR : RS ad cy k F sc) (j : Nat) (c0 : Crs) (hj : j < n) (hFj : F j = oCourse c0) (q : Nat) (t : Tal) (hq : q < n) (hFq : F q = oTale t) : Met l yX2_step (zw yX2_step cX2_step 3 none) (rmL 3) (zPc D cy n ad F sz [.ref (ad k), .ref (ad j), .ref (ad q)]) (va_Qv (fun F1 => F1 = va_up F j (oCourse (sStep (sKick t sc.1) (sLess t sc.1) sc.1.2.2.2 sc.2.1 c0))) (zB D n ad) (zA n ad sz)) 0 0 (zA n ad sz) := by
  refine zmet (by decide +kernel) (Nat.le_of_ble_eq_true rfl) (fun p e s m args below meth c ls hC hsz hZ hA hr hlocks hnm hl => ?_)
  have hC : zC p m c cX2_step 3 s args RX2 D cy := hC
  have hx := hC.1.1
  have hb := hC.1.2.1
  have hl : lv_has ls 3 [(0, .ref (ad k)), (1, .ref (ad j)), (2, .ref (ad q))] := hl
  refine lv_aload_n hx hb dX2_step_0 rfl (lv_at hl 1 rfl) ?_
  refine lv_aload_n hx hb dX2_step_1 rfl (lv_at hl 2 rfl) ?_
  refine lv_aload_n hx hb dX2_step_2 rfl (lv_at hl 0 rfl) ?_
  refine zget hC hZ fX2_12 (by omega) hR.1 rfl dX2_step_3 ?_
  refine zgoi hZ hA (zrunV (As := [.ref (ad (k + 1))]) (rest := [.ref (ad j)]) (k := q) hC hZ (c_X5_kick l D cy n ad F s.heap.size q t hq hFq (k + 1) sc.1 (by omega) hR.2.1) mX5_kick vX5_kick kX2_46 (zRj_of rfl) hq hFq rfl rfl hl.1 rfl (Nat.le_of_ble_eq_true rfl) dX2_step_6 ⟨Nat.le_refl _, Nat.le_refl _⟩) (fun r_2 F_1 hp_3 H locs hZ => ?_)
  obtain ⟨rfl, rfl⟩ := hp_3
  refine lv_aload_n hx hb dX2_step_9 rfl (lv_at hl 2 rfl) ?_
  refine lv_aload_n hx hb dX2_step_10 rfl (lv_at hl 0 rfl) ?_
  refine zget hC hZ fX2_12 (by omega) hR.1 rfl dX2_step_11 ?_
  refine zgoi hZ hA (zrunV (As := [.ref (ad (k + 1))]) (rest := [.int (sKick t sc.1), .ref (ad j)]) (k := q) hC hZ (c_X5_less l D cy n ad F H.size q t hq hFq (k + 1) sc.1 (by omega) hR.2.1) mX5_less vX5_less kX2_52 (zRj_of rfl) hq hFq rfl rfl hl.1 rfl (Nat.le_of_ble_eq_true rfl) dX2_step_14 ⟨Nat.le_refl _, Nat.le_refl _⟩) (fun r_5 F_4 hp_6 H locs hZ => ?_)
  obtain ⟨rfl, rfl⟩ := hp_6
  refine lv_aload_n hx hb dX2_step_17 rfl (lv_at hl 0 rfl) ?_
  refine zget hC hZ fX2_12 (by omega) hR.1 rfl dX2_step_18 ?_
  refine zget hC hZ fX2_55 (by omega) hR.2.1 rfl dX2_step_21 ?_
  refine lv_aload_n hx hb dX2_step_24 rfl (lv_at hl 0 rfl) ?_
  refine zget hC hZ fX2_18 (by omega) hR.1 rfl dX2_step_25 ?_
  refine zgov hZ hA (zrunV (As := [.int (sKick t sc.1), .int (sLess t sc.1), .int sc.1.2.2.2, .int sc.2.1]) (rest := []) (k := j) hC hZ (c_X0_step l D cy n ad F H.size j c0 hj hFj (sKick t sc.1) (sLess t sc.1) sc.1.2.2.2 sc.2.1) mX0_step vX0_step kX2_58 (zRj_of rfl) hj hFj rfl rfl hl.1 rfl (Nat.le_of_ble_eq_true rfl) dX2_step_28 ⟨Nat.le_refl _, Nat.le_refl _⟩) (fun F_7 hp_9 H locs hZ => ?_)
  have h_10 := zeq hp_9
  exact zvret hC hZ hr hlocks hp_9 dX2_step_31

theorem mX2_writes : zMd yX2_writes cX2_writes 4 (some .boolean) 2 := ⟨by decide +kernel, gt_of 335 (by decide +kernel) rfl, gt_of 46 (by decide +kernel) rfl, by decide⟩
theorem dX2_writes_0 : decode cX2_writes 0 = .ok (.aload_n 0, 1) := by decide +kernel
theorem dX2_writes_1 : decode cX2_writes 1 = .ok (.getfield 26, 3) := by decide +kernel
theorem dX2_writes_4 : decode cX2_writes 4 = .ok (.iload_n 2, 1) := by decide +kernel
theorem dX2_writes_5 : decode cX2_writes 5 = .ok (.iadd, 1) := by decide +kernel
theorem dX2_writes_6 : decode cX2_writes 6 = .ok (.istore_n 3, 1) := by decide +kernel
theorem dX2_writes_7 : decode cX2_writes 7 = .ok (.aload_n 1, 1) := by decide +kernel
theorem dX2_writes_8 : decode cX2_writes 8 = .ok (.invokevirtual 62, 3) := by decide +kernel
theorem kX2_62 : zLk RX2 62 yX3_isAsTold := Or.inl (gt_of 336 (by decide +kernel) rfl)
theorem vX3_isAsTold : zMi yX3_isAsTold := ⟨gt_of 337 (by decide +kernel) rfl, gt_of 338 (by decide +kernel) rfl⟩
theorem dX2_writes_11 : decode cX2_writes 11 = .ok (.ifCond .eq 13, 3) := by decide +kernel
theorem dX2_writes_14 : decode cX2_writes 14 = .ok (.iload_n 3, 1) := by decide +kernel
theorem dX2_writes_15 : decode cX2_writes 15 = .ok (.ifCond .lt 9, 3) := by decide +kernel
theorem dX2_writes_24 : decode cX2_writes 24 = .ok (.iconst 0, 1) := by decide +kernel
theorem dX2_writes_25 : decode cX2_writes 25 = .ok (.ireturn, 1) := by decide +kernel
theorem dX2_writes_18 : decode cX2_writes 18 = .ok (.iload_n 3, 1) := by decide +kernel
theorem dX2_writes_19 : decode cX2_writes 19 = .ok (.bipush 8, 2) := by decide +kernel
theorem dX2_writes_21 : decode cX2_writes 21 = .ok (.if_icmp .lt 5, 3) := by decide +kernel
theorem dX2_writes_26 : decode cX2_writes 26 = .ok (.aload_n 0, 1) := by decide +kernel
theorem dX2_writes_27 : decode cX2_writes 27 = .ok (.getfield 22, 3) := by decide +kernel
theorem fX2_22 : zFld RX2 22 2 2 := ⟨RX2, TX2, 5, rfl, inX2, by decide, rfl, Or.inl (gt_of 140 (by decide +kernel) rfl)⟩
theorem dX2_writes_30 : decode cX2_writes 30 = .ok (.iload_n 3, 1) := by decide +kernel
theorem dX2_writes_31 : decode cX2_writes 31 = .ok (.aaload, 1) := by decide +kernel
theorem dX2_writes_32 : decode cX2_writes 32 = .ok (.aload_n 1, 1) := by decide +kernel
theorem dX2_writes_33 : decode cX2_writes 33 = .ok (.invokevirtual 36, 3) := by decide +kernel
theorem kX2_36 : zLk RX2 36 yX3_take := Or.inl (gt_of 341 (by decide +kernel) rfl)
theorem vX3_take : zMi yX3_take := ⟨gt_of 342 (by decide +kernel) rfl, gt_of 343 (by decide +kernel) rfl⟩
theorem dX2_writes_36 : decode cX2_writes 36 = .ok (.iconst 1, 1) := by decide +kernel
theorem dX2_writes_37 : decode cX2_writes 37 = .ok (.ireturn, 1) := by decide +kernel
set_option maxRecDepth 100000 in
theorem c_X2_writes (l : Launch) (D : va_G) (cy : Nat → Nat) (n : Nat) (ad : Nat → Nat) (F : Nat → va_E) (sz : Nat) (k : Nat) (sc : Scn) (hk : k + 12 ≤ n) (hR : RS ad cy k F sc) (j : Nat) (b : Stg) (hj : j < n) (hFj : F j = oSetting b) (hjk : ∀ i, i < 8 → j ≠ k + 4 + i) (ah : Int32) : Met l yX2_writes (zw yX2_writes cX2_writes 4 (some .boolean)) (rmL 2) (zPc D cy n ad F sz [.ref (ad k), .ref (ad j), .int ah]) (va_Qi (fun r F1 => ((bTold b ∧ 0 ≤ sc.2.2.2.1 + ah ∧ sc.2.2.2.1 + ah < 8) ∧ r = 1 ∧ F1 = va_up F (k + 4 + iN (sc.2.2.2.1 + ah)) (oSetting b)) ∨ (¬ (bTold b ∧ 0 ≤ sc.2.2.2.1 + ah ∧ sc.2.2.2.1 + ah < 8) ∧ r = 0 ∧ F = F1)) (zB D n ad) (zA n ad sz)) 0 0 (zA n ad sz) := by
  refine zmet (by decide +kernel) (Nat.le_of_ble_eq_true rfl) (fun p e s m args below meth c ls hC hsz hZ hA hr hlocks hnm hl => ?_)
  have hC : zC p m c cX2_writes 4 s args RX2 D cy := hC
  have hx := hC.1.1
  have hb := hC.1.2.1
  have hl : lv_has ls 4 [(0, .ref (ad k)), (1, .ref (ad j)), (2, .int ah)] := hl
  refine lv_aload_n hx hb dX2_writes_0 rfl (lv_at hl 0 rfl) ?_
  refine zget hC hZ fX2_26 (by omega) hR.1 rfl dX2_writes_1 ?_
  refine lv_iload_n hx hb dX2_writes_4 rfl (lv_at hl 2 rfl) ?_
  refine lv_iadd hx hb dX2_writes_5 ?_
  refine lv_istore_n (lv' := [(3, .int (sc.2.2.2.1 + ah)), (0, .ref (ad k)), (1, .ref (ad j)), (2, .int ah)]) hx hb dX2_writes_6 rfl hl (by decide) rfl (fun ls hl => ?_)
  refine lv_aload_n hx hb dX2_writes_7 rfl (lv_at hl 2 rfl) ?_
  refine zgoi hZ hA (zrunV (As := []) (rest := []) (k := j) hC hZ (c_X3_isAsTold l D cy n ad F s.heap.size j b hj hFj) mX3_isAsTold vX3_isAsTold kX2_62 (zRj_of rfl) hj hFj rfl rfl hl.1 rfl (Nat.le_of_ble_eq_true rfl) dX2_writes_8 ⟨Nat.le_refl _, Nat.le_refl _⟩) (fun r_2 F_1 hp_3 H locs hZ => ?_)
  obtain ⟨hp_3, rfl⟩ := hp_3
  by_cases b_4 : bTold b
  · rw [if_pos b_4] at hp_3
    subst hp_3
    refine lv_if_eq (tgt := 24) hx hb dX2_writes_11 (by decide) (fun h => absurd (show (1 : Int32) = 0 from h) (by decide)) (fun _ => ?_)
    refine lv_iload_n hx hb dX2_writes_14 rfl (lv_at hl 0 rfl) ?_
    refine lv_if_lt (tgt := 24) hx hb dX2_writes_15 (by decide) (fun c_15 => ?_) (fun c_15 => ?_)
    · refine lv_iconst (v := 0) hx hb dX2_writes_24 (by decide) ?_
      have hq_5 : ¬ (bTold b ∧ 0 ≤ sc.2.2.2.1 + ah ∧ sc.2.2.2.1 + ah < 8) := by simp [b_4, c_15, Int32.not_le.mpr c_15]
      exact zbreti hC hZ hr hlocks rfl (Or.inr ⟨hq_5, rfl, rfl⟩) dX2_writes_25
    · refine lv_iload_n hx hb dX2_writes_18 rfl (lv_at hl 0 rfl) ?_
      refine lv_bipush (v := 8) hx hb dX2_writes_19 (by decide) ?_
      refine lv_icmp_lt (tgt := 26) hx hb dX2_writes_21 (by decide) (fun c_21 => ?_) (fun c_21 => ?_)
      · refine lv_aload_n hx hb dX2_writes_26 rfl (lv_at hl 1 rfl) ?_
        refine zget hC hZ fX2_22 (by omega) hR.1 rfl dX2_writes_27 ?_
        refine lv_iload_n hx hb dX2_writes_30 rfl (lv_at hl 0 rfl) ?_
        have hi8 := iN_at (N := 8) (Int32.not_lt.mp c_15) c_21 rfl
        have hl8 := hi8.2
        refine zaald hC hZ (by omega) hR.2.2.1 (C := RX3) rfl hi8.1 hl8 (by decide) rfl dX2_writes_31 ?_
        refine lv_aload_n hx hb dX2_writes_32 rfl (lv_at hl 2 rfl) ?_
        refine zgov hZ hA (zrunV (As := [.ref (ad j)]) (rest := []) (k := k + 4 + (iN (sc.2.2.2.1 + ah))) hC hZ (c_X3_take l D cy n ad F H.size (k + 4 + (iN (sc.2.2.2.1 + ah))) (sc.2.2.1 (iN (sc.2.2.2.1 + ah))) (by have := hl8; omega) (hR.2.2.2.2 (iN (sc.2.2.2.1 + ah)) hl8) j b hj hFj (fun h => hjk _ hl8 h)) mX3_take vX3_take kX2_36 (zRj_of rfl) (by have := hl8; omega) (hR.2.2.2.2 (iN (sc.2.2.2.1 + ah)) hl8) rfl rfl hl.1 rfl (Nat.le_of_ble_eq_true rfl) dX2_writes_33 ⟨Nat.le_refl _, Nat.le_refl _⟩) (fun F_6 hp_8 H locs hZ => ?_)
        have h_9 := zeq hp_8
        refine lv_iconst (v := 1) hx hb dX2_writes_36 (by decide) ?_
        have hq_10 : bTold b ∧ 0 ≤ sc.2.2.2.1 + ah ∧ sc.2.2.2.1 + ah < 8 := ⟨b_4, Int32.not_lt.mp c_15, c_21⟩
        exact zbreti hC hZ hr hlocks rfl (Or.inl ⟨hq_10, rfl, hp_8⟩) dX2_writes_37
      · refine lv_iconst (v := 0) hx hb dX2_writes_24 (by decide) ?_
        have hq_11 : ¬ (bTold b ∧ 0 ≤ sc.2.2.2.1 + ah ∧ sc.2.2.2.1 + ah < 8) := by simp [b_4, c_15, Int32.not_lt.mp c_15, c_21, Int32.not_lt.mp c_21]
        exact zbreti hC hZ hr hlocks rfl (Or.inr ⟨hq_11, rfl, rfl⟩) dX2_writes_25
  · rw [if_neg b_4] at hp_3
    subst hp_3
    refine lv_if_eq (tgt := 24) hx hb dX2_writes_11 (by decide) (fun _ => ?_) (fun h => absurd (show (0 : Int32) = 0 by decide) h)
    refine lv_iconst (v := 0) hx hb dX2_writes_24 (by decide) ?_
    have hq_12 : ¬ (bTold b ∧ 0 ≤ sc.2.2.2.1 + ah ∧ sc.2.2.2.1 + ah < 8) := by simp [b_4]
    exact zbreti hC hZ hr hlocks rfl (Or.inr ⟨hq_12, rfl, rfl⟩) dX2_writes_25

theorem mX2_take : zMd yX2_take cX2_take 3 none 1 := ⟨by decide +kernel, gt_of 551 (by decide +kernel) rfl, gt_of 46 (by decide +kernel) rfl, by decide⟩
theorem dX2_take_0 : decode cX2_take 0 = .ok (.aload_n 0, 1) := by decide +kernel
theorem dX2_take_1 : decode cX2_take 1 = .ok (.getfield 12, 3) := by decide +kernel
theorem dX2_take_4 : decode cX2_take 4 = .ok (.aload_n 1, 1) := by decide +kernel
theorem dX2_take_5 : decode cX2_take 5 = .ok (.getfield 12, 3) := by decide +kernel
theorem dX2_take_8 : decode cX2_take 8 = .ok (.invokevirtual 36, 3) := by decide +kernel
theorem dX2_take_11 : decode cX2_take 11 = .ok (.aload_n 0, 1) := by decide +kernel
theorem dX2_take_12 : decode cX2_take 12 = .ok (.aload_n 1, 1) := by decide +kernel
theorem dX2_take_13 : decode cX2_take 13 = .ok (.getfield 18, 3) := by decide +kernel
theorem dX2_take_16 : decode cX2_take 16 = .ok (.putfield 18, 3) := by decide +kernel
theorem pX2_18 : zFldP RX2 18 2 1 false .int := ⟨RX2, TX2, 5, tyX2, rfl, inX2, by decide, rfl, Or.inl (gt_of 138 (by decide +kernel) rfl), tyX2_ok, nmX2, rfl, by decide +kernel, fun h => by cases h⟩
theorem dX2_take_19 : decode cX2_take 19 = .ok (.iconst 0, 1) := by decide +kernel
theorem dX2_take_20 : decode cX2_take 20 = .ok (.istore_n 2, 1) := by decide +kernel
theorem dX2_take_21 : decode cX2_take 21 = .ok (.iload_n 2, 1) := by decide +kernel
theorem dX2_take_22 : decode cX2_take 22 = .ok (.bipush 8, 2) := by decide +kernel
theorem dX2_take_24 : decode cX2_take 24 = .ok (.if_icmp .ge 24, 3) := by decide +kernel
theorem dX2_take_48 : decode cX2_take 48 = .ok (.aload_n 0, 1) := by decide +kernel
theorem dX2_take_49 : decode cX2_take 49 = .ok (.aload_n 1, 1) := by decide +kernel
theorem dX2_take_50 : decode cX2_take 50 = .ok (.getfield 26, 3) := by decide +kernel
theorem dX2_take_53 : decode cX2_take 53 = .ok (.putfield 26, 3) := by decide +kernel
theorem pX2_26 : zFldP RX2 26 2 3 false .int := ⟨RX2, TX2, 5, tyX2, rfl, inX2, by decide, rfl, Or.inl (gt_of 142 (by decide +kernel) rfl), tyX2_ok, nmX2, rfl, by decide +kernel, fun h => by cases h⟩
theorem dX2_take_56 : decode cX2_take 56 = .ok (.aload_n 0, 1) := by decide +kernel
theorem dX2_take_57 : decode cX2_take 57 = .ok (.getfield 32, 3) := by decide +kernel
theorem dX2_take_60 : decode cX2_take 60 = .ok (.aload_n 1, 1) := by decide +kernel
theorem dX2_take_61 : decode cX2_take 61 = .ok (.getfield 32, 3) := by decide +kernel
theorem dX2_take_64 : decode cX2_take 64 = .ok (.invokevirtual 40, 3) := by decide +kernel
theorem kX2_40 : zLk RX2 40 yX0_take := Or.inl (gt_of 552 (by decide +kernel) rfl)
theorem vX0_take : zMi yX0_take := ⟨gt_of 553 (by decide +kernel) rfl, gt_of 554 (by decide +kernel) rfl⟩
theorem dX2_take_67 : decode cX2_take 67 = .ok (.return_, 1) := by decide +kernel
theorem dX2_take_27 : decode cX2_take 27 = .ok (.aload_n 0, 1) := by decide +kernel
theorem dX2_take_28 : decode cX2_take 28 = .ok (.getfield 22, 3) := by decide +kernel
theorem dX2_take_31 : decode cX2_take 31 = .ok (.iload_n 2, 1) := by decide +kernel
theorem dX2_take_32 : decode cX2_take 32 = .ok (.aaload, 1) := by decide +kernel
theorem dX2_take_33 : decode cX2_take 33 = .ok (.aload_n 1, 1) := by decide +kernel
theorem dX2_take_34 : decode cX2_take 34 = .ok (.getfield 22, 3) := by decide +kernel
theorem dX2_take_37 : decode cX2_take 37 = .ok (.iload_n 2, 1) := by decide +kernel
theorem dX2_take_38 : decode cX2_take 38 = .ok (.aaload, 1) := by decide +kernel
theorem dX2_take_39 : decode cX2_take 39 = .ok (.invokevirtual 36, 3) := by decide +kernel
theorem dX2_take_42 : decode cX2_take 42 = .ok (.iinc 2 1, 3) := by decide +kernel
theorem dX2_take_45 : decode cX2_take 45 = .ok (.goto (-24), 3) := by decide +kernel
set_option maxRecDepth 100000 in
theorem c_X2_take (l : Launch) (D : va_G) (cy : Nat → Nat) (n : Nat) (ad : Nat → Nat) (F : Nat → va_E) (sz : Nat) (k : Nat) (sc : Scn) (hk : k + 12 ≤ n) (hR : RS ad cy k F sc) (b : Nat) (sd : Scn) (hb12 : b + 12 ≤ n) (hR2 : RS ad cy b F sd) (hkb : k + 12 ≤ b ∨ b + 12 ≤ k) : Met l yX2_take (zw yX2_take cX2_take 3 none) (rmL 1) (zPc D cy n ad F sz [.ref (ad k), .ref (ad b)]) (va_Qv (fun F1 => RS ad cy k F1 sd ∧ ∀ q, ¬ (k ≤ q ∧ q < k + 12) → F1 q = F q) (zB D n ad) (zA n ad sz)) 0 0 (zA n ad sz) := by
  refine zmet (by decide +kernel) (Nat.le_of_ble_eq_true rfl) (fun p e s m args below meth c ls hC hsz hZ hA hr hlocks hnm hl => ?_)
  have hC : zC p m c cX2_take 3 s args RX2 D cy := hC
  have hx := hC.1.1
  have hb := hC.1.2.1
  have hl : lv_has ls 3 [(0, .ref (ad k)), (1, .ref (ad b))] := hl
  refine lv_aload_n hx hb dX2_take_0 rfl (lv_at hl 0 rfl) ?_
  refine zget hC hZ fX2_12 (by omega) hR.1 rfl dX2_take_1 ?_
  refine lv_aload_n hx hb dX2_take_4 rfl (lv_at hl 1 rfl) ?_
  refine zget hC hZ fX2_12 (by omega) hR2.1 rfl dX2_take_5 ?_
  refine zgov hZ hA (zrunV (As := [.ref (ad (b + 1))]) (rest := []) (k := k + 1) hC hZ (c_X3_take l D cy n ad F s.heap.size (k + 1) sc.1 (by omega) hR.2.1 (b + 1) sd.1 (by omega) hR2.2.1 (by omega)) mX3_take vX3_take kX2_36 (zRj_of rfl) (by omega) hR.2.1 rfl rfl hl.1 rfl (Nat.le_of_ble_eq_true rfl) dX2_take_8 ⟨Nat.le_refl _, Nat.le_refl _⟩) (fun F_1 hp_3 H locs hZ => ?_)
  have h_4 := zeq hp_3
  refine lv_aload_n hx hb dX2_take_11 rfl (lv_at hl 0 rfl) ?_
  refine lv_aload_n hx hb dX2_take_12 rfl (lv_at hl 1 rfl) ?_
  refine zget hC hZ fX2_18 (by omega) (zne hp_3 (by omega) hR2.1) rfl dX2_take_13 ?_
  refine zput (E := oScene ad k sd.2.1 sc.2.2.2.1) hC hZ pX2_18 (by omega) (zne hp_3 (by omega) hR.1) rfl rfl rfl (Nat.le_of_ble_eq_true rfl) dX2_take_16 (fun F_5 hF_6 H locs hZ => ?_)
  have h_7 := zeq hF_6
  refine lv_iconst (v := 0) hx hb dX2_take_19 (by decide) ?_
  refine lv_istore_n (lv' := [(2, .int 0), (0, .ref (ad k)), (1, .ref (ad b))]) hx hb dX2_take_20 rfl hl (by decide) rfl (fun ls hl => ?_)
  refine zlp (X := Nat) 21 (fun _ => []) (fun i ls F1 => i ≤ 8 ∧ lv_has ls 3 [(2, .int (nI i)), (0, .ref (ad k)), (1, .ref (ad b))] ∧ RS ad cy k F1 (sd.1, sd.2.1, (fun j => if j < i then sd.2.2.1 j else sc.2.2.1 j), sc.2.2.2.1, sc.2.2.2.2) ∧ ∀ q, ¬ (k ≤ q ∧ q < k + 12) → F1 q = F q) (fun i => 8 - i) ?_ 0 hZ ⟨by omega, hl, ?_, ?_⟩
  · intro i ih ls F3 H locs hZ hφ
    obtain ⟨hi, hl, hRk, hfr⟩ := hφ
    have hRb : RS ad cy b F3 sd := RS_fr hR2 (fun q h1 h2 => hfr q (by omega))
    refine lv_iload_n hx hb dX2_take_21 rfl (lv_at hl 0 rfl) ?_
    refine lv_bipush (v := 8) hx hb dX2_take_22 (by decide) ?_
    refine lv_icmp_ge (tgt := 48) hx hb dX2_take_24 (by decide) (fun c_24 => ?_) (fun c_24 => ?_)
    · refine lv_aload_n hx hb dX2_take_48 rfl (lv_at hl 1 rfl) ?_
      refine lv_aload_n hx hb dX2_take_49 rfl (lv_at hl 2 rfl) ?_
      refine zget hC hZ fX2_26 (by omega) hRb.1 rfl dX2_take_50 ?_
      refine zput (E := oScene ad k sd.2.1 sd.2.2.2.1) hC hZ pX2_26 (by omega) hRk.1 rfl rfl rfl (Nat.le_of_ble_eq_true rfl) dX2_take_53 (fun F_8 hF_9 H locs hZ => ?_)
      have h_10 := zeq hF_9
      refine lv_aload_n hx hb dX2_take_56 rfl (lv_at hl 1 rfl) ?_
      refine zget hC hZ fX2_32 (by omega) h_10 rfl dX2_take_57 ?_
      refine lv_aload_n hx hb dX2_take_60 rfl (lv_at hl 2 rfl) ?_
      refine zget hC hZ fX2_32 (by omega) (zne hF_9 (by omega) hRb.1) rfl dX2_take_61 ?_
      refine zgov hZ hA (zrunV (As := [.ref (ad (b + 3))]) (rest := []) (k := k + 3) hC hZ (c_X0_take l D cy n ad F_8 H.size (k + 3) sc.2.2.2.2 (by omega) (zne hF_9 (by omega) hRk.2.2.2.1) (b + 3) sd.2.2.2.2 (by omega) (zne hF_9 (by omega) hRb.2.2.2.1) (by omega)) mX0_take vX0_take kX2_40 (zRj_of rfl) (by omega) (zne hF_9 (by omega) hRk.2.2.2.1) rfl rfl hl.1 rfl (Nat.le_of_ble_eq_true rfl) dX2_take_64 ⟨Nat.le_refl _, Nat.le_refl _⟩) (fun F_11 hp_13 H locs hZ => ?_)
      have h_14 := zeq hp_13
      have hi8 : i = 8 := by have := nIge (N := 8) c_24 (by omega) rfl; omega
      subst hi8
      have h9 := RS_course (RS_self hRk hF_9) hp_13
      have h8 : RS ad cy k F_11 sd := RS_ext h9 rfl rfl (fun i hi => by simp [hi]) rfl
      exact zvret hC hZ hr hlocks ⟨h8, fr_tr hfr (fr_tr (fr_up hF_9 (by omega) (by omega)) (fr_up hp_13 (by omega) (by omega)))⟩ dX2_take_67
    · refine lv_aload_n hx hb dX2_take_27 rfl (lv_at hl 1 rfl) ?_
      refine zget hC hZ fX2_22 (by omega) hRk.1 rfl dX2_take_28 ?_
      refine lv_iload_n hx hb dX2_take_31 rfl (lv_at hl 0 rfl) ?_
      have hlt8 := nIlt (N := 8) c_24 (by omega) rfl
      refine zaald hC hZ (by omega) hRk.2.2.1 (C := RX3) rfl rfl hlt8 (by decide) rfl dX2_take_32 ?_
      refine lv_aload_n hx hb dX2_take_33 rfl (lv_at hl 2 rfl) ?_
      refine zget hC hZ fX2_22 (by omega) hRb.1 rfl dX2_take_34 ?_
      refine lv_iload_n hx hb dX2_take_37 rfl (lv_at hl 0 rfl) ?_
      refine zaald hC hZ (by omega) hRb.2.2.1 (C := RX3) rfl rfl hlt8 (by decide) rfl dX2_take_38 ?_
      refine zgov hZ hA (zrunV (As := [.ref (ad (b + 4 + i))]) (rest := []) (k := k + 4 + i) hC hZ (c_X3_take l D cy n ad F3 H.size (k + 4 + i) (if i < i then sd.2.2.1 i else sc.2.2.1 i) (by omega) (hRk.2.2.2.2 i hlt8) (b + 4 + i) (sd.2.2.1 i) (by omega) (hRb.2.2.2.2 i hlt8) (by omega)) mX3_take vX3_take kX2_36 (zRj_of rfl) (by omega) (hRk.2.2.2.2 i hlt8) rfl rfl hl.1 rfl (Nat.le_of_ble_eq_true rfl) dX2_take_39 ⟨Nat.le_refl _, Nat.le_refl _⟩) (fun F_15 hp_17 H locs hZ => ?_)
      have h_18 := zeq hp_17
      refine lv_iinc (v := nI (i + 1)) (lv' := [(2, .int (nI (i + 1))), (0, .ref (ad k)), (1, .ref (ad b))]) hx hb dX2_take_42 hl (k := 0) rfl (nI_1 i) (by decide) rfl (fun ls hl => ?_)
      refine lv_goto (tgt := 21) hx hb dX2_take_45 (by decide) ?_
      have hlt := nIlt (N := 8) c_24 (by omega) rfl
      refine ih (i + 1) ls _ H locs (by show 8 - (i + 1) < 8 - i; omega) hZ ⟨by omega, hl, ?_, fr_tr hfr (fr_up hp_17 (by omega) (by omega))⟩
      have h9 := RS_try hRk hp_17
      rw [tr_s] at h9
      exact h9
  · exact RS_self (RS_chain hR hp_3) hF_6
  · exact fr_tr (fr_up hp_3 (by omega) (by omega)) (fr_up hF_6 (by omega) (by omega))
