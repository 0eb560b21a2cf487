theorem mX0_clear : zMd yX0_clear cX0_clear 1 none 0 := ⟨by decide +kernel, gt_of 420 (by decide +kernel) rfl, gt_of 48 (by decide +kernel) rfl, by decide⟩
theorem dX0_clear_0 : decode cX0_clear 0 = .ok (.aload_n 0, 1) := by decide +kernel
theorem dX0_clear_1 : decode cX0_clear 1 = .ok (.iconst 0, 1) := by decide +kernel
theorem dX0_clear_2 : decode cX0_clear 2 = .ok (.putfield 7, 3) := by decide +kernel
theorem pX0_7 : zFldP RX0 7 0 0 false .int := ⟨RX0, TX0, 5, tyX0, rfl, inX0, by decide, rfl, Or.inl (gt_of 114 (by decide +kernel) rfl), tyX0_ok, nmX0, rfl, by decide +kernel, fun h => by cases h⟩
theorem dX0_clear_5 : decode cX0_clear 5 = .ok (.aload_n 0, 1) := by decide +kernel
theorem dX0_clear_6 : decode cX0_clear 6 = .ok (.iconst 0, 1) := by decide +kernel
theorem dX0_clear_7 : decode cX0_clear 7 = .ok (.putfield 13, 3) := by decide +kernel
theorem pX0_13 : zFldP RX0 13 0 1 false .int := ⟨RX0, TX0, 5, tyX0, rfl, inX0, by decide, rfl, Or.inl (gt_of 116 (by decide +kernel) rfl), tyX0_ok, nmX0, rfl, by decide +kernel, fun h => by cases h⟩
theorem dX0_clear_10 : decode cX0_clear 10 = .ok (.aload_n 0, 1) := by decide +kernel
theorem dX0_clear_11 : decode cX0_clear 11 = .ok (.iconst 0, 1) := by decide +kernel
theorem dX0_clear_12 : decode cX0_clear 12 = .ok (.putfield 16, 3) := by decide +kernel
theorem pX0_16 : zFldP RX0 16 0 2 false .int := ⟨RX0, TX0, 5, tyX0, rfl, inX0, by decide, rfl, Or.inl (gt_of 118 (by decide +kernel) rfl), tyX0_ok, nmX0, rfl, by decide +kernel, fun h => by cases h⟩
theorem dX0_clear_15 : decode cX0_clear 15 = .ok (.aload_n 0, 1) := by decide +kernel
theorem dX0_clear_16 : decode cX0_clear 16 = .ok (.iconst 0, 1) := by decide +kernel
theorem dX0_clear_17 : decode cX0_clear 17 = .ok (.putfield 19, 3) := by decide +kernel
theorem pX0_19 : zFldP RX0 19 0 3 false .int := ⟨RX0, TX0, 5, tyX0, rfl, inX0, by decide, rfl, Or.inl (gt_of 120 (by decide +kernel) rfl), tyX0_ok, nmX0, rfl, by decide +kernel, fun h => by cases h⟩
theorem dX0_clear_20 : decode cX0_clear 20 = .ok (.aload_n 0, 1) := by decide +kernel
theorem dX0_clear_21 : decode cX0_clear 21 = .ok (.iconst 0, 1) := by decide +kernel
theorem dX0_clear_22 : decode cX0_clear 22 = .ok (.putfield 22, 3) := by decide +kernel
theorem pX0_22 : zFldP RX0 22 0 4 false .int := ⟨RX0, TX0, 5, tyX0, rfl, inX0, by decide, rfl, Or.inl (gt_of 123 (by decide +kernel) rfl), tyX0_ok, nmX0, rfl, by decide +kernel, fun h => by cases h⟩
theorem dX0_clear_25 : decode cX0_clear 25 = .ok (.return_, 1) := by decide +kernel
set_option maxRecDepth 100000 in
theorem c_X0_clear (l : Launch) (D : va_G) (cy : Nat → Nat) (n : Nat) (ad : Nat → Nat) (F : Nat → va_E) (sz : Nat) (k : Nat) (c0 : Crs) (hk : k < n) (hFk : F k = oCourse c0) : Met l yX0_clear (zw yX0_clear cX0_clear 1 none) (rmL 0) (zPc D cy n ad F sz [.ref (ad k)]) (va_Qv (fun F1 => F1 = va_up F k (oCourse (0, 0, 0, 0, 0))) (zB D n ad) (zA n ad sz)) 0 0 (zA n ad sz) := by
  refine zmet (by decide +kernel) (Nat.le_of_ble_eq_true rfl) (fun p e s m args below meth c ls hC hsz hZ hA hr hlocks hnm hl => ?_)
  have hC : zC p m c cX0_clear 1 s args RX0 D cy := hC
  have hx := hC.1.1
  have hb := hC.1.2.1
  have hl : lv_has ls 1 [(0, .ref (ad k))] := hl
  refine lv_aload_n hx hb dX0_clear_0 rfl (lv_at hl 0 rfl) ?_
  refine lv_iconst (v := 0) hx hb dX0_clear_1 (by decide) ?_
  refine zput (E := oCourse (0, c0.2.1, c0.2.2.1, c0.2.2.2.1, c0.2.2.2.2)) hC hZ pX0_7 hk hFk rfl rfl rfl (Nat.le_of_ble_eq_true rfl) dX0_clear_2 (fun F_1 hF_2 H locs hZ => ?_)
  have h_3 := zeq hF_2
  refine lv_aload_n hx hb dX0_clear_5 rfl (lv_at hl 0 rfl) ?_
  refine lv_iconst (v := 0) hx hb dX0_clear_6 (by decide) ?_
  refine zput (E := oCourse (0, 0, c0.2.2.1, c0.2.2.2.1, c0.2.2.2.2)) hC hZ pX0_13 hk h_3 rfl rfl rfl (Nat.le_of_ble_eq_true rfl) dX0_clear_7 (fun F_4 hF_5 H locs hZ => ?_)
  have h_6 := zeq hF_5
  refine lv_aload_n hx hb dX0_clear_10 rfl (lv_at hl 0 rfl) ?_
  refine lv_iconst (v := 0) hx hb dX0_clear_11 (by decide) ?_
  refine zput (E := oCourse (0, 0, 0, c0.2.2.2.1, c0.2.2.2.2)) hC hZ pX0_16 hk h_6 rfl rfl rfl (Nat.le_of_ble_eq_true rfl) dX0_clear_12 (fun F_7 hF_8 H locs hZ => ?_)
  have h_9 := zeq hF_8
  refine lv_aload_n hx hb dX0_clear_15 rfl (lv_at hl 0 rfl) ?_
  refine lv_iconst (v := 0) hx hb dX0_clear_16 (by decide) ?_
  refine zput (E := oCourse (0, 0, 0, 0, c0.2.2.2.2)) hC hZ pX0_19 hk h_9 rfl rfl rfl (Nat.le_of_ble_eq_true rfl) dX0_clear_17 (fun F_10 hF_11 H locs hZ => ?_)
  have h_12 := zeq hF_11
  refine lv_aload_n hx hb dX0_clear_20 rfl (lv_at hl 0 rfl) ?_
  refine lv_iconst (v := 0) hx hb dX0_clear_21 (by decide) ?_
  refine zput (E := oCourse (0, 0, 0, 0, 0)) hC hZ pX0_22 hk h_12 rfl rfl rfl (Nat.le_of_ble_eq_true rfl) dX0_clear_22 (fun F_13 hF_14 H locs hZ => ?_)
  have h_15 := zeq hF_14
  have hq_16 : F_13 = va_up F k (oCourse (0, 0, 0, 0, 0)) := by simp only [hF_14, hF_11, hF_8, hF_5, hF_2, bx_uu]
  exact zvret hC hZ hr hlocks hq_16 dX0_clear_25

theorem mX0_take : zMd yX0_take cX0_take 2 none 1 := ⟨by decide +kernel, gt_of 555 (by decide +kernel) rfl, gt_of 48 (by decide +kernel) rfl, by decide⟩
theorem dX0_take_0 : decode cX0_take 0 = .ok (.aload_n 0, 1) := by decide +kernel
theorem dX0_take_1 : decode cX0_take 1 = .ok (.aload_n 1, 1) := by decide +kernel
theorem dX0_take_2 : decode cX0_take 2 = .ok (.getfield 7, 3) := by decide +kernel
theorem fX0_7 : zFld RX0 7 0 0 := ⟨RX0, TX0, 5, rfl, inX0, by decide, rfl, Or.inl (gt_of 114 (by decide +kernel) rfl)⟩
theorem dX0_take_5 : decode cX0_take 5 = .ok (.putfield 7, 3) := by decide +kernel
theorem dX0_take_8 : decode cX0_take 8 = .ok (.aload_n 0, 1) := by decide +kernel
theorem dX0_take_9 : decode cX0_take 9 = .ok (.aload_n 1, 1) := by decide +kernel
theorem dX0_take_10 : decode cX0_take 10 = .ok (.getfield 13, 3) := by decide +kernel
theorem fX0_13 : zFld RX0 13 0 1 := ⟨RX0, TX0, 5, rfl, inX0, by decide, rfl, Or.inl (gt_of 116 (by decide +kernel) rfl)⟩
theorem dX0_take_13 : decode cX0_take 13 = .ok (.putfield 13, 3) := by decide +kernel
theorem dX0_take_16 : decode cX0_take 16 = .ok (.aload_n 0, 1) := by decide +kernel
theorem dX0_take_17 : decode cX0_take 17 = .ok (.aload_n 1, 1) := by decide +kernel
theorem dX0_take_18 : decode cX0_take 18 = .ok (.getfield 16, 3) := by decide +kernel
theorem fX0_16 : zFld RX0 16 0 2 := ⟨RX0, TX0, 5, rfl, inX0, by decide, rfl, Or.inl (gt_of 118 (by decide +kernel) rfl)⟩
theorem dX0_take_21 : decode cX0_take 21 = .ok (.putfield 16, 3) := by decide +kernel
theorem dX0_take_24 : decode cX0_take 24 = .ok (.aload_n 0, 1) := by decide +kernel
theorem dX0_take_25 : decode cX0_take 25 = .ok (.aload_n 1, 1) := by decide +kernel
theorem dX0_take_26 : decode cX0_take 26 = .ok (.getfield 19, 3) := by decide +kernel
theorem fX0_19 : zFld RX0 19 0 3 := ⟨RX0, TX0, 5, rfl, inX0, by decide, rfl, Or.inl (gt_of 120 (by decide +kernel) rfl)⟩
theorem dX0_take_29 : decode cX0_take 29 = .ok (.putfield 19, 3) := by decide +kernel
theorem dX0_take_32 : decode cX0_take 32 = .ok (.aload_n 0, 1) := by decide +kernel
theorem dX0_take_33 : decode cX0_take 33 = .ok (.aload_n 1, 1) := by decide +kernel
theorem dX0_take_34 : decode cX0_take 34 = .ok (.getfield 22, 3) := by decide +kernel
theorem fX0_22 : zFld RX0 22 0 4 := ⟨RX0, TX0, 5, rfl, inX0, by decide, rfl, Or.inl (gt_of 123 (by decide +kernel) rfl)⟩
theorem dX0_take_37 : decode cX0_take 37 = .ok (.putfield 22, 3) := by decide +kernel
theorem dX0_take_40 : decode cX0_take 40 = .ok (.return_, 1) := by decide +kernel
set_option maxRecDepth 100000 in
theorem c_X0_take (l : Launch) (D : va_G) (cy : Nat → Nat) (n : Nat) (ad : Nat → Nat) (F : Nat → va_E) (sz : Nat) (k : Nat) (c0 : Crs) (hk : k < n) (hFk : F k = oCourse c0) (j : Nat) (c1 : Crs) (hj : j < n) (hFj : F j = oCourse c1) (hjk : j ≠ k) : Met l yX0_take (zw yX0_take cX0_take 2 none) (rmL 0) (zPc D cy n ad F sz [.ref (ad k), .ref (ad j)]) (va_Qv (fun F1 => F1 = va_up F k (oCourse c1)) (zB D n ad) (zA n ad sz)) 0 0 (zA n ad sz) := by
  refine zmet (by decide +kernel) (Nat.le_of_ble_eq_true rfl) (fun p e s m args below meth c ls hC hsz hZ hA hr hlocks hnm hl => ?_)
  have hC : zC p m c cX0_take 2 s args RX0 D cy := hC
  have hx := hC.1.1
  have hb := hC.1.2.1
  have hl : lv_has ls 2 [(0, .ref (ad k)), (1, .ref (ad j))] := hl
  refine lv_aload_n hx hb dX0_take_0 rfl (lv_at hl 0 rfl) ?_
  refine lv_aload_n hx hb dX0_take_1 rfl (lv_at hl 1 rfl) ?_
  refine zget hC hZ fX0_7 hj hFj rfl dX0_take_2 ?_
  refine zput (E := oCourse (c1.1, c0.2.1, c0.2.2.1, c0.2.2.2.1, c0.2.2.2.2)) hC hZ pX0_7 hk hFk rfl rfl rfl (Nat.le_of_ble_eq_true rfl) dX0_take_5 (fun F_1 hF_2 H locs hZ => ?_)
  have h_3 := zeq hF_2
  refine lv_aload_n hx hb dX0_take_8 rfl (lv_at hl 0 rfl) ?_
  refine lv_aload_n hx hb dX0_take_9 rfl (lv_at hl 1 rfl) ?_
  refine zget hC hZ fX0_13 hj (zne hF_2 hjk hFj) rfl dX0_take_10 ?_
  refine zput (E := oCourse (c1.1, c1.2.1, c0.2.2.1, c0.2.2.2.1, c0.2.2.2.2)) hC hZ pX0_13 hk h_3 rfl rfl rfl (Nat.le_of_ble_eq_true rfl) dX0_take_13 (fun F_4 hF_5 H locs hZ => ?_)
  have h_6 := zeq hF_5
  refine lv_aload_n hx hb dX0_take_16 rfl (lv_at hl 0 rfl) ?_
  refine lv_aload_n hx hb dX0_take_17 rfl (lv_at hl 1 rfl) ?_
  refine zget hC hZ fX0_16 hj (zne hF_5 hjk (zne hF_2 hjk hFj)) rfl dX0_take_18 ?_
  refine zput (E := oCourse (c1.1, c1.2.1, c1.2.2.1, c0.2.2.2.1, c0.2.2.2.2)) hC hZ pX0_16 hk h_6 rfl rfl rfl (Nat.le_of_ble_eq_true rfl) dX0_take_21 (fun F_7 hF_8 H locs hZ => ?_)
  have h_9 := zeq hF_8
  refine lv_aload_n hx hb dX0_take_24 rfl (lv_at hl 0 rfl) ?_
  refine lv_aload_n hx hb dX0_take_25 rfl (lv_at hl 1 rfl) ?_
  refine zget hC hZ fX0_19 hj (zne hF_8 hjk (zne hF_5 hjk (zne hF_2 hjk hFj))) rfl dX0_take_26 ?_
  refine zput (E := oCourse (c1.1, c1.2.1, c1.2.2.1, c1.2.2.2.1, c0.2.2.2.2)) hC hZ pX0_19 hk h_9 rfl rfl rfl (Nat.le_of_ble_eq_true rfl) dX0_take_29 (fun F_10 hF_11 H locs hZ => ?_)
  have h_12 := zeq hF_11
  refine lv_aload_n hx hb dX0_take_32 rfl (lv_at hl 0 rfl) ?_
  refine lv_aload_n hx hb dX0_take_33 rfl (lv_at hl 1 rfl) ?_
  refine zget hC hZ fX0_22 hj (zne hF_11 hjk (zne hF_8 hjk (zne hF_5 hjk (zne hF_2 hjk hFj)))) rfl dX0_take_34 ?_
  refine zput (E := oCourse (c1.1, c1.2.1, c1.2.2.1, c1.2.2.2.1, c1.2.2.2.2)) hC hZ pX0_22 hk h_12 rfl rfl rfl (Nat.le_of_ble_eq_true rfl) dX0_take_37 (fun F_13 hF_14 H locs hZ => ?_)
  have h_15 := zeq hF_14
  have hq_16 : F_13 = va_up F k (oCourse c1) := by simp only [hF_14, hF_11, hF_8, hF_5, hF_2, bx_uu]
  exact zvret hC hZ hr hlocks hq_16 dX0_take_40

theorem mX0_step : zMd yX0_step cX0_step 6 none 4 := ⟨by decide +kernel, gt_of 408 (by decide +kernel) rfl, gt_of 48 (by decide +kernel) rfl, by decide⟩
theorem dX0_step_0 : decode cX0_step 0 = .ok (.aload_n 0, 1) := by decide +kernel
theorem dX0_step_1 : decode cX0_step 1 = .ok (.dup, 1) := by decide +kernel
theorem dX0_step_2 : decode cX0_step 2 = .ok (.getfield 7, 3) := by decide +kernel
theorem dX0_step_5 : decode cX0_step 5 = .ok (.iconst 1, 1) := by decide +kernel
theorem dX0_step_6 : decode cX0_step 6 = .ok (.iadd, 1) := by decide +kernel
theorem dX0_step_7 : decode cX0_step 7 = .ok (.putfield 7, 3) := by decide +kernel
theorem dX0_step_10 : decode cX0_step 10 = .ok (.aload_n 0, 1) := by decide +kernel
theorem dX0_step_11 : decode cX0_step 11 = .ok (.getfield 19, 3) := by decide +kernel
theorem dX0_step_14 : decode cX0_step 14 = .ok (.iload 4, 2) := by decide +kernel
theorem dX0_step_16 : decode cX0_step 16 = .ok (.if_icmp .lt 19, 3) := by decide +kernel
theorem dX0_step_35 : decode cX0_step 35 = .ok (.aload_n 0, 1) := by decide +kernel
theorem dX0_step_36 : decode cX0_step 36 = .ok (.getfield 13, 3) := by decide +kernel
theorem dX0_step_39 : decode cX0_step 39 = .ok (.aload_n 0, 1) := by decide +kernel
theorem dX0_step_40 : decode cX0_step 40 = .ok (.getfield 13, 3) := by decide +kernel
theorem dX0_step_43 : decode cX0_step 43 = .ok (.imul, 1) := by decide +kernel
theorem dX0_step_44 : decode cX0_step 44 = .ok (.iload_n 2, 1) := by decide +kernel
theorem dX0_step_45 : decode cX0_step 45 = .ok (.imul, 1) := by decide +kernel
theorem dX0_step_46 : decode cX0_step 46 = .ok (.sipush 10000, 3) := by decide +kernel
theorem dX0_step_49 : decode cX0_step 49 = .ok (.idiv, 1) := by decide +kernel
theorem dX0_step_50 : decode cX0_step 50 = .ok (.istore 5, 2) := by decide +kernel
theorem dX0_step_52 : decode cX0_step 52 = .ok (.aload_n 0, 1) := by decide +kernel
theorem dX0_step_53 : decode cX0_step 53 = .ok (.iconst 0, 1) := by decide +kernel
theorem dX0_step_54 : decode cX0_step 54 = .ok (.sipush 3000, 3) := by decide +kernel
theorem dX0_step_57 : decode cX0_step 57 = .ok (.aload_n 0, 1) := by decide +kernel
theorem dX0_step_58 : decode cX0_step 58 = .ok (.getfield 13, 3) := by decide +kernel
theorem dX0_step_61 : decode cX0_step 61 = .ok (.bipush 10, 2) := by decide +kernel
theorem dX0_step_63 : decode cX0_step 63 = .ok (.iload_n 3, 1) := by decide +kernel
theorem dX0_step_64 : decode cX0_step 64 = .ok (.imul, 1) := by decide +kernel
theorem dX0_step_65 : decode cX0_step 65 = .ok (.iload 5, 2) := by decide +kernel
theorem dX0_step_67 : decode cX0_step 67 = .ok (.isub, 1) := by decide +kernel
theorem dX0_step_68 : decode cX0_step 68 = .ok (.bipush 20, 2) := by decide +kernel
theorem dX0_step_70 : decode cX0_step 70 = .ok (.idiv, 1) := by decide +kernel
theorem dX0_step_71 : decode cX0_step 71 = .ok (.iadd, 1) := by decide +kernel
theorem dX0_step_72 : decode cX0_step 72 = .ok (.invokestatic 31, 3) := by decide +kernel
theorem kX0_31 : zMath RX0 31 Lib.Math.min.name Lib.Math.min.code 2 (some .int) := ⟨gt_of 412 (by decide +kernel) rfl, gt_of 294 (by decide +kernel) rfl, gt_of 53 (by decide +kernel) rfl, gt_of 295 (by decide +kernel) rfl⟩
theorem dX0_step_75 : decode cX0_step 75 = .ok (.invokestatic 25, 3) := by decide +kernel
theorem kX0_25 : zMath RX0 25 Lib.Math.max.name Lib.Math.max.code 2 (some .int) := ⟨gt_of 409 (by decide +kernel) rfl, gt_of 410 (by decide +kernel) rfl, gt_of 53 (by decide +kernel) rfl, gt_of 411 (by decide +kernel) rfl⟩
theorem dX0_step_78 : decode cX0_step 78 = .ok (.putfield 13, 3) := by decide +kernel
theorem dX0_step_81 : decode cX0_step 81 = .ok (.aload_n 0, 1) := by decide +kernel
theorem dX0_step_82 : decode cX0_step 82 = .ok (.aload_n 0, 1) := by decide +kernel
theorem dX0_step_83 : decode cX0_step 83 = .ok (.getfield 16, 3) := by decide +kernel
theorem dX0_step_86 : decode cX0_step 86 = .ok (.aload_n 0, 1) := by decide +kernel
theorem dX0_step_87 : decode cX0_step 87 = .ok (.getfield 13, 3) := by decide +kernel
theorem dX0_step_90 : decode cX0_step 90 = .ok (.aload_n 0, 1) := by decide +kernel
theorem dX0_step_91 : decode cX0_step 91 = .ok (.getfield 13, 3) := by decide +kernel
theorem dX0_step_94 : decode cX0_step 94 = .ok (.imul, 1) := by decide +kernel
theorem dX0_step_95 : decode cX0_step 95 = .ok (.iload_n 1, 1) := by decide +kernel
theorem dX0_step_96 : decode cX0_step 96 = .ok (.imul, 1) := by decide +kernel
theorem dX0_step_97 : decode cX0_step 97 = .ok (.sipush 10000, 3) := by decide +kernel
theorem dX0_step_100 : decode cX0_step 100 = .ok (.idiv, 1) := by decide +kernel
theorem dX0_step_101 : decode cX0_step 101 = .ok (.aload_n 0, 1) := by decide +kernel
theorem dX0_step_102 : decode cX0_step 102 = .ok (.getfield 16, 3) := by decide +kernel
theorem dX0_step_105 : decode cX0_step 105 = .ok (.isub, 1) := by decide +kernel
theorem dX0_step_106 : decode cX0_step 106 = .ok (.iconst 4, 1) := by decide +kernel
theorem dX0_step_107 : decode cX0_step 107 = .ok (.idiv, 1) := by decide +kernel
theorem dX0_step_108 : decode cX0_step 108 = .ok (.iadd, 1) := by decide +kernel
theorem dX0_step_109 : decode cX0_step 109 = .ok (.putfield 16, 3) := by decide +kernel
theorem dX0_step_112 : decode cX0_step 112 = .ok (.aload_n 0, 1) := by decide +kernel
theorem dX0_step_113 : decode cX0_step 113 = .ok (.iload 4, 2) := by decide +kernel
theorem dX0_step_115 : decode cX0_step 115 = .ok (.aload_n 0, 1) := by decide +kernel
theorem dX0_step_116 : decode cX0_step 116 = .ok (.getfield 19, 3) := by decide +kernel
theorem dX0_step_119 : decode cX0_step 119 = .ok (.aload_n 0, 1) := by decide +kernel
theorem dX0_step_120 : decode cX0_step 120 = .ok (.getfield 13, 3) := by decide +kernel
theorem dX0_step_123 : decode cX0_step 123 = .ok (.bipush 10, 2) := by decide +kernel
theorem dX0_step_125 : decode cX0_step 125 = .ok (.idiv, 1) := by decide +kernel
theorem dX0_step_126 : decode cX0_step 126 = .ok (.iadd, 1) := by decide +kernel
theorem dX0_step_127 : decode cX0_step 127 = .ok (.invokestatic 31, 3) := by decide +kernel
theorem dX0_step_130 : decode cX0_step 130 = .ok (.putfield 19, 3) := by decide +kernel
theorem dX0_step_133 : decode cX0_step 133 = .ok (.aload_n 0, 1) := by decide +kernel
theorem dX0_step_134 : decode cX0_step 134 = .ok (.aload_n 0, 1) := by decide +kernel
theorem dX0_step_135 : decode cX0_step 135 = .ok (.getfield 22, 3) := by decide +kernel
theorem dX0_step_138 : decode cX0_step 138 = .ok (.aload_n 0, 1) := by decide +kernel
theorem dX0_step_139 : decode cX0_step 139 = .ok (.getfield 16, 3) := by decide +kernel
theorem dX0_step_142 : decode cX0_step 142 = .ok (.invokestatic 25, 3) := by decide +kernel
theorem dX0_step_145 : decode cX0_step 145 = .ok (.putfield 22, 3) := by decide +kernel
theorem dX0_step_148 : decode cX0_step 148 = .ok (.return_, 1) := by decide +kernel
theorem dX0_step_19 : decode cX0_step 19 = .ok (.aload_n 0, 1) := by decide +kernel
theorem dX0_step_20 : decode cX0_step 20 = .ok (.iconst 0, 1) := by decide +kernel
theorem dX0_step_21 : decode cX0_step 21 = .ok (.aload_n 0, 1) := by decide +kernel
theorem dX0_step_22 : decode cX0_step 22 = .ok (.getfield 16, 3) := by decide +kernel
theorem dX0_step_25 : decode cX0_step 25 = .ok (.bipush 50, 2) := by decide +kernel
theorem dX0_step_27 : decode cX0_step 27 = .ok (.isub, 1) := by decide +kernel
theorem dX0_step_28 : decode cX0_step 28 = .ok (.invokestatic 25, 3) := by decide +kernel
theorem dX0_step_31 : decode cX0_step 31 = .ok (.putfield 16, 3) := by decide +kernel
theorem dX0_step_34 : decode cX0_step 34 = .ok (.return_, 1) := by decide +kernel
set_option maxRecDepth 100000 in
theorem c_X0_step (l : Launch) (D : va_G) (cy : Nat → Nat) (n : Nat) (ad : Nat → Nat) (F : Nat → va_E) (sz : Nat) (k : Nat) (c0 : Crs) (hk : k < n) (hFk : F k = oCourse c0) (kk l0 dr ln : Int32) : Met l yX0_step (zw yX0_step cX0_step 6 none) (rmL 1) (zPc D cy n ad F sz [.ref (ad k), .int kk, .int l0, .int dr, .int ln]) (va_Qv (fun F1 => F1 = va_up F k (oCourse (sStep kk l0 dr ln c0))) (zB D n ad) (zA n ad sz)) 0 0 (zA n ad sz) := by
  refine zmet (by decide +kernel) (Nat.le_of_ble_eq_true rfl) (fun p e s m args below meth c ls hC hsz hZ hA hr hlocks hnm hl => ?_)
  have hC : zC p m c cX0_step 6 s args RX0 D cy := hC
  have hx := hC.1.1
  have hb := hC.1.2.1
  have hl : lv_has ls 6 [(0, .ref (ad k)), (1, .int kk), (2, .int l0), (3, .int dr), (4, .int ln)] := hl
  refine lv_aload_n hx hb dX0_step_0 rfl (lv_at hl 0 rfl) ?_
  refine lv_dup hx hb dX0_step_1 rfl ?_
  refine zget hC hZ fX0_7 hk hFk rfl dX0_step_2 ?_
  refine lv_iconst (v := 1) hx hb dX0_step_5 (by decide) ?_
  refine lv_iadd hx hb dX0_step_6 ?_
  refine zput (E := oCourse ((c0.1 + 1), c0.2.1, c0.2.2.1, c0.2.2.2.1, c0.2.2.2.2)) hC hZ pX0_7 hk hFk rfl rfl rfl (Nat.le_of_ble_eq_true rfl) dX0_step_7 (fun F_1 hF_2 H locs hZ => ?_)
  have h_3 := zeq hF_2
  refine lv_aload_n hx hb dX0_step_10 rfl (lv_at hl 0 rfl) ?_
  refine zget hC hZ fX0_19 hk h_3 rfl dX0_step_11 ?_
  refine lv_iload hx hb dX0_step_14 (lv_at hl 4 rfl) ?_
  refine lv_icmp_lt (tgt := 35) hx hb dX0_step_16 (by decide) (fun c_16 => ?_) (fun c_16 => ?_)
  · refine lv_aload_n hx hb dX0_step_35 rfl (lv_at hl 0 rfl) ?_
    refine zget hC hZ fX0_13 hk h_3 rfl dX0_step_36 ?_
    refine lv_aload_n hx hb dX0_step_39 rfl (lv_at hl 0 rfl) ?_
    refine zget hC hZ fX0_13 hk h_3 rfl dX0_step_40 ?_
    refine lv_imul hx hb dX0_step_43 ?_
    refine lv_iload_n hx hb dX0_step_44 rfl (lv_at hl 2 rfl) ?_
    refine lv_imul hx hb dX0_step_45 ?_
    refine lv_sipush (v := 10000) hx hb dX0_step_46 (by decide) ?_
    refine lv_idiv hx hb dX0_step_49 (by decide) ?_
    refine lv_istore (lv' := [(5, .int (((c0.2.1 * c0.2.1) * l0) / 10000)), (0, .ref (ad k)), (1, .int kk), (2, .int l0), (3, .int dr), (4, .int ln)]) hx hb dX0_step_50 hl (by decide) rfl (fun ls hl => ?_)
    refine lv_aload_n hx hb dX0_step_52 rfl (lv_at hl 1 rfl) ?_
    refine lv_iconst (v := 0) hx hb dX0_step_53 (by decide) ?_
    refine lv_sipush (v := 3000) hx hb dX0_step_54 (by decide) ?_
    refine lv_aload_n hx hb dX0_step_57 rfl (lv_at hl 1 rfl) ?_
    refine zget hC hZ fX0_13 hk h_3 rfl dX0_step_58 ?_
    refine lv_bipush (v := 10) hx hb dX0_step_61 (by decide) ?_
    refine lv_iload_n hx hb dX0_step_63 rfl (lv_at hl 4 rfl) ?_
    refine lv_imul hx hb dX0_step_64 ?_
    refine lv_iload hx hb dX0_step_65 (lv_at hl 0 rfl) ?_
    refine lv_isub hx hb dX0_step_67 ?_
    refine lv_bipush (v := 20) hx hb dX0_step_68 (by decide) ?_
    refine lv_idiv hx hb dX0_step_70 (by decide) ?_
    refine lv_iadd hx hb dX0_step_71 ?_
    refine zmin hC kX0_31 hl.1 (zRj_of rfl) (Nat.le_of_ble_eq_true rfl) ⟨Nat.le_refl _, Nat.le_refl _⟩ dX0_step_72 ?_
    refine zmax hC kX0_25 hl.1 (zRj_of rfl) (Nat.le_of_ble_eq_true rfl) ⟨Nat.le_refl _, Nat.le_refl _⟩ dX0_step_75 ?_
    refine zput (E := oCourse ((c0.1 + 1), (if 0 < (if (c0.2.1 + (((10 * dr) - (((c0.2.1 * c0.2.1) * l0) / 10000)) / 20)) < 3000 then (c0.2.1 + (((10 * dr) - (((c0.2.1 * c0.2.1) * l0) / 10000)) / 20)) else 3000) then (if (c0.2.1 + (((10 * dr) - (((c0.2.1 * c0.2.1) * l0) / 10000)) / 20)) < 3000 then (c0.2.1 + (((10 * dr) - (((c0.2.1 * c0.2.1) * l0) / 10000)) / 20)) else 3000) else 0), c0.2.2.1, c0.2.2.2.1, c0.2.2.2.2)) hC hZ pX0_13 hk h_3 rfl rfl rfl (Nat.le_of_ble_eq_true rfl) dX0_step_78 (fun F_4 hF_5 H locs hZ => ?_)
    have h_6 := zeq hF_5
    refine lv_aload_n hx hb dX0_step_81 rfl (lv_at hl 1 rfl) ?_
    refine lv_aload_n hx hb dX0_step_82 rfl (lv_at hl 1 rfl) ?_
    refine zget hC hZ fX0_16 hk h_6 rfl dX0_step_83 ?_
    refine lv_aload_n hx hb dX0_step_86 rfl (lv_at hl 1 rfl) ?_
    refine zget hC hZ fX0_13 hk h_6 rfl dX0_step_87 ?_
    refine lv_aload_n hx hb dX0_step_90 rfl (lv_at hl 1 rfl) ?_
    refine zget hC hZ fX0_13 hk h_6 rfl dX0_step_91 ?_
    refine lv_imul hx hb dX0_step_94 ?_
    refine lv_iload_n hx hb dX0_step_95 rfl (lv_at hl 2 rfl) ?_
    refine lv_imul hx hb dX0_step_96 ?_
    refine lv_sipush (v := 10000) hx hb dX0_step_97 (by decide) ?_
    refine lv_idiv hx hb dX0_step_100 (by decide) ?_
    refine lv_aload_n hx hb dX0_step_101 rfl (lv_at hl 1 rfl) ?_
    refine zget hC hZ fX0_16 hk h_6 rfl dX0_step_102 ?_
    refine lv_isub hx hb dX0_step_105 ?_
    refine lv_iconst (v := 4) hx hb dX0_step_106 (by decide) ?_
    refine lv_idiv hx hb dX0_step_107 (by decide) ?_
    refine lv_iadd hx hb dX0_step_108 ?_
    refine zput (E := oCourse ((c0.1 + 1), (if 0 < (if (c0.2.1 + (((10 * dr) - (((c0.2.1 * c0.2.1) * l0) / 10000)) / 20)) < 3000 then (c0.2.1 + (((10 * dr) - (((c0.2.1 * c0.2.1) * l0) / 10000)) / 20)) else 3000) then (if (c0.2.1 + (((10 * dr) - (((c0.2.1 * c0.2.1) * l0) / 10000)) / 20)) < 3000 then (c0.2.1 + (((10 * dr) - (((c0.2.1 * c0.2.1) * l0) / 10000)) / 20)) else 3000) else 0), (c0.2.2.1 + ((((((if 0 < (if (c0.2.1 + (((10 * dr) - (((c0.2.1 * c0.2.1) * l0) / 10000)) / 20)) < 3000 then (c0.2.1 + (((10 * dr) - (((c0.2.1 * c0.2.1) * l0) / 10000)) / 20)) else 3000) then (if (c0.2.1 + (((10 * dr) - (((c0.2.1 * c0.2.1) * l0) / 10000)) / 20)) < 3000 then (c0.2.1 + (((10 * dr) - (((c0.2.1 * c0.2.1) * l0) / 10000)) / 20)) else 3000) else 0) * (if 0 < (if (c0.2.1 + (((10 * dr) - (((c0.2.1 * c0.2.1) * l0) / 10000)) / 20)) < 3000 then (c0.2.1 + (((10 * dr) - (((c0.2.1 * c0.2.1) * l0) / 10000)) / 20)) else 3000) then (if (c0.2.1 + (((10 * dr) - (((c0.2.1 * c0.2.1) * l0) / 10000)) / 20)) < 3000 then (c0.2.1 + (((10 * dr) - (((c0.2.1 * c0.2.1) * l0) / 10000)) / 20)) else 3000) else 0)) * kk) / 10000) - c0.2.2.1) / 4)), c0.2.2.2.1, c0.2.2.2.2)) hC hZ pX0_16 hk h_6 rfl rfl rfl (Nat.le_of_ble_eq_true rfl) dX0_step_109 (fun F_7 hF_8 H locs hZ => ?_)
    have h_9 := zeq hF_8
    refine lv_aload_n hx hb dX0_step_112 rfl (lv_at hl 1 rfl) ?_
    refine lv_iload hx hb dX0_step_113 (lv_at hl 5 rfl) ?_
    refine lv_aload_n hx hb dX0_step_115 rfl (lv_at hl 1 rfl) ?_
    refine zget hC hZ fX0_19 hk h_9 rfl dX0_step_116 ?_
    refine lv_aload_n hx hb dX0_step_119 rfl (lv_at hl 1 rfl) ?_
    refine zget hC hZ fX0_13 hk h_9 rfl dX0_step_120 ?_
    refine lv_bipush (v := 10) hx hb dX0_step_123 (by decide) ?_
    refine lv_idiv hx hb dX0_step_125 (by decide) ?_
    refine lv_iadd hx hb dX0_step_126 ?_
    refine zmin hC kX0_31 hl.1 (zRj_of rfl) (Nat.le_of_ble_eq_true rfl) ⟨Nat.le_refl _, Nat.le_refl _⟩ dX0_step_127 ?_
    refine zput (E := oCourse ((c0.1 + 1), (if 0 < (if (c0.2.1 + (((10 * dr) - (((c0.2.1 * c0.2.1) * l0) / 10000)) / 20)) < 3000 then (c0.2.1 + (((10 * dr) - (((c0.2.1 * c0.2.1) * l0) / 10000)) / 20)) else 3000) then (if (c0.2.1 + (((10 * dr) - (((c0.2.1 * c0.2.1) * l0) / 10000)) / 20)) < 3000 then (c0.2.1 + (((10 * dr) - (((c0.2.1 * c0.2.1) * l0) / 10000)) / 20)) else 3000) else 0), (c0.2.2.1 + ((((((if 0 < (if (c0.2.1 + (((10 * dr) - (((c0.2.1 * c0.2.1) * l0) / 10000)) / 20)) < 3000 then (c0.2.1 + (((10 * dr) - (((c0.2.1 * c0.2.1) * l0) / 10000)) / 20)) else 3000) then (if (c0.2.1 + (((10 * dr) - (((c0.2.1 * c0.2.1) * l0) / 10000)) / 20)) < 3000 then (c0.2.1 + (((10 * dr) - (((c0.2.1 * c0.2.1) * l0) / 10000)) / 20)) else 3000) else 0) * (if 0 < (if (c0.2.1 + (((10 * dr) - (((c0.2.1 * c0.2.1) * l0) / 10000)) / 20)) < 3000 then (c0.2.1 + (((10 * dr) - (((c0.2.1 * c0.2.1) * l0) / 10000)) / 20)) else 3000) then (if (c0.2.1 + (((10 * dr) - (((c0.2.1 * c0.2.1) * l0) / 10000)) / 20)) < 3000 then (c0.2.1 + (((10 * dr) - (((c0.2.1 * c0.2.1) * l0) / 10000)) / 20)) else 3000) else 0)) * kk) / 10000) - c0.2.2.1) / 4)), (if (c0.2.2.2.1 + ((if 0 < (if (c0.2.1 + (((10 * dr) - (((c0.2.1 * c0.2.1) * l0) / 10000)) / 20)) < 3000 then (c0.2.1 + (((10 * dr) - (((c0.2.1 * c0.2.1) * l0) / 10000)) / 20)) else 3000) then (if (c0.2.1 + (((10 * dr) - (((c0.2.1 * c0.2.1) * l0) / 10000)) / 20)) < 3000 then (c0.2.1 + (((10 * dr) - (((c0.2.1 * c0.2.1) * l0) / 10000)) / 20)) else 3000) else 0) / 10)) < ln then (c0.2.2.2.1 + ((if 0 < (if (c0.2.1 + (((10 * dr) - (((c0.2.1 * c0.2.1) * l0) / 10000)) / 20)) < 3000 then (c0.2.1 + (((10 * dr) - (((c0.2.1 * c0.2.1) * l0) / 10000)) / 20)) else 3000) then (if (c0.2.1 + (((10 * dr) - (((c0.2.1 * c0.2.1) * l0) / 10000)) / 20)) < 3000 then (c0.2.1 + (((10 * dr) - (((c0.2.1 * c0.2.1) * l0) / 10000)) / 20)) else 3000) else 0) / 10)) else ln), c0.2.2.2.2)) hC hZ pX0_19 hk h_9 rfl rfl rfl (Nat.le_of_ble_eq_true rfl) dX0_step_130 (fun F_10 hF_11 H locs hZ => ?_)
    have h_12 := zeq hF_11
    refine lv_aload_n hx hb dX0_step_133 rfl (lv_at hl 1 rfl) ?_
    refine lv_aload_n hx hb dX0_step_134 rfl (lv_at hl 1 rfl) ?_
    refine zget hC hZ fX0_22 hk h_12 rfl dX0_step_135 ?_
    refine lv_aload_n hx hb dX0_step_138 rfl (lv_at hl 1 rfl) ?_
    refine zget hC hZ fX0_16 hk h_12 rfl dX0_step_139 ?_
    refine zmax hC kX0_25 hl.1 (zRj_of rfl) (Nat.le_of_ble_eq_true rfl) ⟨Nat.le_refl _, Nat.le_refl _⟩ dX0_step_142 ?_
    refine zput (E := oCourse ((c0.1 + 1), (if 0 < (if (c0.2.1 + (((10 * dr) - (((c0.2.1 * c0.2.1) * l0) / 10000)) / 20)) < 3000 then (c0.2.1 + (((10 * dr) - (((c0.2.1 * c0.2.1) * l0) / 10000)) / 20)) else 3000) then (if (c0.2.1 + (((10 * dr) - (((c0.2.1 * c0.2.1) * l0) / 10000)) / 20)) < 3000 then (c0.2.1 + (((10 * dr) - (((c0.2.1 * c0.2.1) * l0) / 10000)) / 20)) else 3000) else 0), (c0.2.2.1 + ((((((if 0 < (if (c0.2.1 + (((10 * dr) - (((c0.2.1 * c0.2.1) * l0) / 10000)) / 20)) < 3000 then (c0.2.1 + (((10 * dr) - (((c0.2.1 * c0.2.1) * l0) / 10000)) / 20)) else 3000) then (if (c0.2.1 + (((10 * dr) - (((c0.2.1 * c0.2.1) * l0) / 10000)) / 20)) < 3000 then (c0.2.1 + (((10 * dr) - (((c0.2.1 * c0.2.1) * l0) / 10000)) / 20)) else 3000) else 0) * (if 0 < (if (c0.2.1 + (((10 * dr) - (((c0.2.1 * c0.2.1) * l0) / 10000)) / 20)) < 3000 then (c0.2.1 + (((10 * dr) - (((c0.2.1 * c0.2.1) * l0) / 10000)) / 20)) else 3000) then (if (c0.2.1 + (((10 * dr) - (((c0.2.1 * c0.2.1) * l0) / 10000)) / 20)) < 3000 then (c0.2.1 + (((10 * dr) - (((c0.2.1 * c0.2.1) * l0) / 10000)) / 20)) else 3000) else 0)) * kk) / 10000) - c0.2.2.1) / 4)), (if (c0.2.2.2.1 + ((if 0 < (if (c0.2.1 + (((10 * dr) - (((c0.2.1 * c0.2.1) * l0) / 10000)) / 20)) < 3000 then (c0.2.1 + (((10 * dr) - (((c0.2.1 * c0.2.1) * l0) / 10000)) / 20)) else 3000) then (if (c0.2.1 + (((10 * dr) - (((c0.2.1 * c0.2.1) * l0) / 10000)) / 20)) < 3000 then (c0.2.1 + (((10 * dr) - (((c0.2.1 * c0.2.1) * l0) / 10000)) / 20)) else 3000) else 0) / 10)) < ln then (c0.2.2.2.1 + ((if 0 < (if (c0.2.1 + (((10 * dr) - (((c0.2.1 * c0.2.1) * l0) / 10000)) / 20)) < 3000 then (c0.2.1 + (((10 * dr) - (((c0.2.1 * c0.2.1) * l0) / 10000)) / 20)) else 3000) then (if (c0.2.1 + (((10 * dr) - (((c0.2.1 * c0.2.1) * l0) / 10000)) / 20)) < 3000 then (c0.2.1 + (((10 * dr) - (((c0.2.1 * c0.2.1) * l0) / 10000)) / 20)) else 3000) else 0) / 10)) else ln), (if c0.2.2.2.2 < (c0.2.2.1 + ((((((if 0 < (if (c0.2.1 + (((10 * dr) - (((c0.2.1 * c0.2.1) * l0) / 10000)) / 20)) < 3000 then (c0.2.1 + (((10 * dr) - (((c0.2.1 * c0.2.1) * l0) / 10000)) / 20)) else 3000) then (if (c0.2.1 + (((10 * dr) - (((c0.2.1 * c0.2.1) * l0) / 10000)) / 20)) < 3000 then (c0.2.1 + (((10 * dr) - (((c0.2.1 * c0.2.1) * l0) / 10000)) / 20)) else 3000) else 0) * (if 0 < (if (c0.2.1 + (((10 * dr) - (((c0.2.1 * c0.2.1) * l0) / 10000)) / 20)) < 3000 then (c0.2.1 + (((10 * dr) - (((c0.2.1 * c0.2.1) * l0) / 10000)) / 20)) else 3000) then (if (c0.2.1 + (((10 * dr) - (((c0.2.1 * c0.2.1) * l0) / 10000)) / 20)) < 3000 then (c0.2.1 + (((10 * dr) - (((c0.2.1 * c0.2.1) * l0) / 10000)) / 20)) else 3000) else 0)) * kk) / 10000) - c0.2.2.1) / 4)) then (c0.2.2.1 + ((((((if 0 < (if (c0.2.1 + (((10 * dr) - (((c0.2.1 * c0.2.1) * l0) / 10000)) / 20)) < 3000 then (c0.2.1 + (((10 * dr) - (((c0.2.1 * c0.2.1) * l0) / 10000)) / 20)) else 3000) then (if (c0.2.1 + (((10 * dr) - (((c0.2.1 * c0.2.1) * l0) / 10000)) / 20)) < 3000 then (c0.2.1 + (((10 * dr) - (((c0.2.1 * c0.2.1) * l0) / 10000)) / 20)) else 3000) else 0) * (if 0 < (if (c0.2.1 + (((10 * dr) - (((c0.2.1 * c0.2.1) * l0) / 10000)) / 20)) < 3000 then (c0.2.1 + (((10 * dr) - (((c0.2.1 * c0.2.1) * l0) / 10000)) / 20)) else 3000) then (if (c0.2.1 + (((10 * dr) - (((c0.2.1 * c0.2.1) * l0) / 10000)) / 20)) < 3000 then (c0.2.1 + (((10 * dr) - (((c0.2.1 * c0.2.1) * l0) / 10000)) / 20)) else 3000) else 0)) * kk) / 10000) - c0.2.2.1) / 4)) else c0.2.2.2.2))) hC hZ pX0_22 hk h_12 rfl rfl rfl (Nat.le_of_ble_eq_true rfl) dX0_step_145 (fun F_13 hF_14 H locs hZ => ?_)
    have h_15 := zeq hF_14
    have hq_16 : F_13 = va_up F k (oCourse (sStep kk l0 dr ln c0)) := by
      have hs : sStep kk l0 dr ln c0 = (c0.1 + 1, sPace l0 dr c0, sArch kk c0 (sPace l0 dr c0), sMin ln (c0.2.2.2.1 + sPace l0 dr c0 / 10), sMax c0.2.2.2.2 (sArch kk c0 (sPace l0 dr c0))) := by unfold sStep; rw [if_neg]; exact (fun h => Int32.not_le.mpr c_16 h)
      rw [hs, hF_14, hF_11, hF_8, hF_5, hF_2]
      simp only [bx_uu]; rfl
    exact zvret hC hZ hr hlocks hq_16 dX0_step_148
  · refine lv_aload_n hx hb dX0_step_19 rfl (lv_at hl 0 rfl) ?_
    refine lv_iconst (v := 0) hx hb dX0_step_20 (by decide) ?_
    refine lv_aload_n hx hb dX0_step_21 rfl (lv_at hl 0 rfl) ?_
    refine zget hC hZ fX0_16 hk h_3 rfl dX0_step_22 ?_
    refine lv_bipush (v := 50) hx hb dX0_step_25 (by decide) ?_
    refine lv_isub hx hb dX0_step_27 ?_
    refine zmax hC kX0_25 hl.1 (zRj_of rfl) (Nat.le_of_ble_eq_true rfl) ⟨Nat.le_refl _, Nat.le_refl _⟩ dX0_step_28 ?_
    refine zput (E := oCourse ((c0.1 + 1), c0.2.1, (if 0 < (c0.2.2.1 - 50) then (c0.2.2.1 - 50) else 0), c0.2.2.2.1, c0.2.2.2.2)) hC hZ pX0_16 hk h_3 rfl rfl rfl (Nat.le_of_ble_eq_true rfl) dX0_step_31 (fun F_17 hF_18 H locs hZ => ?_)
    have h_19 := zeq hF_18
    have hq_20 : F_17 = va_up F k (oCourse (sStep kk l0 dr ln c0)) := by
      have hs : sStep kk l0 dr ln c0 = (c0.1 + 1, c0.2.1, sMax 0 (c0.2.2.1 - 50), c0.2.2.2.1, c0.2.2.2.2) := by unfold sStep; rw [if_pos]; exact (Int32.not_lt.mp c_16)
      rw [hs, hF_18, hF_2]
      simp only [bx_uu]; rfl
    exact zvret hC hZ hr hlocks hq_20 dX0_step_34

theorem mX3_take : zMd yX3_take cX3_take 2 none 1 := ⟨by decide +kernel, gt_of 344 (by decide +kernel) rfl, gt_of 47 (by decide +kernel) rfl, by decide⟩
theorem dX3_take_0 : decode cX3_take 0 = .ok (.aload_n 0, 1) := by decide +kernel
theorem dX3_take_1 : decode cX3_take 1 = .ok (.aload_n 1, 1) := by decide +kernel
theorem dX3_take_2 : decode cX3_take 2 = .ok (.getfield 9, 3) := by decide +kernel
theorem fX3_9 : zFld RX3 9 3 0 := ⟨RX3, TX3, 4, rfl, inX3, by decide, rfl, Or.inl (gt_of 81 (by decide +kernel) rfl)⟩
theorem dX3_take_5 : decode cX3_take 5 = .ok (.putfield 9, 3) := by decide +kernel
theorem pX3_9 : zFldP RX3 9 3 0 false .int := ⟨RX3, TX3, 4, tyX3, rfl, inX3, by decide, rfl, Or.inl (gt_of 81 (by decide +kernel) rfl), tyX3_ok, nmX3, rfl, by decide +kernel, fun h => by cases h⟩
theorem dX3_take_8 : decode cX3_take 8 = .ok (.aload_n 0, 1) := by decide +kernel
theorem dX3_take_9 : decode cX3_take 9 = .ok (.aload_n 1, 1) := by decide +kernel
theorem dX3_take_10 : decode cX3_take 10 = .ok (.getfield 15, 3) := by decide +kernel
theorem fX3_15 : zFld RX3 15 3 1 := ⟨RX3, TX3, 4, rfl, inX3, by decide, rfl, Or.inl (gt_of 85 (by decide +kernel) rfl)⟩
theorem dX3_take_13 : decode cX3_take 13 = .ok (.putfield 15, 3) := by decide +kernel
theorem pX3_15 : zFldP RX3 15 3 1 false .int := ⟨RX3, TX3, 4, tyX3, rfl, inX3, by decide, rfl, Or.inl (gt_of 85 (by decide +kernel) rfl), tyX3_ok, nmX3, rfl, by decide +kernel, fun h => by cases h⟩
theorem dX3_take_16 : decode cX3_take 16 = .ok (.aload_n 0, 1) := by decide +kernel
theorem dX3_take_17 : decode cX3_take 17 = .ok (.aload_n 1, 1) := by decide +kernel
theorem dX3_take_18 : decode cX3_take 18 = .ok (.getfield 18, 3) := by decide +kernel
theorem fX3_18 : zFld RX3 18 3 2 := ⟨RX3, TX3, 4, rfl, inX3, by decide, rfl, Or.inl (gt_of 89 (by decide +kernel) rfl)⟩
theorem dX3_take_21 : decode cX3_take 21 = .ok (.putfield 18, 3) := by decide +kernel
theorem pX3_18 : zFldP RX3 18 3 2 false .int := ⟨RX3, TX3, 4, tyX3, rfl, inX3, by decide, rfl, Or.inl (gt_of 89 (by decide +kernel) rfl), tyX3_ok, nmX3, rfl, by decide +kernel, fun h => by cases h⟩
theorem dX3_take_24 : decode cX3_take 24 = .ok (.aload_n 0, 1) := by decide +kernel
theorem dX3_take_25 : decode cX3_take 25 = .ok (.aload_n 1, 1) := by decide +kernel
theorem dX3_take_26 : decode cX3_take 26 = .ok (.getfield 21, 3) := by decide +kernel
theorem fX3_21 : zFld RX3 21 3 3 := ⟨RX3, TX3, 4, rfl, inX3, by decide, rfl, Or.inl (gt_of 93 (by decide +kernel) rfl)⟩
theorem dX3_take_29 : decode cX3_take 29 = .ok (.putfield 21, 3) := by decide +kernel
theorem pX3_21 : zFldP RX3 21 3 3 false .int := ⟨RX3, TX3, 4, tyX3, rfl, inX3, by decide, rfl, Or.inl (gt_of 93 (by decide +kernel) rfl), tyX3_ok, nmX3, rfl, by decide +kernel, fun h => by cases h⟩
theorem dX3_take_32 : decode cX3_take 32 = .ok (.return_, 1) := by decide +kernel
set_option maxRecDepth 100000 in
theorem c_X3_take (l : Launch) (D : va_G) (cy : Nat → Nat) (n : Nat) (ad : Nat → Nat) (F : Nat → va_E) (sz : Nat) (k : Nat) (b0 : Stg) (hk : k < n) (hFk : F k = oSetting b0) (j : Nat) (b1 : Stg) (hj : j < n) (hFj : F j = oSetting b1) (hjk : j ≠ k) : Met l yX3_take (zw yX3_take cX3_take 2 none) (rmL 0) (zPc D cy n ad F sz [.ref (ad k), .ref (ad j)]) (va_Qv (fun F1 => F1 = va_up F k (oSetting b1)) (zB D n ad) (zA n ad sz)) 0 0 (zA n ad sz) := by
  refine zmet (by decide +kernel) (Nat.le_of_ble_eq_true rfl) (fun p e s m args below meth c ls hC hsz hZ hA hr hlocks hnm hl => ?_)
  have hC : zC p m c cX3_take 2 s args RX3 D cy := hC
  have hx := hC.1.1
  have hb := hC.1.2.1
  have hl : lv_has ls 2 [(0, .ref (ad k)), (1, .ref (ad j))] := hl
  refine lv_aload_n hx hb dX3_take_0 rfl (lv_at hl 0 rfl) ?_
  refine lv_aload_n hx hb dX3_take_1 rfl (lv_at hl 1 rfl) ?_
  refine zget hC hZ fX3_9 hj hFj rfl dX3_take_2 ?_
  refine zput (E := oSetting (b1.1, b0.2.1, b0.2.2.1, b0.2.2.2)) hC hZ pX3_9 hk hFk rfl rfl rfl (Nat.le_of_ble_eq_true rfl) dX3_take_5 (fun F_1 hF_2 H locs hZ => ?_)
  have h_3 := zeq hF_2
  refine lv_aload_n hx hb dX3_take_8 rfl (lv_at hl 0 rfl) ?_
  refine lv_aload_n hx hb dX3_take_9 rfl (lv_at hl 1 rfl) ?_
  refine zget hC hZ fX3_15 hj (zne hF_2 hjk hFj) rfl dX3_take_10 ?_
  refine zput (E := oSetting (b1.1, b1.2.1, b0.2.2.1, b0.2.2.2)) hC hZ pX3_15 hk h_3 rfl rfl rfl (Nat.le_of_ble_eq_true rfl) dX3_take_13 (fun F_4 hF_5 H locs hZ => ?_)
  have h_6 := zeq hF_5
  refine lv_aload_n hx hb dX3_take_16 rfl (lv_at hl 0 rfl) ?_
  refine lv_aload_n hx hb dX3_take_17 rfl (lv_at hl 1 rfl) ?_
  refine zget hC hZ fX3_18 hj (zne hF_5 hjk (zne hF_2 hjk hFj)) rfl dX3_take_18 ?_
  refine zput (E := oSetting (b1.1, b1.2.1, b1.2.2.1, b0.2.2.2)) hC hZ pX3_18 hk h_6 rfl rfl rfl (Nat.le_of_ble_eq_true rfl) dX3_take_21 (fun F_7 hF_8 H locs hZ => ?_)
  have h_9 := zeq hF_8
  refine lv_aload_n hx hb dX3_take_24 rfl (lv_at hl 0 rfl) ?_
  refine lv_aload_n hx hb dX3_take_25 rfl (lv_at hl 1 rfl) ?_
  refine zget hC hZ fX3_21 hj (zne hF_8 hjk (zne hF_5 hjk (zne hF_2 hjk hFj))) rfl dX3_take_26 ?_
  refine zput (E := oSetting (b1.1, b1.2.1, b1.2.2.1, b1.2.2.2)) hC hZ pX3_21 hk h_9 rfl rfl rfl (Nat.le_of_ble_eq_true rfl) dX3_take_29 (fun F_10 hF_11 H locs hZ => ?_)
  have h_12 := zeq hF_11
  have hq_13 : F_10 = va_up F k (oSetting b1) := by simp only [hF_11, hF_8, hF_5, hF_2, bx_uu]
  exact zvret hC hZ hr hlocks hq_13 dX3_take_32

theorem mX5_become : zMd yX5_become cX5_become 3 none 2 := ⟨by decide +kernel, gt_of 475 (by decide +kernel) rfl, gt_of 50 (by decide +kernel) rfl, by decide⟩
theorem dX5_become_0 : decode cX5_become 0 = .ok (.aload_n 0, 1) := by decide +kernel
theorem dX5_become_1 : decode cX5_become 1 = .ok (.iload_n 1, 1) := by decide +kernel
theorem dX5_become_2 : decode cX5_become 2 = .ok (.putfield 9, 3) := by decide +kernel
theorem pX5_9 : zFldP RX5 9 5 0 false .int := ⟨RX5, TX5, 2, tyX5, rfl, inX5, by decide, rfl, Or.inl (gt_of 170 (by decide +kernel) rfl), tyX5_ok, nmX5, rfl, by decide +kernel, fun h => by cases h⟩
theorem dX5_become_5 : decode cX5_become 5 = .ok (.aload_n 0, 1) := by decide +kernel
theorem dX5_become_6 : decode cX5_become 6 = .ok (.iload_n 2, 1) := by decide +kernel
theorem dX5_become_7 : decode cX5_become 7 = .ok (.putfield 15, 3) := by decide +kernel
theorem pX5_15 : zFldP RX5 15 5 1 false .int := ⟨RX5, TX5, 2, tyX5, rfl, inX5, by decide, rfl, Or.inl (gt_of 171 (by decide +kernel) rfl), tyX5_ok, nmX5, rfl, by decide +kernel, fun h => by cases h⟩
theorem dX5_become_10 : decode cX5_become 10 = .ok (.return_, 1) := by decide +kernel
set_option maxRecDepth 100000 in
theorem c_X5_become (l : Launch) (D : va_G) (cy : Nat → Nat) (n : Nat) (ad : Nat → Nat) (F : Nat → va_E) (sz : Nat) (k : Nat) (t : Tal) (hk : k < n) (hFk : F k = oTale t) (kd fg : Int32) : Met l yX5_become (zw yX5_become cX5_become 3 none) (rmL 0) (zPc D cy n ad F sz [.ref (ad k), .int kd, .int fg]) (va_Qv (fun F1 => F1 = va_up F k (oTale (kd, fg))) (zB D n ad) (zA n ad sz)) 0 0 (zA n ad sz) := by
  refine zmet (by decide +kernel) (Nat.le_of_ble_eq_true rfl) (fun p e s m args below meth c ls hC hsz hZ hA hr hlocks hnm hl => ?_)
  have hC : zC p m c cX5_become 3 s args RX5 D cy := hC
  have hx := hC.1.1
  have hb := hC.1.2.1
  have hl : lv_has ls 3 [(0, .ref (ad k)), (1, .int kd), (2, .int fg)] := hl
  refine lv_aload_n hx hb dX5_become_0 rfl (lv_at hl 0 rfl) ?_
  refine lv_iload_n hx hb dX5_become_1 rfl (lv_at hl 1 rfl) ?_
  refine zput (E := oTale (kd, t.2)) hC hZ pX5_9 hk hFk rfl rfl rfl (Nat.le_of_ble_eq_true rfl) dX5_become_2 (fun F_1 hF_2 H locs hZ => ?_)
  have h_3 := zeq hF_2
  refine lv_aload_n hx hb dX5_become_5 rfl (lv_at hl 0 rfl) ?_
  refine lv_iload_n hx hb dX5_become_6 rfl (lv_at hl 2 rfl) ?_
  refine zput (E := oTale (kd, fg)) hC hZ pX5_15 hk h_3 rfl rfl rfl (Nat.le_of_ble_eq_true rfl) dX5_become_7 (fun F_4 hF_5 H locs hZ => ?_)
  have h_6 := zeq hF_5
  have hq_7 : F_4 = va_up F k (oTale (kd, fg)) := by simp only [hF_5, hF_2, bx_uu]
  exact zvret hC hZ hr hlocks hq_7 dX5_become_10

theorem mX5_kickOfKicked : zMd yX5_kickOfKicked cX5_kickOfKicked 2 (some .int) 1 := ⟨by decide +kernel, gt_of 376 (by decide +kernel) rfl, gt_of 50 (by decide +kernel) rfl, by decide⟩
theorem dX5_kickOfKicked_0 : decode cX5_kickOfKicked 0 = .ok (.aload_n 0, 1) := by decide +kernel
theorem dX5_kickOfKicked_1 : decode cX5_kickOfKicked 1 = .ok (.getfield 15, 3) := by decide +kernel
theorem fX5_15 : zFld RX5 15 5 1 := ⟨RX5, TX5, 2, rfl, inX5, by decide, rfl, Or.inl (gt_of 171 (by decide +kernel) rfl)⟩
theorem dX5_kickOfKicked_4 : decode cX5_kickOfKicked 4 = .ok (.aload_n 1, 1) := by decide +kernel
theorem dX5_kickOfKicked_5 : decode cX5_kickOfKicked 5 = .ok (.getfield 30, 3) := by decide +kernel
theorem fX5_30 : zFld RX5 30 3 0 := ⟨RX3, TX3, 4, rfl, inX3, by decide, rfl, Or.inr ⟨"ChainLeap", List.mem_of_getElem? (i := 82) (by decide +kernel)⟩⟩
theorem dX5_kickOfKicked_8 : decode cX5_kickOfKicked 8 = .ok (.imul, 1) := by decide +kernel
theorem dX5_kickOfKicked_9 : decode cX5_kickOfKicked 9 = .ok (.bipush 100, 2) := by decide +kernel
theorem dX5_kickOfKicked_11 : decode cX5_kickOfKicked 11 = .ok (.idiv, 1) := by decide +kernel
theorem dX5_kickOfKicked_12 : decode cX5_kickOfKicked 12 = .ok (.ireturn, 1) := by decide +kernel
set_option maxRecDepth 100000 in
theorem c_X5_kickOfKicked (l : Launch) (D : va_G) (cy : Nat → Nat) (n : Nat) (ad : Nat → Nat) (F : Nat → va_E) (sz : Nat) (k : Nat) (t : Tal) (hk : k < n) (hFk : F k = oTale t) (j : Nat) (b : Stg) (hj : j < n) (hFj : F j = oSetting b) : Met l yX5_kickOfKicked (zw yX5_kickOfKicked cX5_kickOfKicked 2 (some .int)) (rmL 0) (zPc D cy n ad F sz [.ref (ad k), .ref (ad j)]) (va_Qi (fun r F1 => r = sKK t b ∧ F = F1) (zB D n ad) (zA n ad sz)) 0 0 (zA n ad sz) := by
  refine zmet (by decide +kernel) (Nat.le_of_ble_eq_true rfl) (fun p e s m args below meth c ls hC hsz hZ hA hr hlocks hnm hl => ?_)
  have hC : zC p m c cX5_kickOfKicked 2 s args RX5 D cy := hC
  have hx := hC.1.1
  have hb := hC.1.2.1
  have hl : lv_has ls 2 [(0, .ref (ad k)), (1, .ref (ad j))] := hl
  refine lv_aload_n hx hb dX5_kickOfKicked_0 rfl (lv_at hl 0 rfl) ?_
  refine zget hC hZ fX5_15 hk hFk rfl dX5_kickOfKicked_1 ?_
  refine lv_aload_n hx hb dX5_kickOfKicked_4 rfl (lv_at hl 1 rfl) ?_
  refine zget hC hZ fX5_30 hj hFj rfl dX5_kickOfKicked_5 ?_
  refine lv_imul hx hb dX5_kickOfKicked_8 ?_
  refine lv_bipush (v := 100) hx hb dX5_kickOfKicked_9 (by decide) ?_
  refine lv_idiv hx hb dX5_kickOfKicked_11 (by decide) ?_
  have hq_1 : ((t.2 * b.1) / 100) = sKK t b := by rfl
  exact zireti hC hZ hr hlocks ⟨hq_1, rfl⟩ dX5_kickOfKicked_12

theorem mX5_kickOfThrown : zMd yX5_kickOfThrown cX5_kickOfThrown 2 (some .int) 1 := ⟨by decide +kernel, gt_of 380 (by decide +kernel) rfl, gt_of 50 (by decide +kernel) rfl, by decide⟩
theorem dX5_kickOfThrown_0 : decode cX5_kickOfThrown 0 = .ok (.aload_n 1, 1) := by decide +kernel
theorem dX5_kickOfThrown_1 : decode cX5_kickOfThrown 1 = .ok (.getfield 33, 3) := by decide +kernel
theorem fX5_33 : zFld RX5 33 3 2 := ⟨RX3, TX3, 4, rfl, inX3, by decide, rfl, Or.inr ⟨"ChainLeap", List.mem_of_getElem? (i := 91) (by decide +kernel)⟩⟩
theorem dX5_kickOfThrown_4 : decode cX5_kickOfThrown 4 = .ok (.lookupswitch 40 #[(0, 28), (1, 35)], 28) := by decide +kernel
theorem dX5_kickOfThrown_32 : decode cX5_kickOfThrown 32 = .ok (.aload_n 0, 1) := by decide +kernel
theorem dX5_kickOfThrown_33 : decode cX5_kickOfThrown 33 = .ok (.getfield 15, 3) := by decide +kernel
theorem dX5_kickOfThrown_36 : decode cX5_kickOfThrown 36 = .ok (.iconst 2, 1) := by decide +kernel
theorem dX5_kickOfThrown_37 : decode cX5_kickOfThrown 37 = .ok (.idiv, 1) := by decide +kernel
theorem dX5_kickOfThrown_38 : decode cX5_kickOfThrown 38 = .ok (.ireturn, 1) := by decide +kernel
theorem dX5_kickOfThrown_39 : decode cX5_kickOfThrown 39 = .ok (.aload_n 0, 1) := by decide +kernel
theorem dX5_kickOfThrown_40 : decode cX5_kickOfThrown 40 = .ok (.getfield 15, 3) := by decide +kernel
theorem dX5_kickOfThrown_43 : decode cX5_kickOfThrown 43 = .ok (.ireturn, 1) := by decide +kernel
theorem dX5_kickOfThrown_44 : decode cX5_kickOfThrown 44 = .ok (.iconst 0, 1) := by decide +kernel
theorem dX5_kickOfThrown_45 : decode cX5_kickOfThrown 45 = .ok (.ireturn, 1) := by decide +kernel
set_option maxRecDepth 100000 in
theorem c_X5_kickOfThrown (l : Launch) (D : va_G) (cy : Nat → Nat) (n : Nat) (ad : Nat → Nat) (F : Nat → va_E) (sz : Nat) (k : Nat) (t : Tal) (hk : k < n) (hFk : F k = oTale t) (j : Nat) (b : Stg) (hj : j < n) (hFj : F j = oSetting b) : Met l yX5_kickOfThrown (zw yX5_kickOfThrown cX5_kickOfThrown 2 (some .int)) (rmL 0) (zPc D cy n ad F sz [.ref (ad k), .ref (ad j)]) (va_Qi (fun r F1 => r = sKT t b ∧ F = F1) (zB D n ad) (zA n ad sz)) 0 0 (zA n ad sz) := by
  refine zmet (by decide +kernel) (Nat.le_of_ble_eq_true rfl) (fun p e s m args below meth c ls hC hsz hZ hA hr hlocks hnm hl => ?_)
  have hC : zC p m c cX5_kickOfThrown 2 s args RX5 D cy := hC
  have hx := hC.1.1
  have hb := hC.1.2.1
  have hl : lv_has ls 2 [(0, .ref (ad k)), (1, .ref (ad j))] := hl
  refine lv_aload_n hx hb dX5_kickOfThrown_0 rfl (lv_at hl 1 rfl) ?_
  refine zget hC hZ fX5_33 hj hFj rfl dX5_kickOfThrown_1 ?_
  by_cases c_4_0 : b.2.2.1 = 0
  · refine lv_lookup (off := 28) (tgt := 32) hx hb dX5_kickOfThrown_4 (by decide) (by rw [c_4_0]; decide) (by decide) ?_
    refine lv_aload_n hx hb dX5_kickOfThrown_32 rfl (lv_at hl 0 rfl) ?_
    refine zget hC hZ fX5_15 hk hFk rfl dX5_kickOfThrown_33 ?_
    refine lv_iconst (v := 2) hx hb dX5_kickOfThrown_36 (by decide) ?_
    refine lv_idiv hx hb dX5_kickOfThrown_37 (by decide) ?_
    have hq_1 : (t.2 / 2) = sKT t b := by first | rfl | simp [sKT, c_4_0] | (simp only [sKT]; simp [c_4_0])
    exact zireti hC hZ hr hlocks ⟨hq_1, rfl⟩ dX5_kickOfThrown_38
  · by_cases c_4_1 : b.2.2.1 = 1
    · refine lv_lookup (off := 35) (tgt := 39) hx hb dX5_kickOfThrown_4 (by decide) (by rw [c_4_1]; decide) (by decide) ?_
      refine lv_aload_n hx hb dX5_kickOfThrown_39 rfl (lv_at hl 0 rfl) ?_
      refine zget hC hZ fX5_15 hk hFk rfl dX5_kickOfThrown_40 ?_
      have hq_2 : t.2 = sKT t b := by first | rfl | simp [sKT, c_4_0, c_4_1] | (simp only [sKT]; simp [c_4_0, c_4_1])
      exact zireti hC hZ hr hlocks ⟨hq_2, rfl⟩ dX5_kickOfThrown_43
    · refine lv_lookup (off := 40) (tgt := 44) hx hb dX5_kickOfThrown_4 (by decide) ((lv_osw (k := 0) c_4_0 rfl).trans ((lv_osw (k := 1) c_4_1 rfl).trans rfl)) (by decide) ?_
      refine lv_iconst (v := 0) hx hb dX5_kickOfThrown_44 (by decide) ?_
      have hq_3 : (0 : Int32) = sKT t b := by first | rfl | simp [sKT, c_4_0, c_4_1] | (simp only [sKT]; simp [c_4_0, c_4_1])
      exact zireti hC hZ hr hlocks ⟨hq_3, rfl⟩ dX5_kickOfThrown_45

theorem mX5_kick : zMd yX5_kick cX5_kick 2 (some .int) 1 := ⟨by decide +kernel, gt_of 372 (by decide +kernel) rfl, gt_of 50 (by decide +kernel) rfl, by decide⟩
theorem dX5_kick_0 : decode cX5_kick 0 = .ok (.aload_n 0, 1) := by decide +kernel
theorem dX5_kick_1 : decode cX5_kick 1 = .ok (.getfield 9, 3) := by decide +kernel
theorem fX5_9 : zFld RX5 9 5 0 := ⟨RX5, TX5, 2, rfl, inX5, by decide, rfl, Or.inl (gt_of 170 (by decide +kernel) rfl)⟩
theorem dX5_kick_4 : decode cX5_kick 4 = .ok (.tableswitch 77 1 6 #[40, 46, 63, 40, 77, 69], 40) := by decide +kernel
theorem dX5_kick_44 : decode cX5_kick 44 = .ok (.aload_n 0, 1) := by decide +kernel
theorem dX5_kick_45 : decode cX5_kick 45 = .ok (.aload_n 1, 1) := by decide +kernel
theorem dX5_kick_46 : decode cX5_kick 46 = .ok (.invokevirtual 18, 3) := by decide +kernel
theorem kX5_18 : zLk RX5 18 yX5_kickOfKicked := Or.inl (gt_of 373 (by decide +kernel) rfl)
theorem vX5_kickOfKicked : zMi yX5_kickOfKicked := ⟨gt_of 375 (by decide +kernel) rfl, gt_of 11 (by decide +kernel) rfl⟩
theorem dX5_kick_49 : decode cX5_kick 49 = .ok (.ireturn, 1) := by decide +kernel
theorem dX5_kick_50 : decode cX5_kick 50 = .ok (.aload_n 0, 1) := by decide +kernel
theorem dX5_kick_51 : decode cX5_kick 51 = .ok (.aload_n 1, 1) := by decide +kernel
theorem dX5_kick_52 : decode cX5_kick 52 = .ok (.invokevirtual 18, 3) := by decide +kernel
theorem dX5_kick_55 : decode cX5_kick 55 = .ok (.bipush 100, 2) := by decide +kernel
theorem dX5_kick_57 : decode cX5_kick 57 = .ok (.aload_n 1, 1) := by decide +kernel
theorem dX5_kick_58 : decode cX5_kick 58 = .ok (.getfield 22, 3) := by decide +kernel
theorem fX5_22 : zFld RX5 22 3 1 := ⟨RX3, TX3, 4, rfl, inX3, by decide, rfl, Or.inr ⟨"ChainLeap", List.mem_of_getElem? (i := 86) (by decide +kernel)⟩⟩
theorem dX5_kick_61 : decode cX5_kick 61 = .ok (.isub, 1) := by decide +kernel
theorem dX5_kick_62 : decode cX5_kick 62 = .ok (.imul, 1) := by decide +kernel
theorem dX5_kick_63 : decode cX5_kick 63 = .ok (.bipush 100, 2) := by decide +kernel
theorem dX5_kick_65 : decode cX5_kick 65 = .ok (.idiv, 1) := by decide +kernel
theorem dX5_kick_66 : decode cX5_kick 66 = .ok (.ireturn, 1) := by decide +kernel
theorem dX5_kick_67 : decode cX5_kick 67 = .ok (.aload_n 0, 1) := by decide +kernel
theorem dX5_kick_68 : decode cX5_kick 68 = .ok (.aload_n 1, 1) := by decide +kernel
theorem dX5_kick_69 : decode cX5_kick 69 = .ok (.invokevirtual 27, 3) := by decide +kernel
theorem kX5_27 : zLk RX5 27 yX5_kickOfThrown := Or.inl (gt_of 377 (by decide +kernel) rfl)
theorem vX5_kickOfThrown : zMi yX5_kickOfThrown := ⟨gt_of 379 (by decide +kernel) rfl, gt_of 12 (by decide +kernel) rfl⟩
theorem dX5_kick_72 : decode cX5_kick 72 = .ok (.ireturn, 1) := by decide +kernel
theorem dX5_kick_81 : decode cX5_kick 81 = .ok (.iconst 0, 1) := by decide +kernel
theorem dX5_kick_82 : decode cX5_kick 82 = .ok (.ireturn, 1) := by decide +kernel
theorem dX5_kick_73 : decode cX5_kick 73 = .ok (.aload_n 0, 1) := by decide +kernel
theorem dX5_kick_74 : decode cX5_kick 74 = .ok (.aload_n 1, 1) := by decide +kernel
theorem dX5_kick_75 : decode cX5_kick 75 = .ok (.invokevirtual 18, 3) := by decide +kernel
theorem dX5_kick_78 : decode cX5_kick 78 = .ok (.iconst 2, 1) := by decide +kernel
theorem dX5_kick_79 : decode cX5_kick 79 = .ok (.idiv, 1) := by decide +kernel
theorem dX5_kick_80 : decode cX5_kick 80 = .ok (.ireturn, 1) := by decide +kernel
set_option maxRecDepth 100000 in
theorem c_X5_kick (l : Launch) (D : va_G) (cy : Nat → Nat) (n : Nat) (ad : Nat → Nat) (F : Nat → va_E) (sz : Nat) (k : Nat) (t : Tal) (hk : k < n) (hFk : F k = oTale t) (j : Nat) (b : Stg) (hj : j < n) (hFj : F j = oSetting b) : Met l yX5_kick (zw yX5_kick cX5_kick 2 (some .int)) (rmL 1) (zPc D cy n ad F sz [.ref (ad k), .ref (ad j)]) (va_Qi (fun r F1 => r = sKick t b ∧ F = F1) (zB D n ad) (zA n ad sz)) 0 0 (zA n ad sz) := by
  refine zmet (by decide +kernel) (Nat.le_of_ble_eq_true rfl) (fun p e s m args below meth c ls hC hsz hZ hA hr hlocks hnm hl => ?_)
  have hC : zC p m c cX5_kick 2 s args RX5 D cy := hC
  have hx := hC.1.1
  have hb := hC.1.2.1
  have hl : lv_has ls 2 [(0, .ref (ad k)), (1, .ref (ad j))] := hl
  refine lv_aload_n hx hb dX5_kick_0 rfl (lv_at hl 0 rfl) ?_
  refine zget hC hZ fX5_9 hk hFk rfl dX5_kick_1 ?_
  by_cases c_4_1 : t.1 = 1
  · refine lv_tableIn (off := 40) (tgt := 44) hx hb dX5_kick_4 (by rw [c_4_1]; decide) (by rw [c_4_1]; decide) (by rw [c_4_1]; rfl) (by decide) ?_
    refine lv_aload_n hx hb dX5_kick_44 rfl (lv_at hl 0 rfl) ?_
    refine lv_aload_n hx hb dX5_kick_45 rfl (lv_at hl 1 rfl) ?_
    refine zgoi hZ hA (zrunV (As := [.ref (ad j)]) (rest := []) (k := k) hC hZ (c_X5_kickOfKicked l D cy n ad F s.heap.size k t hk hFk j b hj hFj) mX5_kickOfKicked vX5_kickOfKicked kX5_18 (zRj_of rfl) hk hFk rfl rfl hl.1 rfl (Nat.le_of_ble_eq_true rfl) dX5_kick_46 ⟨Nat.le_refl _, Nat.le_refl _⟩) (fun r_2 F_1 hp_3 H locs hZ => ?_)
    obtain ⟨rfl, rfl⟩ := hp_3
    have hq_4 : (sKK t b) = sKick t b := by first | rfl | simp [sKick, c_4_1] | (simp only [sKick]; simp [c_4_1])
    exact zireti hC hZ hr hlocks ⟨hq_4, rfl⟩ dX5_kick_49
  · by_cases c_4_2 : t.1 = 2
    · refine lv_tableIn (off := 46) (tgt := 50) hx hb dX5_kick_4 (by rw [c_4_2]; decide) (by rw [c_4_2]; decide) (by rw [c_4_2]; rfl) (by decide) ?_
      refine lv_aload_n hx hb dX5_kick_50 rfl (lv_at hl 0 rfl) ?_
      refine lv_aload_n hx hb dX5_kick_51 rfl (lv_at hl 1 rfl) ?_
      refine zgoi hZ hA (zrunV (As := [.ref (ad j)]) (rest := []) (k := k) hC hZ (c_X5_kickOfKicked l D cy n ad F s.heap.size k t hk hFk j b hj hFj) mX5_kickOfKicked vX5_kickOfKicked kX5_18 (zRj_of rfl) hk hFk rfl rfl hl.1 rfl (Nat.le_of_ble_eq_true rfl) dX5_kick_52 ⟨Nat.le_refl _, Nat.le_refl _⟩) (fun r_6 F_5 hp_7 H locs hZ => ?_)
      obtain ⟨rfl, rfl⟩ := hp_7
      refine lv_bipush (v := 100) hx hb dX5_kick_55 (by decide) ?_
      refine lv_aload_n hx hb dX5_kick_57 rfl (lv_at hl 1 rfl) ?_
      refine zget hC hZ fX5_22 hj hFj rfl dX5_kick_58 ?_
      refine lv_isub hx hb dX5_kick_61 ?_
      refine lv_imul hx hb dX5_kick_62 ?_
      refine lv_bipush (v := 100) hx hb dX5_kick_63 (by decide) ?_
      refine lv_idiv hx hb dX5_kick_65 (by decide) ?_
      have hq_8 : (((sKK t b) * (100 - b.2.1)) / 100) = sKick t b := by first | rfl | simp [sKick, c_4_1, c_4_2] | (simp only [sKick]; simp [c_4_1, c_4_2])
      exact zireti hC hZ hr hlocks ⟨hq_8, rfl⟩ dX5_kick_66
    · by_cases c_4_3 : t.1 = 3
      · refine lv_tableIn (off := 63) (tgt := 67) hx hb dX5_kick_4 (by rw [c_4_3]; decide) (by rw [c_4_3]; decide) (by rw [c_4_3]; rfl) (by decide) ?_
        refine lv_aload_n hx hb dX5_kick_67 rfl (lv_at hl 0 rfl) ?_
        refine lv_aload_n hx hb dX5_kick_68 rfl (lv_at hl 1 rfl) ?_
        refine zgoi hZ hA (zrunV (As := [.ref (ad j)]) (rest := []) (k := k) hC hZ (c_X5_kickOfThrown l D cy n ad F s.heap.size k t hk hFk j b hj hFj) mX5_kickOfThrown vX5_kickOfThrown kX5_27 (zRj_of rfl) hk hFk rfl rfl hl.1 rfl (Nat.le_of_ble_eq_true rfl) dX5_kick_69 ⟨Nat.le_refl _, Nat.le_refl _⟩) (fun r_10 F_9 hp_11 H locs hZ => ?_)
        obtain ⟨rfl, rfl⟩ := hp_11
        have hq_12 : (sKT t b) = sKick t b := by first | rfl | simp [sKick, c_4_1, c_4_2, c_4_3] | (simp only [sKick]; simp [c_4_1, c_4_2, c_4_3])
        exact zireti hC hZ hr hlocks ⟨hq_12, rfl⟩ dX5_kick_72
      · by_cases c_4_4 : t.1 = 4
        · refine lv_tableIn (off := 40) (tgt := 44) hx hb dX5_kick_4 (by rw [c_4_4]; decide) (by rw [c_4_4]; decide) (by rw [c_4_4]; rfl) (by decide) ?_
          refine lv_aload_n hx hb dX5_kick_44 rfl (lv_at hl 0 rfl) ?_
          refine lv_aload_n hx hb dX5_kick_45 rfl (lv_at hl 1 rfl) ?_
          refine zgoi hZ hA (zrunV (As := [.ref (ad j)]) (rest := []) (k := k) hC hZ (c_X5_kickOfKicked l D cy n ad F s.heap.size k t hk hFk j b hj hFj) mX5_kickOfKicked vX5_kickOfKicked kX5_18 (zRj_of rfl) hk hFk rfl rfl hl.1 rfl (Nat.le_of_ble_eq_true rfl) dX5_kick_46 ⟨Nat.le_refl _, Nat.le_refl _⟩) (fun r_14 F_13 hp_15 H locs hZ => ?_)
          obtain ⟨rfl, rfl⟩ := hp_15
          have hq_16 : (sKK t b) = sKick t b := by first | rfl | simp [sKick, c_4_1, c_4_2, c_4_3, c_4_4] | (simp only [sKick]; simp [c_4_1, c_4_2, c_4_3, c_4_4])
          exact zireti hC hZ hr hlocks ⟨hq_16, rfl⟩ dX5_kick_49
        · by_cases c_4_5 : t.1 = 5
          · refine lv_tableIn (off := 77) (tgt := 81) hx hb dX5_kick_4 (by rw [c_4_5]; decide) (by rw [c_4_5]; decide) (by rw [c_4_5]; rfl) (by decide) ?_
            refine lv_iconst (v := 0) hx hb dX5_kick_81 (by decide) ?_
            have hq_17 : (0 : Int32) = sKick t b := by first | rfl | simp [sKick, c_4_1, c_4_2, c_4_3, c_4_4, c_4_5] | (simp only [sKick]; simp [c_4_1, c_4_2, c_4_3, c_4_4, c_4_5])
            exact zireti hC hZ hr hlocks ⟨hq_17, rfl⟩ dX5_kick_82
          · by_cases c_4_6 : t.1 = 6
            · refine lv_tableIn (off := 69) (tgt := 73) hx hb dX5_kick_4 (by rw [c_4_6]; decide) (by rw [c_4_6]; decide) (by rw [c_4_6]; rfl) (by decide) ?_
              refine lv_aload_n hx hb dX5_kick_73 rfl (lv_at hl 0 rfl) ?_
              refine lv_aload_n hx hb dX5_kick_74 rfl (lv_at hl 1 rfl) ?_
              refine zgoi hZ hA (zrunV (As := [.ref (ad j)]) (rest := []) (k := k) hC hZ (c_X5_kickOfKicked l D cy n ad F s.heap.size k t hk hFk j b hj hFj) mX5_kickOfKicked vX5_kickOfKicked kX5_18 (zRj_of rfl) hk hFk rfl rfl hl.1 rfl (Nat.le_of_ble_eq_true rfl) dX5_kick_75 ⟨Nat.le_refl _, Nat.le_refl _⟩) (fun r_19 F_18 hp_20 H locs hZ => ?_)
              obtain ⟨rfl, rfl⟩ := hp_20
              refine lv_iconst (v := 2) hx hb dX5_kick_78 (by decide) ?_
              refine lv_idiv hx hb dX5_kick_79 (by decide) ?_
              have hq_21 : ((sKK t b) / 2) = sKick t b := by first | rfl | simp [sKick, c_4_1, c_4_2, c_4_3, c_4_4, c_4_5, c_4_6] | (simp only [sKick]; simp [c_4_1, c_4_2, c_4_3, c_4_4, c_4_5, c_4_6])
              exact zireti hC hZ hr hlocks ⟨hq_21, rfl⟩ dX5_kick_80
            · refine lv_tableOut (tgt := 81) hx hb dX5_kick_4 (by have e0 : ¬ t.1.toInt = 1 := lv_neT (k := 1) c_4_1 rfl; have e1 : ¬ t.1.toInt = 2 := lv_neT (k := 2) c_4_2 rfl; have e2 : ¬ t.1.toInt = 3 := lv_neT (k := 3) c_4_3 rfl; have e3 : ¬ t.1.toInt = 4 := lv_neT (k := 4) c_4_4 rfl; have e4 : ¬ t.1.toInt = 5 := lv_neT (k := 5) c_4_5 rfl; have e5 : ¬ t.1.toInt = 6 := lv_neT (k := 6) c_4_6 rfl; omega) (by decide) ?_
              refine lv_iconst (v := 0) hx hb dX5_kick_81 (by decide) ?_
              have hq_22 : (0 : Int32) = sKick t b := by first | rfl | simp [sKick, c_4_1, c_4_2, c_4_3, c_4_4, c_4_5, c_4_6] | (simp only [sKick]; simp [c_4_1, c_4_2, c_4_3, c_4_4, c_4_5, c_4_6])
              exact zireti hC hZ hr hlocks ⟨hq_22, rfl⟩ dX5_kick_82

theorem mX5_draw : zMd yX5_draw cX5_draw 1 (some .int) 0 := ⟨by decide +kernel, gt_of 384 (by decide +kernel) rfl, gt_of 50 (by decide +kernel) rfl, by decide⟩
theorem dX5_draw_0 : decode cX5_draw 0 = .ok (.aload_n 0, 1) := by decide +kernel
theorem dX5_draw_1 : decode cX5_draw 1 = .ok (.getfield 9, 3) := by decide +kernel
theorem dX5_draw_4 : decode cX5_draw 4 = .ok (.iconst 4, 1) := by decide +kernel
theorem dX5_draw_5 : decode cX5_draw 5 = .ok (.if_icmp .ne 10, 3) := by decide +kernel
theorem dX5_draw_15 : decode cX5_draw 15 = .ok (.iconst 0, 1) := by decide +kernel
theorem dX5_draw_16 : decode cX5_draw 16 = .ok (.ireturn, 1) := by decide +kernel
theorem dX5_draw_8 : decode cX5_draw 8 = .ok (.aload_n 0, 1) := by decide +kernel
theorem dX5_draw_9 : decode cX5_draw 9 = .ok (.getfield 15, 3) := by decide +kernel
theorem dX5_draw_12 : decode cX5_draw 12 = .ok (.goto 4, 3) := by decide +kernel
set_option maxRecDepth 100000 in
theorem c_X5_draw (l : Launch) (D : va_G) (cy : Nat → Nat) (n : Nat) (ad : Nat → Nat) (F : Nat → va_E) (sz : Nat) (k : Nat) (t : Tal) (hk : k < n) (hFk : F k = oTale t) : Met l yX5_draw (zw yX5_draw cX5_draw 1 (some .int)) (rmL 0) (zPc D cy n ad F sz [.ref (ad k)]) (va_Qi (fun r F1 => r = sDraw t ∧ F = F1) (zB D n ad) (zA n ad sz)) 0 0 (zA n ad sz) := by
  refine zmet (by decide +kernel) (Nat.le_of_ble_eq_true rfl) (fun p e s m args below meth c ls hC hsz hZ hA hr hlocks hnm hl => ?_)
  have hC : zC p m c cX5_draw 1 s args RX5 D cy := hC
  have hx := hC.1.1
  have hb := hC.1.2.1
  have hl : lv_has ls 1 [(0, .ref (ad k))] := hl
  refine lv_aload_n hx hb dX5_draw_0 rfl (lv_at hl 0 rfl) ?_
  refine zget hC hZ fX5_9 hk hFk rfl dX5_draw_1 ?_
  refine lv_iconst (v := 4) hx hb dX5_draw_4 (by decide) ?_
  refine lv_icmp_ne (tgt := 15) hx hb dX5_draw_5 (by decide) (fun c_5 => ?_) (fun c_5 => ?_)
  · refine lv_iconst (v := 0) hx hb dX5_draw_15 (by decide) ?_
    have hq_1 : (0 : Int32) = sDraw t := by first | rfl | simp [sDraw, c_5] | (simp only [sDraw]; simp [c_5])
    exact zireti hC hZ hr hlocks ⟨hq_1, rfl⟩ dX5_draw_16
  · refine lv_aload_n hx hb dX5_draw_8 rfl (lv_at hl 0 rfl) ?_
    refine zget hC hZ fX5_15 hk hFk rfl dX5_draw_9 ?_
    refine lv_goto (tgt := 16) hx hb dX5_draw_12 (by decide) ?_
    have hq_2 : t.2 = sDraw t := by first | rfl | simp [sDraw, c_5] | (simp only [sDraw]; simp [c_5])
    exact zireti hC hZ hr hlocks ⟨hq_2, rfl⟩ dX5_draw_16

theorem mX5_hold : zMd yX5_hold cX5_hold 1 (some .int) 0 := ⟨by decide +kernel, gt_of 388 (by decide +kernel) rfl, gt_of 50 (by decide +kernel) rfl, by decide⟩
theorem dX5_hold_0 : decode cX5_hold 0 = .ok (.aload_n 0, 1) := by decide +kernel
theorem dX5_hold_1 : decode cX5_hold 1 = .ok (.getfield 9, 3) := by decide +kernel
theorem dX5_hold_4 : decode cX5_hold 4 = .ok (.lookupswitch 40 #[(5, 28), (6, 33)], 28) := by decide +kernel
theorem dX5_hold_32 : decode cX5_hold 32 = .ok (.aload_n 0, 1) := by decide +kernel
theorem dX5_hold_33 : decode cX5_hold 33 = .ok (.getfield 15, 3) := by decide +kernel
theorem dX5_hold_36 : decode cX5_hold 36 = .ok (.ireturn, 1) := by decide +kernel
theorem dX5_hold_37 : decode cX5_hold 37 = .ok (.aload_n 0, 1) := by decide +kernel
theorem dX5_hold_38 : decode cX5_hold 38 = .ok (.getfield 15, 3) := by decide +kernel
theorem dX5_hold_41 : decode cX5_hold 41 = .ok (.iconst 4, 1) := by decide +kernel
theorem dX5_hold_42 : decode cX5_hold 42 = .ok (.idiv, 1) := by decide +kernel
theorem dX5_hold_43 : decode cX5_hold 43 = .ok (.ireturn, 1) := by decide +kernel
theorem dX5_hold_44 : decode cX5_hold 44 = .ok (.iconst 0, 1) := by decide +kernel
theorem dX5_hold_45 : decode cX5_hold 45 = .ok (.ireturn, 1) := by decide +kernel
set_option maxRecDepth 100000 in
theorem c_X5_hold (l : Launch) (D : va_G) (cy : Nat → Nat) (n : Nat) (ad : Nat → Nat) (F : Nat → va_E) (sz : Nat) (k : Nat) (t : Tal) (hk : k < n) (hFk : F k = oTale t) : Met l yX5_hold (zw yX5_hold cX5_hold 1 (some .int)) (rmL 0) (zPc D cy n ad F sz [.ref (ad k)]) (va_Qi (fun r F1 => r = sHold t ∧ F = F1) (zB D n ad) (zA n ad sz)) 0 0 (zA n ad sz) := by
  refine zmet (by decide +kernel) (Nat.le_of_ble_eq_true rfl) (fun p e s m args below meth c ls hC hsz hZ hA hr hlocks hnm hl => ?_)
  have hC : zC p m c cX5_hold 1 s args RX5 D cy := hC
  have hx := hC.1.1
  have hb := hC.1.2.1
  have hl : lv_has ls 1 [(0, .ref (ad k))] := hl
  refine lv_aload_n hx hb dX5_hold_0 rfl (lv_at hl 0 rfl) ?_
  refine zget hC hZ fX5_9 hk hFk rfl dX5_hold_1 ?_
  by_cases c_4_5 : t.1 = 5
  · refine lv_lookup (off := 28) (tgt := 32) hx hb dX5_hold_4 (by decide) (by rw [c_4_5]; decide) (by decide) ?_
    refine lv_aload_n hx hb dX5_hold_32 rfl (lv_at hl 0 rfl) ?_
    refine zget hC hZ fX5_15 hk hFk rfl dX5_hold_33 ?_
    have hq_1 : t.2 = sHold t := by first | rfl | simp [sHold, c_4_5] | (simp only [sHold]; simp [c_4_5])
    exact zireti hC hZ hr hlocks ⟨hq_1, rfl⟩ dX5_hold_36
  · by_cases c_4_6 : t.1 = 6
    · refine lv_lookup (off := 33) (tgt := 37) hx hb dX5_hold_4 (by decide) (by rw [c_4_6]; decide) (by decide) ?_
      refine lv_aload_n hx hb dX5_hold_37 rfl (lv_at hl 0 rfl) ?_
      refine zget hC hZ fX5_15 hk hFk rfl dX5_hold_38 ?_
      refine lv_iconst (v := 4) hx hb dX5_hold_41 (by decide) ?_
      refine lv_idiv hx hb dX5_hold_42 (by decide) ?_
      have hq_2 : (t.2 / 4) = sHold t := by first | rfl | simp [sHold, c_4_5, c_4_6] | (simp only [sHold]; simp [c_4_5, c_4_6])
      exact zireti hC hZ hr hlocks ⟨hq_2, rfl⟩ dX5_hold_43
    · refine lv_lookup (off := 40) (tgt := 44) hx hb dX5_hold_4 (by decide) ((lv_osw (k := 5) c_4_5 rfl).trans ((lv_osw (k := 6) c_4_6 rfl).trans rfl)) (by decide) ?_
      refine lv_iconst (v := 0) hx hb dX5_hold_44 (by decide) ?_
      have hq_3 : (0 : Int32) = sHold t := by first | rfl | simp [sHold, c_4_5, c_4_6] | (simp only [sHold]; simp [c_4_5, c_4_6])
      exact zireti hC hZ hr hlocks ⟨hq_3, rfl⟩ dX5_hold_45

theorem mX5_less : zMd yX5_less cX5_less 2 (some .int) 1 := ⟨by decide +kernel, gt_of 401 (by decide +kernel) rfl, gt_of 50 (by decide +kernel) rfl, by decide⟩
theorem dX5_less_0 : decode cX5_less 0 = .ok (.bipush 100, 2) := by decide +kernel
theorem dX5_less_2 : decode cX5_less 2 = .ok (.aload_n 0, 1) := by decide +kernel
theorem dX5_less_3 : decode cX5_less 3 = .ok (.aload_n 1, 1) := by decide +kernel
theorem dX5_less_4 : decode cX5_less 4 = .ok (.invokevirtual 36, 3) := by decide +kernel
theorem kX5_36 : zLk RX5 36 yX5_kick := Or.inl (gt_of 402 (by decide +kernel) rfl)
theorem vX5_kick : zMi yX5_kick := ⟨gt_of 370 (by decide +kernel) rfl, gt_of 371 (by decide +kernel) rfl⟩
theorem dX5_less_7 : decode cX5_less 7 = .ok (.isub, 1) := by decide +kernel
theorem dX5_less_8 : decode cX5_less 8 = .ok (.aload_n 0, 1) := by decide +kernel
theorem dX5_less_9 : decode cX5_less 9 = .ok (.invokevirtual 39, 3) := by decide +kernel
theorem kX5_39 : zLk RX5 39 yX5_draw := Or.inl (gt_of 403 (by decide +kernel) rfl)
theorem vX5_draw : zMi yX5_draw := ⟨gt_of 382 (by decide +kernel) rfl, gt_of 383 (by decide +kernel) rfl⟩
theorem dX5_less_12 : decode cX5_less 12 = .ok (.isub, 1) := by decide +kernel
theorem dX5_less_13 : decode cX5_less 13 = .ok (.aload_n 0, 1) := by decide +kernel
theorem dX5_less_14 : decode cX5_less 14 = .ok (.invokevirtual 43, 3) := by decide +kernel
theorem kX5_43 : zLk RX5 43 yX5_hold := Or.inl (gt_of 404 (by decide +kernel) rfl)
theorem vX5_hold : zMi yX5_hold := ⟨gt_of 386 (by decide +kernel) rfl, gt_of 387 (by decide +kernel) rfl⟩
theorem dX5_less_17 : decode cX5_less 17 = .ok (.iadd, 1) := by decide +kernel
theorem dX5_less_18 : decode cX5_less 18 = .ok (.ireturn, 1) := by decide +kernel
set_option maxRecDepth 100000 in
theorem c_X5_less (l : Launch) (D : va_G) (cy : Nat → Nat) (n : Nat) (ad : Nat → Nat) (F : Nat → va_E) (sz : Nat) (k : Nat) (t : Tal) (hk : k < n) (hFk : F k = oTale t) (j : Nat) (b : Stg) (hj : j < n) (hFj : F j = oSetting b) : Met l yX5_less (zw yX5_less cX5_less 2 (some .int)) (rmL 2) (zPc D cy n ad F sz [.ref (ad k), .ref (ad j)]) (va_Qi (fun r F1 => r = sLess t b ∧ F = F1) (zB D n ad) (zA n ad sz)) 0 0 (zA n ad sz) := by
  refine zmet (by decide +kernel) (Nat.le_of_ble_eq_true rfl) (fun p e s m args below meth c ls hC hsz hZ hA hr hlocks hnm hl => ?_)
  have hC : zC p m c cX5_less 2 s args RX5 D cy := hC
  have hx := hC.1.1
  have hb := hC.1.2.1
  have hl : lv_has ls 2 [(0, .ref (ad k)), (1, .ref (ad j))] := hl
  refine lv_bipush (v := 100) hx hb dX5_less_0 (by decide) ?_
  refine lv_aload_n hx hb dX5_less_2 rfl (lv_at hl 0 rfl) ?_
  refine lv_aload_n hx hb dX5_less_3 rfl (lv_at hl 1 rfl) ?_
  refine zgoi hZ hA (zrunV (As := [.ref (ad j)]) (rest := [.int 100]) (k := k) hC hZ (c_X5_kick l D cy n ad F s.heap.size k t hk hFk j b hj hFj) mX5_kick vX5_kick kX5_36 (zRj_of rfl) hk hFk rfl rfl hl.1 rfl (Nat.le_of_ble_eq_true rfl) dX5_less_4 ⟨Nat.le_refl _, Nat.le_refl _⟩) (fun r_2 F_1 hp_3 H locs hZ => ?_)
  obtain ⟨rfl, rfl⟩ := hp_3
  refine lv_isub hx hb dX5_less_7 ?_
  refine lv_aload_n hx hb dX5_less_8 rfl (lv_at hl 0 rfl) ?_
  refine zgoi hZ hA (zrunV (As := []) (rest := [.int (100 - (sKick t b))]) (k := k) hC hZ (c_X5_draw l D cy n ad F H.size k t hk hFk) mX5_draw vX5_draw kX5_39 (zRj_of rfl) hk hFk rfl rfl hl.1 rfl (Nat.le_of_ble_eq_true rfl) dX5_less_9 ⟨Nat.le_refl _, Nat.le_refl _⟩) (fun r_5 F_4 hp_6 H locs hZ => ?_)
  obtain ⟨rfl, rfl⟩ := hp_6
  refine lv_isub hx hb dX5_less_12 ?_
  refine lv_aload_n hx hb dX5_less_13 rfl (lv_at hl 0 rfl) ?_
  refine zgoi hZ hA (zrunV (As := []) (rest := [.int ((100 - (sKick t b)) - (sDraw t))]) (k := k) hC hZ (c_X5_hold l D cy n ad F H.size k t hk hFk) mX5_hold vX5_hold kX5_43 (zRj_of rfl) hk hFk rfl rfl hl.1 rfl (Nat.le_of_ble_eq_true rfl) dX5_less_14 ⟨Nat.le_refl _, Nat.le_refl _⟩) (fun r_8 F_7 hp_9 H locs hZ => ?_)
  obtain ⟨rfl, rfl⟩ := hp_9
  refine lv_iadd hx hb dX5_less_17 ?_
  have hq_10 : (((100 - (sKick t b)) - (sDraw t)) + (sHold t)) = sLess t b := by first | rfl | simp [sLess] | (simp only [sLess]; simp [])
  exact zireti hC hZ hr hlocks ⟨hq_10, rfl⟩ dX5_less_18

theorem mX5_archAt : zMd yX5_archAt cX5_archAt 4 (some .int) 2 := ⟨by decide +kernel, gt_of 448 (by decide +kernel) rfl, gt_of 50 (by decide +kernel) rfl, by decide⟩
theorem dX5_archAt_0 : decode cX5_archAt 0 = .ok (.aload_n 0, 1) := by decide +kernel
theorem dX5_archAt_1 : decode cX5_archAt 1 = .ok (.aload_n 1, 1) := by decide +kernel
theorem dX5_archAt_2 : decode cX5_archAt 2 = .ok (.invokevirtual 46, 3) := by decide +kernel
theorem kX5_46 : zLk RX5 46 yX5_less := Or.inl (gt_of 449 (by decide +kernel) rfl)
theorem vX5_less : zMi yX5_less := ⟨gt_of 399 (by decide +kernel) rfl, gt_of 400 (by decide +kernel) rfl⟩
theorem dX5_archAt_5 : decode cX5_archAt 5 = .ok (.istore_n 3, 1) := by decide +kernel
theorem dX5_archAt_6 : decode cX5_archAt 6 = .ok (.iload_n 3, 1) := by decide +kernel
theorem dX5_archAt_7 : decode cX5_archAt 7 = .ok (.ifCond .gt 6, 3) := by decide +kernel
theorem dX5_archAt_13 : decode cX5_archAt 13 = .ok (.aload_n 0, 1) := by decide +kernel
theorem dX5_archAt_14 : decode cX5_archAt 14 = .ok (.aload_n 1, 1) := by decide +kernel
theorem dX5_archAt_15 : decode cX5_archAt 15 = .ok (.invokevirtual 36, 3) := by decide +kernel
theorem dX5_archAt_18 : decode cX5_archAt 18 = .ok (.aload_n 1, 1) := by decide +kernel
theorem dX5_archAt_19 : decode cX5_archAt 19 = .ok (.getfield 49, 3) := by decide +kernel
theorem fX5_49 : zFld RX5 49 3 3 := ⟨RX3, TX3, 4, rfl, inX3, by decide, rfl, Or.inr ⟨"ChainLeap", List.mem_of_getElem? (i := 96) (by decide +kernel)⟩⟩
theorem dX5_archAt_22 : decode cX5_archAt 22 = .ok (.imul, 1) := by decide +kernel
theorem dX5_archAt_23 : decode cX5_archAt 23 = .ok (.bipush 100, 2) := by decide +kernel
theorem dX5_archAt_25 : decode cX5_archAt 25 = .ok (.iload_n 2, 1) := by decide +kernel
theorem dX5_archAt_26 : decode cX5_archAt 26 = .ok (.isub, 1) := by decide +kernel
theorem dX5_archAt_27 : decode cX5_archAt 27 = .ok (.imul, 1) := by decide +kernel
theorem dX5_archAt_28 : decode cX5_archAt 28 = .ok (.iload_n 3, 1) := by decide +kernel
theorem dX5_archAt_29 : decode cX5_archAt 29 = .ok (.bipush 100, 2) := by decide +kernel
theorem dX5_archAt_31 : decode cX5_archAt 31 = .ok (.imul, 1) := by decide +kernel
theorem dX5_archAt_32 : decode cX5_archAt 32 = .ok (.idiv, 1) := by decide +kernel
theorem dX5_archAt_33 : decode cX5_archAt 33 = .ok (.ireturn, 1) := by decide +kernel
theorem dX5_archAt_10 : decode cX5_archAt 10 = .ok (.bipush (-4), 2) := by decide +kernel
theorem dX5_archAt_12 : decode cX5_archAt 12 = .ok (.ireturn, 1) := by decide +kernel
set_option maxRecDepth 100000 in
theorem c_X5_archAt (l : Launch) (D : va_G) (cy : Nat → Nat) (n : Nat) (ad : Nat → Nat) (F : Nat → va_E) (sz : Nat) (k : Nat) (t : Tal) (hk : k < n) (hFk : F k = oTale t) (j : Nat) (b : Stg) (hj : j < n) (hFj : F j = oSetting b) (sl : Int32) (gt : gT t) (gs : gS b) : Met l yX5_archAt (zw yX5_archAt cX5_archAt 4 (some .int)) (rmL 3) (zPc D cy n ad F sz [.ref (ad k), .ref (ad j), .int sl]) (va_Qi (fun r F1 => r = sArchAt t b sl ∧ F = F1) (zB D n ad) (zA n ad sz)) 0 0 (zA n ad sz) := by
  refine zmet (by decide +kernel) (Nat.le_of_ble_eq_true rfl) (fun p e s m args below meth c ls hC hsz hZ hA hr hlocks hnm hl => ?_)
  have hC : zC p m c cX5_archAt 4 s args RX5 D cy := hC
  have hx := hC.1.1
  have hb := hC.1.2.1
  have hl : lv_has ls 4 [(0, .ref (ad k)), (1, .ref (ad j)), (2, .int sl)] := hl
  refine lv_aload_n hx hb dX5_archAt_0 rfl (lv_at hl 0 rfl) ?_
  refine lv_aload_n hx hb dX5_archAt_1 rfl (lv_at hl 1 rfl) ?_
  refine zgoi hZ hA (zrunV (As := [.ref (ad j)]) (rest := []) (k := k) hC hZ (c_X5_less l D cy n ad F s.heap.size k t hk hFk j b hj hFj) mX5_less vX5_less kX5_46 (zRj_of rfl) hk hFk rfl rfl hl.1 rfl (Nat.le_of_ble_eq_true rfl) dX5_archAt_2 ⟨Nat.le_refl _, Nat.le_refl _⟩) (fun r_2 F_1 hp_3 H locs hZ => ?_)
  obtain ⟨rfl, rfl⟩ := hp_3
  refine lv_istore_n (lv' := [(3, .int (sLess t b)), (0, .ref (ad k)), (1, .ref (ad j)), (2, .int sl)]) hx hb dX5_archAt_5 rfl hl (by decide) rfl (fun ls hl => ?_)
  refine lv_iload_n hx hb dX5_archAt_6 rfl (lv_at hl 0 rfl) ?_
  refine lv_if_gt (tgt := 13) hx hb dX5_archAt_7 (by decide) (fun c_7 => ?_) (fun c_7 => ?_)
  · refine lv_aload_n hx hb dX5_archAt_13 rfl (lv_at hl 1 rfl) ?_
    refine lv_aload_n hx hb dX5_archAt_14 rfl (lv_at hl 2 rfl) ?_
    refine zgoi hZ hA (zrunV (As := [.ref (ad j)]) (rest := []) (k := k) hC hZ (c_X5_kick l D cy n ad F H.size k t hk hFk j b hj hFj) mX5_kick vX5_kick kX5_36 (zRj_of rfl) hk hFk rfl rfl hl.1 rfl (Nat.le_of_ble_eq_true rfl) dX5_archAt_15 ⟨Nat.le_refl _, Nat.le_refl _⟩) (fun r_5 F_4 hp_6 H locs hZ => ?_)
    obtain ⟨rfl, rfl⟩ := hp_6
    refine lv_aload_n hx hb dX5_archAt_18 rfl (lv_at hl 2 rfl) ?_
    refine zget hC hZ fX5_49 hj hFj rfl dX5_archAt_19 ?_
    refine lv_imul hx hb dX5_archAt_22 ?_
    refine lv_bipush (v := 100) hx hb dX5_archAt_23 (by decide) ?_
    refine lv_iload_n hx hb dX5_archAt_25 rfl (lv_at hl 3 rfl) ?_
    refine lv_isub hx hb dX5_archAt_26 ?_
    refine lv_imul hx hb dX5_archAt_27 ?_
    refine lv_iload_n hx hb dX5_archAt_28 rfl (lv_at hl 0 rfl) ?_
    refine lv_bipush (v := 100) hx hb dX5_archAt_29 (by decide) ?_
    refine lv_imul hx hb dX5_archAt_31 ?_
    refine lv_idiv hx hb dX5_archAt_32 (sLess_ne gt gs) ?_
    have hq_7 : ((((sKick t b) * b.2.2.2) * (100 - sl)) / ((sLess t b) * 100)) = sArchAt t b sl := by unfold sArchAt; rw [if_neg]; exact (fun h => Int32.not_le.mpr c_7 h)
    exact zireti hC hZ hr hlocks ⟨hq_7, rfl⟩ dX5_archAt_33
  · refine lv_bipush (v := (-4)) hx hb dX5_archAt_10 (by decide) ?_
    have hq_8 : (-4 : Int32) = sArchAt t b sl := by unfold sArchAt; rw [if_pos]; exact (Int32.not_lt.mp c_7)
    exact zireti hC hZ hr hlocks ⟨hq_8, rfl⟩ dX5_archAt_12

theorem mX5_arch : zMd yX5_arch cX5_arch 2 (some .int) 1 := ⟨by decide +kernel, gt_of 444 (by decide +kernel) rfl, gt_of 50 (by decide +kernel) rfl, by decide⟩
theorem dX5_arch_0 : decode cX5_arch 0 = .ok (.aload_n 0, 1) := by decide +kernel
theorem dX5_arch_1 : decode cX5_arch 1 = .ok (.aload_n 1, 1) := by decide +kernel
theorem dX5_arch_2 : decode cX5_arch 2 = .ok (.iconst 0, 1) := by decide +kernel
theorem dX5_arch_3 : decode cX5_arch 3 = .ok (.invokevirtual 52, 3) := by decide +kernel
theorem kX5_52 : zLk RX5 52 yX5_archAt := Or.inl (gt_of 445 (by decide +kernel) rfl)
theorem vX5_archAt : zMi yX5_archAt := ⟨gt_of 446 (by decide +kernel) rfl, gt_of 447 (by decide +kernel) rfl⟩
theorem dX5_arch_6 : decode cX5_arch 6 = .ok (.ireturn, 1) := by decide +kernel
set_option maxRecDepth 100000 in
theorem c_X5_arch (l : Launch) (D : va_G) (cy : Nat → Nat) (n : Nat) (ad : Nat → Nat) (F : Nat → va_E) (sz : Nat) (k : Nat) (t : Tal) (hk : k < n) (hFk : F k = oTale t) (j : Nat) (b : Stg) (hj : j < n) (hFj : F j = oSetting b) (gt : gT t) (gs : gS b) : Met l yX5_arch (zw yX5_arch cX5_arch 2 (some .int)) (rmL 4) (zPc D cy n ad F sz [.ref (ad k), .ref (ad j)]) (va_Qi (fun r F1 => r = sArchAt t b 0 ∧ F = F1) (zB D n ad) (zA n ad sz)) 0 0 (zA n ad sz) := by
  refine zmet (by decide +kernel) (Nat.le_of_ble_eq_true rfl) (fun p e s m args below meth c ls hC hsz hZ hA hr hlocks hnm hl => ?_)
  have hC : zC p m c cX5_arch 2 s args RX5 D cy := hC
  have hx := hC.1.1
  have hb := hC.1.2.1
  have hl : lv_has ls 2 [(0, .ref (ad k)), (1, .ref (ad j))] := hl
  refine lv_aload_n hx hb dX5_arch_0 rfl (lv_at hl 0 rfl) ?_
  refine lv_aload_n hx hb dX5_arch_1 rfl (lv_at hl 1 rfl) ?_
  refine lv_iconst (v := 0) hx hb dX5_arch_2 (by decide) ?_
  refine zgoi hZ hA (zrunV (As := [.ref (ad j), .int 0]) (rest := []) (k := k) hC hZ (c_X5_archAt l D cy n ad F s.heap.size k t hk hFk j b hj hFj 0 gt gs) mX5_archAt vX5_archAt kX5_52 (zRj_of rfl) hk hFk rfl rfl hl.1 rfl (Nat.le_of_ble_eq_true rfl) dX5_arch_3 ⟨Nat.le_refl _, Nat.le_refl _⟩) (fun r_2 F_1 hp_3 H locs hZ => ?_)
  obtain ⟨rfl, rfl⟩ := hp_3
  have hq_4 : (sArchAt t b 0) = sArchAt t b 0 := by rfl
  exact zireti hC hZ hr hlocks ⟨hq_4, rfl⟩ dX5_arch_6

theorem mX5_waitOfKicked : zMd yX5_waitOfKicked cX5_waitOfKicked 1 (some .int) 0 := ⟨by decide +kernel, gt_of 616 (by decide +kernel) rfl, gt_of 50 (by decide +kernel) rfl, by decide⟩
theorem dX5_waitOfKicked_0 : decode cX5_waitOfKicked 0 = .ok (.iconst 4, 1) := by decide +kernel
theorem dX5_waitOfKicked_1 : decode cX5_waitOfKicked 1 = .ok (.aload_n 0, 1) := by decide +kernel
theorem dX5_waitOfKicked_2 : decode cX5_waitOfKicked 2 = .ok (.getfield 15, 3) := by decide +kernel
theorem dX5_waitOfKicked_5 : decode cX5_waitOfKicked 5 = .ok (.iadd, 1) := by decide +kernel
theorem dX5_waitOfKicked_6 : decode cX5_waitOfKicked 6 = .ok (.ireturn, 1) := by decide +kernel
set_option maxRecDepth 100000 in
theorem c_X5_waitOfKicked (l : Launch) (D : va_G) (cy : Nat → Nat) (n : Nat) (ad : Nat → Nat) (F : Nat → va_E) (sz : Nat) (k : Nat) (t : Tal) (hk : k < n) (hFk : F k = oTale t) : Met l yX5_waitOfKicked (zw yX5_waitOfKicked cX5_waitOfKicked 1 (some .int)) (rmL 0) (zPc D cy n ad F sz [.ref (ad k)]) (va_Qi (fun r F1 => r = sWK t ∧ F = F1) (zB D n ad) (zA n ad sz)) 0 0 (zA n ad sz) := by
  refine zmet (by decide +kernel) (Nat.le_of_ble_eq_true rfl) (fun p e s m args below meth c ls hC hsz hZ hA hr hlocks hnm hl => ?_)
  have hC : zC p m c cX5_waitOfKicked 1 s args RX5 D cy := hC
  have hx := hC.1.1
  have hb := hC.1.2.1
  have hl : lv_has ls 1 [(0, .ref (ad k))] := hl
  refine lv_iconst (v := 4) hx hb dX5_waitOfKicked_0 (by decide) ?_
  refine lv_aload_n hx hb dX5_waitOfKicked_1 rfl (lv_at hl 0 rfl) ?_
  refine zget hC hZ fX5_15 hk hFk rfl dX5_waitOfKicked_2 ?_
  refine lv_iadd hx hb dX5_waitOfKicked_5 ?_
  have hq_1 : (4 + t.2) = sWK t := by rfl
  exact zireti hC hZ hr hlocks ⟨hq_1, rfl⟩ dX5_waitOfKicked_6

theorem mX5_waitOfThrown : zMd yX5_waitOfThrown cX5_waitOfThrown 1 (some .int) 0 := ⟨by decide +kernel, gt_of 620 (by decide +kernel) rfl, gt_of 50 (by decide +kernel) rfl, by decide⟩
theorem dX5_waitOfThrown_0 : decode cX5_waitOfThrown 0 = .ok (.iconst 4, 1) := by decide +kernel
theorem dX5_waitOfThrown_1 : decode cX5_waitOfThrown 1 = .ok (.aload_n 0, 1) := by decide +kernel
theorem dX5_waitOfThrown_2 : decode cX5_waitOfThrown 2 = .ok (.getfield 15, 3) := by decide +kernel
theorem dX5_waitOfThrown_5 : decode cX5_waitOfThrown 5 = .ok (.isub, 1) := by decide +kernel
theorem dX5_waitOfThrown_6 : decode cX5_waitOfThrown 6 = .ok (.ireturn, 1) := by decide +kernel
set_option maxRecDepth 100000 in
theorem c_X5_waitOfThrown (l : Launch) (D : va_G) (cy : Nat → Nat) (n : Nat) (ad : Nat → Nat) (F : Nat → va_E) (sz : Nat) (k : Nat) (t : Tal) (hk : k < n) (hFk : F k = oTale t) : Met l yX5_waitOfThrown (zw yX5_waitOfThrown cX5_waitOfThrown 1 (some .int)) (rmL 0) (zPc D cy n ad F sz [.ref (ad k)]) (va_Qi (fun r F1 => r = sWT t ∧ F = F1) (zB D n ad) (zA n ad sz)) 0 0 (zA n ad sz) := by
  refine zmet (by decide +kernel) (Nat.le_of_ble_eq_true rfl) (fun p e s m args below meth c ls hC hsz hZ hA hr hlocks hnm hl => ?_)
  have hC : zC p m c cX5_waitOfThrown 1 s args RX5 D cy := hC
  have hx := hC.1.1
  have hb := hC.1.2.1
  have hl : lv_has ls 1 [(0, .ref (ad k))] := hl
  refine lv_iconst (v := 4) hx hb dX5_waitOfThrown_0 (by decide) ?_
  refine lv_aload_n hx hb dX5_waitOfThrown_1 rfl (lv_at hl 0 rfl) ?_
  refine zget hC hZ fX5_15 hk hFk rfl dX5_waitOfThrown_2 ?_
  refine lv_isub hx hb dX5_waitOfThrown_5 ?_
  have hq_1 : (4 - t.2) = sWT t := by rfl
  exact zireti hC hZ hr hlocks ⟨hq_1, rfl⟩ dX5_waitOfThrown_6

theorem mX5_waiting : zMd yX5_waiting cX5_waiting 1 (some .int) 0 := ⟨by decide +kernel, gt_of 612 (by decide +kernel) rfl, gt_of 50 (by decide +kernel) rfl, by decide⟩
theorem dX5_waiting_0 : decode cX5_waiting 0 = .ok (.aload_n 0, 1) := by decide +kernel
theorem dX5_waiting_1 : decode cX5_waiting 1 = .ok (.getfield 9, 3) := by decide +kernel
theorem dX5_waiting_4 : decode cX5_waiting 4 = .ok (.tableswitch 90 1 7 #[44, 49, 56, 61, 69, 76, 83], 44) := by decide +kernel
theorem dX5_waiting_48 : decode cX5_waiting 48 = .ok (.aload_n 0, 1) := by decide +kernel
theorem dX5_waiting_49 : decode cX5_waiting 49 = .ok (.invokevirtual 56, 3) := by decide +kernel
theorem kX5_56 : zLk RX5 56 yX5_waitOfKicked := Or.inl (gt_of 613 (by decide +kernel) rfl)
theorem vX5_waitOfKicked : zMi yX5_waitOfKicked := ⟨gt_of 615 (by decide +kernel) rfl, gt_of 16 (by decide +kernel) rfl⟩
theorem dX5_waiting_52 : decode cX5_waiting 52 = .ok (.ireturn, 1) := by decide +kernel
theorem dX5_waiting_53 : decode cX5_waiting 53 = .ok (.iconst 2, 1) := by decide +kernel
theorem dX5_waiting_54 : decode cX5_waiting 54 = .ok (.aload_n 0, 1) := by decide +kernel
theorem dX5_waiting_55 : decode cX5_waiting 55 = .ok (.invokevirtual 56, 3) := by decide +kernel
theorem dX5_waiting_58 : decode cX5_waiting 58 = .ok (.imul, 1) := by decide +kernel
theorem dX5_waiting_59 : decode cX5_waiting 59 = .ok (.ireturn, 1) := by decide +kernel
theorem dX5_waiting_60 : decode cX5_waiting 60 = .ok (.aload_n 0, 1) := by decide +kernel
theorem dX5_waiting_61 : decode cX5_waiting 61 = .ok (.invokevirtual 59, 3) := by decide +kernel
theorem kX5_59 : zLk RX5 59 yX5_waitOfThrown := Or.inl (gt_of 617 (by decide +kernel) rfl)
theorem vX5_waitOfThrown : zMi yX5_waitOfThrown := ⟨gt_of 619 (by decide +kernel) rfl, gt_of 17 (by decide +kernel) rfl⟩
theorem dX5_waiting_64 : decode cX5_waiting 64 = .ok (.ireturn, 1) := by decide +kernel
theorem dX5_waiting_65 : decode cX5_waiting 65 = .ok (.aload_n 0, 1) := by decide +kernel
theorem dX5_waiting_66 : decode cX5_waiting 66 = .ok (.invokevirtual 56, 3) := by decide +kernel
theorem dX5_waiting_69 : decode cX5_waiting 69 = .ok (.bipush 9, 2) := by decide +kernel
theorem dX5_waiting_71 : decode cX5_waiting 71 = .ok (.iadd, 1) := by decide +kernel
theorem dX5_waiting_72 : decode cX5_waiting 72 = .ok (.ireturn, 1) := by decide +kernel
theorem dX5_waiting_73 : decode cX5_waiting 73 = .ok (.iconst 4, 1) := by decide +kernel
theorem dX5_waiting_74 : decode cX5_waiting 74 = .ok (.aload_n 0, 1) := by decide +kernel
theorem dX5_waiting_75 : decode cX5_waiting 75 = .ok (.getfield 15, 3) := by decide +kernel
theorem dX5_waiting_78 : decode cX5_waiting 78 = .ok (.imul, 1) := by decide +kernel
theorem dX5_waiting_79 : decode cX5_waiting 79 = .ok (.ireturn, 1) := by decide +kernel
theorem dX5_waiting_80 : decode cX5_waiting 80 = .ok (.aload_n 0, 1) := by decide +kernel
theorem dX5_waiting_81 : decode cX5_waiting 81 = .ok (.invokevirtual 56, 3) := by decide +kernel
theorem dX5_waiting_84 : decode cX5_waiting 84 = .ok (.iconst 2, 1) := by decide +kernel
theorem dX5_waiting_85 : decode cX5_waiting 85 = .ok (.idiv, 1) := by decide +kernel
theorem dX5_waiting_86 : decode cX5_waiting 86 = .ok (.ireturn, 1) := by decide +kernel
theorem dX5_waiting_87 : decode cX5_waiting 87 = .ok (.aload_n 0, 1) := by decide +kernel
theorem dX5_waiting_88 : decode cX5_waiting 88 = .ok (.invokevirtual 59, 3) := by decide +kernel
theorem dX5_waiting_91 : decode cX5_waiting 91 = .ok (.iconst 1, 1) := by decide +kernel
theorem dX5_waiting_92 : decode cX5_waiting 92 = .ok (.iadd, 1) := by decide +kernel
theorem dX5_waiting_93 : decode cX5_waiting 93 = .ok (.ireturn, 1) := by decide +kernel
theorem dX5_waiting_94 : decode cX5_waiting 94 = .ok (.iconst 4, 1) := by decide +kernel
theorem dX5_waiting_95 : decode cX5_waiting 95 = .ok (.ireturn, 1) := by decide +kernel
set_option maxRecDepth 100000 in
theorem c_X5_waiting (l : Launch) (D : va_G) (cy : Nat → Nat) (n : Nat) (ad : Nat → Nat) (F : Nat → va_E) (sz : Nat) (k : Nat) (t : Tal) (hk : k < n) (hFk : F k = oTale t) : Met l yX5_waiting (zw yX5_waiting cX5_waiting 1 (some .int)) (rmL 1) (zPc D cy n ad F sz [.ref (ad k)]) (va_Qi (fun r F1 => r = sWait t ∧ F = F1) (zB D n ad) (zA n ad sz)) 0 0 (zA n ad sz) := by
  refine zmet (by decide +kernel) (Nat.le_of_ble_eq_true rfl) (fun p e s m args below meth c ls hC hsz hZ hA hr hlocks hnm hl => ?_)
  have hC : zC p m c cX5_waiting 1 s args RX5 D cy := hC
  have hx := hC.1.1
  have hb := hC.1.2.1
  have hl : lv_has ls 1 [(0, .ref (ad k))] := hl
  refine lv_aload_n hx hb dX5_waiting_0 rfl (lv_at hl 0 rfl) ?_
  refine zget hC hZ fX5_9 hk hFk rfl dX5_waiting_1 ?_
  by_cases c_4_1 : t.1 = 1
  · refine lv_tableIn (off := 44) (tgt := 48) hx hb dX5_waiting_4 (by rw [c_4_1]; decide) (by rw [c_4_1]; decide) (by rw [c_4_1]; rfl) (by decide) ?_
    refine lv_aload_n hx hb dX5_waiting_48 rfl (lv_at hl 0 rfl) ?_
    refine zgoi hZ hA (zrunV (As := []) (rest := []) (k := k) hC hZ (c_X5_waitOfKicked l D cy n ad F s.heap.size k t hk hFk) mX5_waitOfKicked vX5_waitOfKicked kX5_56 (zRj_of rfl) hk hFk rfl rfl hl.1 rfl (Nat.le_of_ble_eq_true rfl) dX5_waiting_49 ⟨Nat.le_refl _, Nat.le_refl _⟩) (fun r_2 F_1 hp_3 H locs hZ => ?_)
    obtain ⟨rfl, rfl⟩ := hp_3
    have hq_4 : (sWK t) = sWait t := by first | rfl | simp [sWait, c_4_1] | (simp only [sWait]; simp [c_4_1])
    exact zireti hC hZ hr hlocks ⟨hq_4, rfl⟩ dX5_waiting_52
  · by_cases c_4_2 : t.1 = 2
    · refine lv_tableIn (off := 49) (tgt := 53) hx hb dX5_waiting_4 (by rw [c_4_2]; decide) (by rw [c_4_2]; decide) (by rw [c_4_2]; rfl) (by decide) ?_
      refine lv_iconst (v := 2) hx hb dX5_waiting_53 (by decide) ?_
      refine lv_aload_n hx hb dX5_waiting_54 rfl (lv_at hl 0 rfl) ?_
      refine zgoi hZ hA (zrunV (As := []) (rest := [.int 2]) (k := k) hC hZ (c_X5_waitOfKicked l D cy n ad F s.heap.size k t hk hFk) mX5_waitOfKicked vX5_waitOfKicked kX5_56 (zRj_of rfl) hk hFk rfl rfl hl.1 rfl (Nat.le_of_ble_eq_true rfl) dX5_waiting_55 ⟨Nat.le_refl _, Nat.le_refl _⟩) (fun r_6 F_5 hp_7 H locs hZ => ?_)
      obtain ⟨rfl, rfl⟩ := hp_7
      refine lv_imul hx hb dX5_waiting_58 ?_
      have hq_8 : (2 * (sWK t)) = sWait t := by first | rfl | simp [sWait, c_4_1, c_4_2] | (simp only [sWait]; simp [c_4_1, c_4_2])
      exact zireti hC hZ hr hlocks ⟨hq_8, rfl⟩ dX5_waiting_59
    · by_cases c_4_3 : t.1 = 3
      · refine lv_tableIn (off := 56) (tgt := 60) hx hb dX5_waiting_4 (by rw [c_4_3]; decide) (by rw [c_4_3]; decide) (by rw [c_4_3]; rfl) (by decide) ?_
        refine lv_aload_n hx hb dX5_waiting_60 rfl (lv_at hl 0 rfl) ?_
        refine zgoi hZ hA (zrunV (As := []) (rest := []) (k := k) hC hZ (c_X5_waitOfThrown l D cy n ad F s.heap.size k t hk hFk) mX5_waitOfThrown vX5_waitOfThrown kX5_59 (zRj_of rfl) hk hFk rfl rfl hl.1 rfl (Nat.le_of_ble_eq_true rfl) dX5_waiting_61 ⟨Nat.le_refl _, Nat.le_refl _⟩) (fun r_10 F_9 hp_11 H locs hZ => ?_)
        obtain ⟨rfl, rfl⟩ := hp_11
        have hq_12 : (sWT t) = sWait t := by first | rfl | simp [sWait, c_4_1, c_4_2, c_4_3] | (simp only [sWait]; simp [c_4_1, c_4_2, c_4_3])
        exact zireti hC hZ hr hlocks ⟨hq_12, rfl⟩ dX5_waiting_64
      · by_cases c_4_4 : t.1 = 4
        · refine lv_tableIn (off := 61) (tgt := 65) hx hb dX5_waiting_4 (by rw [c_4_4]; decide) (by rw [c_4_4]; decide) (by rw [c_4_4]; rfl) (by decide) ?_
          refine lv_aload_n hx hb dX5_waiting_65 rfl (lv_at hl 0 rfl) ?_
          refine zgoi hZ hA (zrunV (As := []) (rest := []) (k := k) hC hZ (c_X5_waitOfKicked l D cy n ad F s.heap.size k t hk hFk) mX5_waitOfKicked vX5_waitOfKicked kX5_56 (zRj_of rfl) hk hFk rfl rfl hl.1 rfl (Nat.le_of_ble_eq_true rfl) dX5_waiting_66 ⟨Nat.le_refl _, Nat.le_refl _⟩) (fun r_14 F_13 hp_15 H locs hZ => ?_)
          obtain ⟨rfl, rfl⟩ := hp_15
          refine lv_bipush (v := 9) hx hb dX5_waiting_69 (by decide) ?_
          refine lv_iadd hx hb dX5_waiting_71 ?_
          have hq_16 : ((sWK t) + 9) = sWait t := by first | rfl | simp [sWait, c_4_1, c_4_2, c_4_3, c_4_4] | (simp only [sWait]; simp [c_4_1, c_4_2, c_4_3, c_4_4])
          exact zireti hC hZ hr hlocks ⟨hq_16, rfl⟩ dX5_waiting_72
        · by_cases c_4_5 : t.1 = 5
          · refine lv_tableIn (off := 69) (tgt := 73) hx hb dX5_waiting_4 (by rw [c_4_5]; decide) (by rw [c_4_5]; decide) (by rw [c_4_5]; rfl) (by decide) ?_
            refine lv_iconst (v := 4) hx hb dX5_waiting_73 (by decide) ?_
            refine lv_aload_n hx hb dX5_waiting_74 rfl (lv_at hl 0 rfl) ?_
            refine zget hC hZ fX5_15 hk hFk rfl dX5_waiting_75 ?_
            refine lv_imul hx hb dX5_waiting_78 ?_
            have hq_17 : (4 * t.2) = sWait t := by first | rfl | simp [sWait, c_4_1, c_4_2, c_4_3, c_4_4, c_4_5] | (simp only [sWait]; simp [c_4_1, c_4_2, c_4_3, c_4_4, c_4_5])
            exact zireti hC hZ hr hlocks ⟨hq_17, rfl⟩ dX5_waiting_79
          · by_cases c_4_6 : t.1 = 6
            · refine lv_tableIn (off := 76) (tgt := 80) hx hb dX5_waiting_4 (by rw [c_4_6]; decide) (by rw [c_4_6]; decide) (by rw [c_4_6]; rfl) (by decide) ?_
              refine lv_aload_n hx hb dX5_waiting_80 rfl (lv_at hl 0 rfl) ?_
              refine zgoi hZ hA (zrunV (As := []) (rest := []) (k := k) hC hZ (c_X5_waitOfKicked l D cy n ad F s.heap.size k t hk hFk) mX5_waitOfKicked vX5_waitOfKicked kX5_56 (zRj_of rfl) hk hFk rfl rfl hl.1 rfl (Nat.le_of_ble_eq_true rfl) dX5_waiting_81 ⟨Nat.le_refl _, Nat.le_refl _⟩) (fun r_19 F_18 hp_20 H locs hZ => ?_)
              obtain ⟨rfl, rfl⟩ := hp_20
              refine lv_iconst (v := 2) hx hb dX5_waiting_84 (by decide) ?_
              refine lv_idiv hx hb dX5_waiting_85 (by decide) ?_
              have hq_21 : ((sWK t) / 2) = sWait t := by first | rfl | simp [sWait, c_4_1, c_4_2, c_4_3, c_4_4, c_4_5, c_4_6] | (simp only [sWait]; simp [c_4_1, c_4_2, c_4_3, c_4_4, c_4_5, c_4_6])
              exact zireti hC hZ hr hlocks ⟨hq_21, rfl⟩ dX5_waiting_86
            · by_cases c_4_7 : t.1 = 7
              · refine lv_tableIn (off := 83) (tgt := 87) hx hb dX5_waiting_4 (by rw [c_4_7]; decide) (by rw [c_4_7]; decide) (by rw [c_4_7]; rfl) (by decide) ?_
                refine lv_aload_n hx hb dX5_waiting_87 rfl (lv_at hl 0 rfl) ?_
                refine zgoi hZ hA (zrunV (As := []) (rest := []) (k := k) hC hZ (c_X5_waitOfThrown l D cy n ad F s.heap.size k t hk hFk) mX5_waitOfThrown vX5_waitOfThrown kX5_59 (zRj_of rfl) hk hFk rfl rfl hl.1 rfl (Nat.le_of_ble_eq_true rfl) dX5_waiting_88 ⟨Nat.le_refl _, Nat.le_refl _⟩) (fun r_23 F_22 hp_24 H locs hZ => ?_)
                obtain ⟨rfl, rfl⟩ := hp_24
                refine lv_iconst (v := 1) hx hb dX5_waiting_91 (by decide) ?_
                refine lv_iadd hx hb dX5_waiting_92 ?_
                have hq_25 : ((sWT t) + 1) = sWait t := by first | rfl | simp [sWait, c_4_1, c_4_2, c_4_3, c_4_4, c_4_5, c_4_6, c_4_7] | (simp only [sWait]; simp [c_4_1, c_4_2, c_4_3, c_4_4, c_4_5, c_4_6, c_4_7])
                exact zireti hC hZ hr hlocks ⟨hq_25, rfl⟩ dX5_waiting_93
              · refine lv_tableOut (tgt := 94) hx hb dX5_waiting_4 (by have e0 : ¬ t.1.toInt = 1 := lv_neT (k := 1) c_4_1 rfl; have e1 : ¬ t.1.toInt = 2 := lv_neT (k := 2) c_4_2 rfl; have e2 : ¬ t.1.toInt = 3 := lv_neT (k := 3) c_4_3 rfl; have e3 : ¬ t.1.toInt = 4 := lv_neT (k := 4) c_4_4 rfl; have e4 : ¬ t.1.toInt = 5 := lv_neT (k := 5) c_4_5 rfl; have e5 : ¬ t.1.toInt = 6 := lv_neT (k := 6) c_4_6 rfl; have e6 : ¬ t.1.toInt = 7 := lv_neT (k := 7) c_4_7 rfl; omega) (by decide) ?_
                refine lv_iconst (v := 4) hx hb dX5_waiting_94 (by decide) ?_
                have hq_26 : (4 : Int32) = sWait t := by first | rfl | simp [sWait, c_4_1, c_4_2, c_4_3, c_4_4, c_4_5, c_4_6, c_4_7] | (simp only [sWait]; simp [c_4_1, c_4_2, c_4_3, c_4_4, c_4_5, c_4_6, c_4_7])
                exact zireti hC hZ hr hlocks ⟨hq_26, rfl⟩ dX5_waiting_95
