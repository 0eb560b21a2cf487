theorem mX6_unlikeness : zMd yX6_unlikeness cX6_unlikeness 5 (some .int) 3 := ⟨by decide +kernel, gt_of 460 (by decide +kernel) rfl, gt_of 45 (by decide +kernel) rfl, by decide⟩
theorem dX6_unlikeness_0 : decode cX6_unlikeness 0 = .ok (.aload_n 0, 1) := by decide +kernel
theorem dX6_unlikeness_1 : decode cX6_unlikeness 1 = .ok (.aload_n 2, 1) := by decide +kernel
theorem dX6_unlikeness_2 : decode cX6_unlikeness 2 = .ok (.invokevirtual 202, 3) := by decide +kernel
theorem dX6_unlikeness_5 : decode cX6_unlikeness 5 = .ok (.istore_n 3, 1) := by decide +kernel
theorem dX6_unlikeness_6 : decode cX6_unlikeness 6 = .ok (.aload_n 1, 1) := by decide +kernel
theorem dX6_unlikeness_7 : decode cX6_unlikeness 7 = .ok (.aload_n 2, 1) := by decide +kernel
theorem dX6_unlikeness_8 : decode cX6_unlikeness 8 = .ok (.invokevirtual 202, 3) := by decide +kernel
theorem dX6_unlikeness_11 : decode cX6_unlikeness 11 = .ok (.istore 4, 2) := by decide +kernel
theorem dX6_unlikeness_13 : decode cX6_unlikeness 13 = .ok (.iload_n 3, 1) := by decide +kernel
theorem dX6_unlikeness_14 : decode cX6_unlikeness 14 = .ok (.ifCond .lt 8, 3) := by decide +kernel
theorem dX6_unlikeness_22 : decode cX6_unlikeness 22 = .ok (.bipush (-4), 2) := by decide +kernel
theorem dX6_unlikeness_24 : decode cX6_unlikeness 24 = .ok (.ireturn, 1) := by decide +kernel
theorem dX6_unlikeness_17 : decode cX6_unlikeness 17 = .ok (.iload 4, 2) := by decide +kernel
theorem dX6_unlikeness_19 : decode cX6_unlikeness 19 = .ok (.ifCond .ge 6, 3) := by decide +kernel
theorem dX6_unlikeness_25 : decode cX6_unlikeness 25 = .ok (.iload_n 3, 1) := by decide +kernel
theorem dX6_unlikeness_26 : decode cX6_unlikeness 26 = .ok (.iload 4, 2) := by decide +kernel
theorem dX6_unlikeness_28 : decode cX6_unlikeness 28 = .ok (.isub, 1) := by decide +kernel
theorem dX6_unlikeness_29 : decode cX6_unlikeness 29 = .ok (.invokestatic 211, 3) := by decide +kernel
theorem kX6_211 : zMath RX6 211 Lib.Math.abs.name Lib.Math.abs.code 1 (some .int) := ⟨gt_of 461 (by decide +kernel) rfl, gt_of 462 (by decide +kernel) rfl, gt_of 53 (by decide +kernel) rfl, gt_of 463 (by decide +kernel) rfl⟩
theorem dX6_unlikeness_32 : decode cX6_unlikeness 32 = .ok (.ireturn, 1) := by decide +kernel
set_option maxRecDepth 100000 in
theorem c_X6_unlikeness (l : Launch) (D : va_G) (cy : Nat → Nat) (n : Nat) (ad : Nat → Nat) (F : Nat → va_E) (sz : Nat) (k : Nat) (t : Tal) (hk : k < n) (hFk : F k = oTale t) (j : Nat) (u : Tal) (hj : j < n) (hFj : F j = oTale u) (i : Nat) (b : Stg) (hi : i < n) (hFi : F i = oSetting b) (gt : gT t) (gu : gT u) (gb : gS b) : Met l yX6_unlikeness (zw yX6_unlikeness cX6_unlikeness 5 (some .int)) (rmL 5) (zPc D cy n ad F sz [.ref (ad k), .ref (ad j), .ref (ad i)]) (va_Qi (fun r F1 => r = sUnl t u b ∧ F = F1) (zB D n ad) (zA n ad sz)) 0 0 (zA n ad sz) := by
  refine zmet (by decide +kernel) (Nat.le_of_ble_eq_true rfl) (fun p e s m args below meth c ls hC hsz hZ hA hr hlocks hnm hl => ?_)
  have hC : zC p m c cX6_unlikeness 5 s args RX6 D cy := hC
  have hx := hC.1.1
  have hb := hC.1.2.1
  have hl : lv_has ls 5 [(0, .ref (ad k)), (1, .ref (ad j)), (2, .ref (ad i))] := hl
  refine lv_aload_n hx hb dX6_unlikeness_0 rfl (lv_at hl 0 rfl) ?_
  refine lv_aload_n hx hb dX6_unlikeness_1 rfl (lv_at hl 2 rfl) ?_
  refine zgoi hZ hA (zrunV (As := [.ref (ad i)]) (rest := []) (k := k) hC hZ (c_X5_arch l D cy n ad F s.heap.size k t hk hFk i b hi hFi gt gb) mX5_arch vX5_arch kX6_202 (zRj_of rfl) hk hFk rfl rfl hl.1 rfl (Nat.le_of_ble_eq_true rfl) dX6_unlikeness_2 ⟨Nat.le_refl _, Nat.le_refl _⟩) (fun r_2 F_1 hp_3 H locs hZ => ?_)
  obtain ⟨rfl, rfl⟩ := hp_3
  refine lv_istore_n (lv' := [(3, .int (sArchAt t b 0)), (0, .ref (ad k)), (1, .ref (ad j)), (2, .ref (ad i))]) hx hb dX6_unlikeness_5 rfl hl (by decide) rfl (fun ls hl => ?_)
  refine lv_aload_n hx hb dX6_unlikeness_6 rfl (lv_at hl 2 rfl) ?_
  refine lv_aload_n hx hb dX6_unlikeness_7 rfl (lv_at hl 3 rfl) ?_
  refine zgoi hZ hA (zrunV (As := [.ref (ad i)]) (rest := []) (k := j) hC hZ (c_X5_arch l D cy n ad F H.size j u hj hFj i b hi hFi gu gb) mX5_arch vX5_arch kX6_202 (zRj_of rfl) hj hFj rfl rfl hl.1 rfl (Nat.le_of_ble_eq_true rfl) dX6_unlikeness_8 ⟨Nat.le_refl _, Nat.le_refl _⟩) (fun r_5 F_4 hp_6 H locs hZ => ?_)
  obtain ⟨rfl, rfl⟩ := hp_6
  refine lv_istore (lv' := [(4, .int (sArchAt u b 0)), (3, .int (sArchAt t b 0)), (0, .ref (ad k)), (1, .ref (ad j)), (2, .ref (ad i))]) hx hb dX6_unlikeness_11 hl (by decide) rfl (fun ls hl => ?_)
  refine lv_iload_n hx hb dX6_unlikeness_13 rfl (lv_at hl 1 rfl) ?_
  refine lv_if_lt (tgt := 22) hx hb dX6_unlikeness_14 (by decide) (fun c_14 => ?_) (fun c_14 => ?_)
  · refine lv_bipush (v := (-4)) hx hb dX6_unlikeness_22 (by decide) ?_
    have hq : (-4 : Int32) = sUnl t u b := (if_pos (Or.inl c_14)).symm
    exact zireti hC hZ hr hlocks ⟨hq, rfl⟩ dX6_unlikeness_24
  · refine lv_iload hx hb dX6_unlikeness_17 (lv_at hl 0 rfl) ?_
    refine lv_if_ge (tgt := 25) hx hb dX6_unlikeness_19 (by decide) (fun c_19 => ?_) (fun c_19 => ?_)
    · refine lv_iload_n hx hb dX6_unlikeness_25 rfl (lv_at hl 1 rfl) ?_
      refine lv_iload hx hb dX6_unlikeness_26 (lv_at hl 0 rfl) ?_
      refine lv_isub hx hb dX6_unlikeness_28 ?_
      refine zabs hC kX6_211 hl.1 (zRj_of rfl) (Nat.le_of_ble_eq_true rfl) ⟨Nat.le_refl _, Nat.le_refl _⟩ dX6_unlikeness_29 ?_
      have hq : (if 0 ≤ ((sArchAt t b 0) - (sArchAt u b 0)) then ((sArchAt t b 0) - (sArchAt u b 0)) else 0 - ((sArchAt t b 0) - (sArchAt u b 0))) = sUnl t u b := (if_neg (fun h => h.elim c_14 (Int32.not_lt.mpr c_19))).symm
      exact zireti hC hZ hr hlocks ⟨hq, rfl⟩ dX6_unlikeness_32
    · refine lv_bipush (v := (-4)) hx hb dX6_unlikeness_22 (by decide) ?_
      have hq : (-4 : Int32) = sUnl t u b := (if_pos (Or.inr (Int32.not_le.mp c_19))).symm
      exact zireti hC hZ hr hlocks ⟨hq, rfl⟩ dX6_unlikeness_24

theorem mX6_parts : zMd yX6_parts cX6_parts 9 (some .int) 3 := ⟨by decide +kernel, gt_of 453 (by decide +kernel) rfl, gt_of 45 (by decide +kernel) rfl, by decide⟩
theorem dX6_parts_0 : decode cX6_parts 0 = .ok (.iload_n 3, 1) := by decide +kernel
theorem dX6_parts_1 : decode cX6_parts 1 = .ok (.iconst 0, 1) := by decide +kernel
theorem dX6_parts_2 : decode cX6_parts 2 = .ok (.iconst 1, 1) := by decide +kernel
theorem dX6_parts_3 : decode cX6_parts 3 = .ok (.invokestatic 111, 3) := by decide +kernel
theorem dX6_parts_6 : decode cX6_parts 6 = .ok (.ifCond .eq 19, 3) := by decide +kernel
theorem dX6_parts_9 : decode cX6_parts 9 = .ok (.aload_n 0, 1) := by decide +kernel
theorem dX6_parts_10 : decode cX6_parts 10 = .ok (.iload_n 1, 1) := by decide +kernel
theorem dX6_parts_11 : decode cX6_parts 11 = .ok (.invokevirtual 157, 3) := by decide +kernel
theorem dX6_parts_14 : decode cX6_parts 14 = .ok (.aload_n 0, 1) := by decide +kernel
theorem dX6_parts_15 : decode cX6_parts 15 = .ok (.iload_n 2, 1) := by decide +kernel
theorem dX6_parts_16 : decode cX6_parts 16 = .ok (.invokevirtual 157, 3) := by decide +kernel
theorem dX6_parts_19 : decode cX6_parts 19 = .ok (.invokestatic 204, 3) := by decide +kernel
theorem dX6_parts_22 : decode cX6_parts 22 = .ok (.goto 4, 3) := by decide +kernel
theorem dX6_parts_26 : decode cX6_parts 26 = .ok (.istore 4, 2) := by decide +kernel
theorem dX6_parts_28 : decode cX6_parts 28 = .ok (.iload 4, 2) := by decide +kernel
theorem dX6_parts_30 : decode cX6_parts 30 = .ok (.ifCond .eq 6, 3) := by decide +kernel
theorem dX6_parts_36 : decode cX6_parts 36 = .ok (.bipush (-4), 2) := by decide +kernel
theorem dX6_parts_38 : decode cX6_parts 38 = .ok (.istore 5, 2) := by decide +kernel
theorem dX6_parts_40 : decode cX6_parts 40 = .ok (.bipush (-4), 2) := by decide +kernel
theorem dX6_parts_42 : decode cX6_parts 42 = .ok (.istore 6, 2) := by decide +kernel
theorem dX6_parts_44 : decode cX6_parts 44 = .ok (.iconst 0, 1) := by decide +kernel
theorem dX6_parts_45 : decode cX6_parts 45 = .ok (.istore 7, 2) := by decide +kernel
theorem dX6_parts_47 : decode cX6_parts 47 = .ok (.iload 7, 2) := by decide +kernel
theorem dX6_parts_49 : decode cX6_parts 49 = .ok (.aload_n 0, 1) := by decide +kernel
theorem dX6_parts_50 : decode cX6_parts 50 = .ok (.getfield 10, 3) := by decide +kernel
theorem dX6_parts_53 : decode cX6_parts 53 = .ok (.getfield 147, 3) := by decide +kernel
theorem dX6_parts_56 : decode cX6_parts 56 = .ok (.if_icmp .ge 64, 3) := by decide +kernel
theorem dX6_parts_120 : decode cX6_parts 120 = .ok (.iload_n 3, 1) := by decide +kernel
theorem dX6_parts_121 : decode cX6_parts 121 = .ok (.ifCond .ne 8, 3) := by decide +kernel
theorem dX6_parts_129 : decode cX6_parts 129 = .ok (.iload 5, 2) := by decide +kernel
theorem dX6_parts_131 : decode cX6_parts 131 = .ok (.ireturn, 1) := by decide +kernel
theorem dX6_parts_124 : decode cX6_parts 124 = .ok (.iload 6, 2) := by decide +kernel
theorem dX6_parts_126 : decode cX6_parts 126 = .ok (.goto 5, 3) := by decide +kernel
theorem dX6_parts_59 : decode cX6_parts 59 = .ok (.iload 7, 2) := by decide +kernel
theorem dX6_parts_61 : decode cX6_parts 61 = .ok (.bipush 8, 2) := by decide +kernel
theorem dX6_parts_63 : decode cX6_parts 63 = .ok (.if_icmp .ge 57, 3) := by decide +kernel
theorem dX6_parts_66 : decode cX6_parts 66 = .ok (.aload_n 0, 1) := by decide +kernel
theorem dX6_parts_67 : decode cX6_parts 67 = .ok (.getfield 25, 3) := by decide +kernel
theorem dX6_parts_70 : decode cX6_parts 70 = .ok (.iload_n 1, 1) := by decide +kernel
theorem dX6_parts_71 : decode cX6_parts 71 = .ok (.aaload, 1) := by decide +kernel
theorem dX6_parts_72 : decode cX6_parts 72 = .ok (.getfield 160, 3) := by decide +kernel
theorem dX6_parts_75 : decode cX6_parts 75 = .ok (.aload_n 0, 1) := by decide +kernel
theorem dX6_parts_76 : decode cX6_parts 76 = .ok (.getfield 25, 3) := by decide +kernel
theorem dX6_parts_79 : decode cX6_parts 79 = .ok (.iload_n 2, 1) := by decide +kernel
theorem dX6_parts_80 : decode cX6_parts 80 = .ok (.aaload, 1) := by decide +kernel
theorem dX6_parts_81 : decode cX6_parts 81 = .ok (.getfield 160, 3) := by decide +kernel
theorem dX6_parts_84 : decode cX6_parts 84 = .ok (.aload_n 0, 1) := by decide +kernel
theorem dX6_parts_85 : decode cX6_parts 85 = .ok (.getfield 10, 3) := by decide +kernel
theorem dX6_parts_88 : decode cX6_parts 88 = .ok (.getfield 153, 3) := by decide +kernel
theorem dX6_parts_91 : decode cX6_parts 91 = .ok (.iload 7, 2) := by decide +kernel
theorem dX6_parts_93 : decode cX6_parts 93 = .ok (.aaload, 1) := by decide +kernel
theorem dX6_parts_94 : decode cX6_parts 94 = .ok (.invokestatic 207, 3) := by decide +kernel
theorem kX6_207 : zLk RX6 207 yX6_unlikeness := Or.inl (gt_of 458 (by decide +kernel) rfl)
theorem sX6_unlikeness : Cond.static yX6_unlikeness ∈ gtbl := gt_of 459 (by decide +kernel) rfl
theorem dX6_parts_97 : decode cX6_parts 97 = .ok (.istore 8, 2) := by decide +kernel
theorem dX6_parts_99 : decode cX6_parts 99 = .ok (.iload 8, 2) := by decide +kernel
theorem dX6_parts_101 : decode cX6_parts 101 = .ok (.iload 5, 2) := by decide +kernel
theorem dX6_parts_103 : decode cX6_parts 103 = .ok (.if_icmp .le 11, 3) := by decide +kernel
theorem dX6_parts_114 : decode cX6_parts 114 = .ok (.iinc 7 1, 3) := by decide +kernel
theorem dX6_parts_117 : decode cX6_parts 117 = .ok (.goto (-70), 3) := by decide +kernel
theorem dX6_parts_106 : decode cX6_parts 106 = .ok (.iload 8, 2) := by decide +kernel
theorem dX6_parts_108 : decode cX6_parts 108 = .ok (.istore 5, 2) := by decide +kernel
theorem dX6_parts_110 : decode cX6_parts 110 = .ok (.iload 7, 2) := by decide +kernel
theorem dX6_parts_112 : decode cX6_parts 112 = .ok (.istore 6, 2) := by decide +kernel
theorem dX6_parts_33 : decode cX6_parts 33 = .ok (.iload 4, 2) := by decide +kernel
theorem dX6_parts_35 : decode cX6_parts 35 = .ok (.ireturn, 1) := by decide +kernel
theorem dX6_parts_25 : decode cX6_parts 25 = .ok (.iconst (-1), 1) := by decide +kernel
set_option maxRecDepth 100000 in
theorem c_X6_parts (l : Launch) (D : va_G) (cy : Nat → Nat) (n : Nat) (ad : Nat → Nat) (F : Nat → va_E) (sz : Nat) (pic : Int32) (sc ps : Scn) (sh : Nat → Shf) (rd : Rdr) (dr : Stg) (fa : Tal) (mi : Crs) (hn : 56 ≤ n) (hX : RX ad cy F pic sc ps sh rd dr fa mi) (hG : gX sc ps sh) (d e0 what : Int32) : Met l yX6_parts (zw yX6_parts cX6_parts 9 (some .int)) (rmL 6) (zPc D cy n ad F sz [.ref (ad 0), .int d, .int e0, .int what]) (va_Qi (fun r F1 => r = zr (bIn what 0 1) (sFirst (sStR sh d) (sStR sh e0)) (sParts (sh (iN d)).2.1 (sh (iN e0)).2.1 sc what) ∧ RX ad cy F1 pic sc ps sh rd dr fa mi ∧ fr56 F F1) (zB D n ad) (zA n ad sz)) 0 0 (zA n ad sz) := by
  refine zmet (by decide +kernel) (Nat.le_of_ble_eq_true rfl) (fun p e s m args below meth c ls hC hsz hZ hA hr hlocks hnm hl => ?_)
  have hC : zC p m c cX6_parts 9 s args RX6 D cy := hC
  have hx := hC.1.1
  have hb := hC.1.2.1
  have hl : lv_has ls 9 [(0, .ref (ad 0)), (1, .int d), (2, .int e0), (3, .int what)] := hl
  refine lv_iload_n hx hb dX6_parts_0 rfl (lv_at hl 3 rfl) ?_
  refine lv_iconst (v := 0) hx hb dX6_parts_1 (by decide) ?_
  refine lv_iconst (v := 1) hx hb dX6_parts_2 (by decide) ?_
  refine zgoi hZ hA (zrunS (As := [.int what, .int 0, .int 1]) (rest := []) hC hZ (c_X6_isWithin l D cy n ad F s.heap.size what 0 1) mX6_isWithin sX6_isWithin kX6_111 (zRj_of rfl) rfl hl.1 rfl (Nat.le_of_ble_eq_true rfl) dX6_parts_3 ⟨Nat.le_refl _, Nat.le_refl _⟩) (fun r_2 F_1 hp_3 H locs hZ => ?_)
  obtain ⟨hp_3, rfl⟩ := hp_3
  by_cases b_4 : bIn what 0 1
  · rw [if_pos b_4] at hp_3
    subst hp_3
    refine lv_if_eq (tgt := 25) hx hb dX6_parts_6 (by decide) (fun h => absurd (show (1 : Int32) = 0 from h) (by decide)) (fun _ => ?_)
    refine lv_aload_n hx hb dX6_parts_9 rfl (lv_at hl 0 rfl) ?_
    refine lv_iload_n hx hb dX6_parts_10 rfl (lv_at hl 1 rfl) ?_
    refine zgoi hZ hA (zrunV (As := [.int d]) (rest := []) (k := 0) hC hZ (c_X6_storyRefusal l D cy n ad F H.size pic sc ps sh rd dr fa mi hn hX d) mX6_storyRefusal vX6_storyRefusal kX6_157 (zRj_of rfl) (zlt hn rfl) hX.1 rfl rfl hl.1 rfl (Nat.le_of_ble_eq_true rfl) dX6_parts_11 ⟨Nat.le_refl _, Nat.le_refl _⟩) (fun r_6 F_5 hp_7 H locs hZ => ?_)
    obtain ⟨rfl, rfl⟩ := hp_7
    refine lv_aload_n hx hb dX6_parts_14 rfl (lv_at hl 0 rfl) ?_
    refine lv_iload_n hx hb dX6_parts_15 rfl (lv_at hl 2 rfl) ?_
    refine zgoi hZ hA (zrunV (As := [.int e0]) (rest := [.int (sStR sh d)]) (k := 0) hC hZ (c_X6_storyRefusal l D cy n ad F H.size pic sc ps sh rd dr fa mi hn hX e0) mX6_storyRefusal vX6_storyRefusal kX6_157 (zRj_of rfl) (zlt hn rfl) hX.1 rfl rfl hl.1 rfl (Nat.le_of_ble_eq_true rfl) dX6_parts_16 ⟨Nat.le_refl _, Nat.le_refl _⟩) (fun r_9 F_8 hp_10 H locs hZ => ?_)
    obtain ⟨rfl, rfl⟩ := hp_10
    refine zgoi hZ hA (zrunS (As := [.int (sStR sh d), .int (sStR sh e0)]) (rest := []) hC hZ (c_X6_firstRefusal l D cy n ad F H.size (sStR sh d) (sStR sh e0)) mX6_firstRefusal sX6_firstRefusal kX6_204 (zRj_of rfl) rfl hl.1 rfl (Nat.le_of_ble_eq_true rfl) dX6_parts_19 ⟨Nat.le_refl _, Nat.le_refl _⟩) (fun r_12 F_11 hp_13 H locs hZ => ?_)
    obtain ⟨rfl, rfl⟩ := hp_13
    refine lv_goto (tgt := 26) hx hb dX6_parts_22 (by decide) ?_
    refine lv_istore (lv' := [(4, .int (sFirst (sStR sh d) (sStR sh e0))), (0, .ref (ad 0)), (1, .int d), (2, .int e0), (3, .int what)]) hx hb dX6_parts_26 hl (by decide) rfl (fun ls hl => ?_)
    refine lv_iload hx hb dX6_parts_28 (lv_at hl 0 rfl) ?_
    refine lv_if_eq (tgt := 36) hx hb dX6_parts_30 (by decide) (fun c_30 => ?_) (fun c_30 => ?_)
    · refine lv_bipush (v := (-4)) hx hb dX6_parts_36 (by decide) ?_
      refine lv_istore (lv' := [(5, .int (-4)), (4, .int (sFirst (sStR sh d) (sStR sh e0))), (0, .ref (ad 0)), (1, .int d), (2, .int e0), (3, .int what)]) hx hb dX6_parts_38 hl (by decide) rfl (fun ls hl => ?_)
      refine lv_bipush (v := (-4)) hx hb dX6_parts_40 (by decide) ?_
      refine lv_istore (lv' := [(6, .int (-4)), (5, .int (-4)), (4, .int (sFirst (sStR sh d) (sStR sh e0))), (0, .ref (ad 0)), (1, .int d), (2, .int e0), (3, .int what)]) hx hb dX6_parts_42 hl (by decide) rfl (fun ls hl => ?_)
      refine lv_iconst (v := 0) hx hb dX6_parts_44 (by decide) ?_
      refine lv_istore (lv' := [(7, .int 0), (6, .int (-4)), (5, .int (-4)), (4, .int (sFirst (sStR sh d) (sStR sh e0))), (0, .ref (ad 0)), (1, .int d), (2, .int e0), (3, .int what)]) hx hb dX6_parts_45 hl (by decide) rfl (fun ls hl => ?_)
      refine zlp (X := Nat × (Int32 × Int32)) 47 (fun _ => []) (fun x ls F1 => lv_has ls 9 [(7, .int (nI x.1)), (6, .int x.2.2), (5, .int x.2.1), (4, .int (sFirst (sStR sh d) (sStR sh e0))), (0, .ref (ad 0)), (1, .int d), (2, .int e0), (3, .int what)] ∧ RX ad cy F1 pic sc ps sh rd dr fa mi ∧ fr56 F F1 ∧ (x.1 ≤ iN sc.2.2.2.1) ∧ (x.2 = zfold (sPartF (sh (iN d)).2.1 (sh (iN e0)).2.1 sc.2.2.1) x.1 (-4, -4))) (fun x => iN sc.2.2.2.1 - x.1) ?_ (0, (-4, -4)) hZ ⟨hl, hX, fr56_rf, (Nat.zero_le _), rfl⟩
      intro x ih47 ls F3_47 H locs hZ hφ
      obtain ⟨i, pp⟩ := x
      obtain ⟨hl, hXl, hfl47, hi, hp⟩ := hφ
      have hl : lv_has ls 9 [(7, .int (nI i)), (6, .int pp.2), (5, .int pp.1), (4, .int (sFirst (sStR sh d) (sStR sh e0))), (0, .ref (ad 0)), (1, .int d), (2, .int e0), (3, .int what)] := hl
      have hX47 : RX ad cy F3_47 pic sc ps sh rd dr fa mi := hXl
      have hi : i ≤ iN sc.2.2.2.1 := hi
      have hp : pp = zfold (sPartF (sh (iN d)).2.1 (sh (iN e0)).2.1 sc.2.2.1) i (-4, -4) := hp
      have htc := tc_n hG.1
      refine lv_iload hx hb dX6_parts_47 (lv_at hl 0 rfl) ?_
      refine lv_aload_n hx hb dX6_parts_49 rfl (lv_at hl 4 rfl) ?_
      refine zget hC hZ fX6_10 (zlt hn rfl) hX47.1 rfl dX6_parts_50 ?_
      refine zget hC hZ fX6_147 (zlt hn rfl) hX47.2.1.1 rfl dX6_parts_53 ?_
      refine lv_icmp_ge (tgt := 120) hx hb dX6_parts_56 (by decide) (fun c_56 => ?_) (fun c_56 => ?_)
      · refine lv_iload_n hx hb dX6_parts_120 rfl (lv_at hl 7 rfl) ?_
        refine lv_if_ne (tgt := 129) hx hb dX6_parts_121 (by decide) (fun c_121 => ?_) (fun c_121 => ?_)
        · refine lv_iload hx hb dX6_parts_129 (lv_at hl 2 rfl) ?_
          have hiq : i = iN sc.2.2.2.1 := zge htc.1 (by omega) hi c_56
          have hv_15 : pp.1 = sParts (sh (iN d)).2.1 (sh (iN e0)).2.1 sc what := by unfold sParts; rw [← hiq, ← hp]; simp [b_4, c_30, c_56, Int32.not_lt.mpr c_56, c_121]
          have hq_14 : pp.1 = zr (bIn what 0 1) ((sFirst (sStR sh d) (sStR sh e0))) (sParts (sh (iN d)).2.1 (sh (iN e0)).2.1 sc what) := hv_15.trans (zr_ok b_4 c_30).symm
          exact zireti hC hZ hr hlocks ⟨hq_14, hX47, hfl47⟩ dX6_parts_131
        · refine lv_iload hx hb dX6_parts_124 (lv_at hl 1 rfl) ?_
          refine lv_goto (tgt := 131) hx hb dX6_parts_126 (by decide) ?_
          have hiq : i = iN sc.2.2.2.1 := zge htc.1 (by omega) hi c_56
          have hv_17 : pp.2 = sParts (sh (iN d)).2.1 (sh (iN e0)).2.1 sc what := by unfold sParts; rw [← hiq, ← hp]; simp [b_4, c_30, c_56, Int32.not_lt.mpr c_56, c_121]
          have hq_16 : pp.2 = zr (bIn what 0 1) ((sFirst (sStR sh d) (sStR sh e0))) (sParts (sh (iN d)).2.1 (sh (iN e0)).2.1 sc what) := hv_17.trans (zr_ok b_4 c_30).symm
          exact zireti hC hZ hr hlocks ⟨hq_16, hX47, hfl47⟩ dX6_parts_131
      · refine lv_iload hx hb dX6_parts_59 (lv_at hl 0 rfl) ?_
        refine lv_bipush (v := 8) hx hb dX6_parts_61 (by decide) ?_
        have hlt0 := zlt2 htc.1 (by omega) c_56
        refine lv_icmp_ge (tgt := 120) hx hb dX6_parts_63 (by decide) (fun h => absurd h (by rw [Int32.not_le]; exact nI_lt (a := i) (b := 8) (by omega) (by omega))) (fun _ => ?_)
        refine lv_aload_n hx hb dX6_parts_66 rfl (lv_at hl 4 rfl) ?_
        refine zget hC hZ fX6_25 (zlt hn rfl) hX47.1 rfl dX6_parts_67 ?_
        refine lv_iload_n hx hb dX6_parts_70 rfl (lv_at hl 5 rfl) ?_
        have hz := sFirst_0 (sStR_le sh d) (sStR_le sh e0) c_30
        have hsd := sStR_0 hz.1
        have hse := sStR_0 hz.2
        refine zaald hC hZ (zlt hn rfl) hX47.2.2.2.1 (C := RX4) rfl hsd.1.1 hsd.1.2 (by decide) rfl dX6_parts_71 ?_
        refine zget hC hZ fX6_160 (by have := hsd.1.2; omega) (hX47.2.2.2.2.1 (iN d) hsd.1.2).1 rfl dX6_parts_72 ?_
        refine lv_aload_n hx hb dX6_parts_75 rfl (lv_at hl 4 rfl) ?_
        refine zget hC hZ fX6_25 (zlt hn rfl) hX47.1 rfl dX6_parts_76 ?_
        refine lv_iload_n hx hb dX6_parts_79 rfl (lv_at hl 6 rfl) ?_
        refine zaald hC hZ (zlt hn rfl) hX47.2.2.2.1 (C := RX4) rfl hse.1.1 hse.1.2 (by decide) rfl dX6_parts_80 ?_
        refine zget hC hZ fX6_160 (by have := hse.1.2; omega) (hX47.2.2.2.2.1 (iN e0) hse.1.2).1 rfl dX6_parts_81 ?_
        refine lv_aload_n hx hb dX6_parts_84 rfl (lv_at hl 4 rfl) ?_
        refine zget hC hZ fX6_10 (zlt hn rfl) hX47.1 rfl dX6_parts_85 ?_
        refine zget hC hZ fX6_153 (zlt hn rfl) hX47.2.1.1 rfl dX6_parts_88 ?_
        refine lv_iload hx hb dX6_parts_91 (lv_at hl 0 rfl) ?_
        have hlt := zlt2 htc.1 (by omega) c_56
        have hlt8 : i < 8 := by omega
        refine zaald hC hZ (zlt hn rfl) hX47.2.1.2.2.1 (C := RX3) rfl rfl hlt8 (by decide) rfl dX6_parts_93 ?_
        refine zgoi hZ hA (zrunS (As := [.ref (ad (26 + 3 * (iN d) + 1)), .ref (ad (26 + 3 * (iN e0) + 1)), .ref (ad (5 + i))]) (rest := []) hC hZ (c_X6_unlikeness l D cy n ad F3_47 H.size (26 + 3 * (iN d) + 1) (sh (iN d)).2.1 (by have := hsd.1.2; omega) (hX47.2.2.2.2.1 (iN d) hsd.1.2).2.1 (26 + 3 * (iN e0) + 1) (sh (iN e0)).2.1 (by have := hse.1.2; omega) (hX47.2.2.2.2.1 (iN e0) hse.1.2).2.1 (5 + i) (sc.2.2.1 i) (by have := hlt8; omega) (hX47.2.1.2.2.2.2 i hlt8) ((hG.2.2 _ hsd.1.2).1 hsd.2) ((hG.2.2 _ hse.1.2).1 hse.2) (hG.1.2.2.2.1 _ hlt8)) mX6_unlikeness sX6_unlikeness kX6_207 (zRj_of rfl) rfl hl.1 rfl (Nat.le_of_ble_eq_true rfl) dX6_parts_94 ⟨Nat.le_refl _, Nat.le_refl _⟩) (fun r_19 F_18 hp_20 H locs hZ => ?_)
        obtain ⟨rfl, rfl⟩ := hp_20
        refine lv_istore (lv' := [(8, .int (sUnl ((sh (iN d)).2.1) ((sh (iN e0)).2.1) (sc.2.2.1 i))), (7, .int (nI i)), (6, .int pp.2), (5, .int pp.1), (4, .int (sFirst (sStR sh d) (sStR sh e0))), (0, .ref (ad 0)), (1, .int d), (2, .int e0), (3, .int what)]) hx hb dX6_parts_97 hl (by decide) rfl (fun ls hl => ?_)
        refine lv_iload hx hb dX6_parts_99 (lv_at hl 0 rfl) ?_
        refine lv_iload hx hb dX6_parts_101 (lv_at hl 3 rfl) ?_
        refine lv_icmp_le (tgt := 114) hx hb dX6_parts_103 (by decide) (fun c_103 => ?_) (fun c_103 => ?_)
        · refine lv_iinc (v := nI (i + 1)) (lv' := [(7, .int (nI (i + 1))), (8, .int (sUnl ((sh (iN d)).2.1) ((sh (iN e0)).2.1) (sc.2.2.1 i))), (6, .int pp.2), (5, .int pp.1), (4, .int (sFirst (sStR sh d) (sStR sh e0))), (0, .ref (ad 0)), (1, .int d), (2, .int e0), (3, .int what)]) hx hb dX6_parts_114 hl (k := 1) rfl (nI_1 i) (by decide) rfl (fun ls hl => ?_)
          refine lv_goto (tgt := 47) hx hb dX6_parts_117 (by decide) ?_
          exact ih47 ((i + 1), pp) ls _ H locs (by show iN sc.2.2.2.1 - (i + 1) < iN sc.2.2.2.1 - i; omega) hZ ⟨(lv_sub hl [0, 2, 3, 4, 5, 6, 7, 8] rfl), hX47, hfl47, (by omega), (by show pp = (sPartF (sh (iN d)).2.1 (sh (iN e0)).2.1 sc.2.2.1) i (zfold (sPartF (sh (iN d)).2.1 (sh (iN e0)).2.1 sc.2.2.1) i (-4, -4)); rw [← hp]; exact (if_neg (Int32.not_lt.mpr c_103)).symm)⟩
        · refine lv_iload hx hb dX6_parts_106 (lv_at hl 0 rfl) ?_
          refine lv_istore (lv' := [(5, .int (sUnl ((sh (iN d)).2.1) ((sh (iN e0)).2.1) (sc.2.2.1 i))), (8, .int (sUnl ((sh (iN d)).2.1) ((sh (iN e0)).2.1) (sc.2.2.1 i))), (7, .int (nI i)), (6, .int pp.2), (4, .int (sFirst (sStR sh d) (sStR sh e0))), (0, .ref (ad 0)), (1, .int d), (2, .int e0), (3, .int what)]) hx hb dX6_parts_108 hl (by decide) rfl (fun ls hl => ?_)
          refine lv_iload hx hb dX6_parts_110 (lv_at hl 2 rfl) ?_
          refine lv_istore (lv' := [(6, .int (nI i)), (5, .int (sUnl ((sh (iN d)).2.1) ((sh (iN e0)).2.1) (sc.2.2.1 i))), (8, .int (sUnl ((sh (iN d)).2.1) ((sh (iN e0)).2.1) (sc.2.2.1 i))), (7, .int (nI i)), (4, .int (sFirst (sStR sh d) (sStR sh e0))), (0, .ref (ad 0)), (1, .int d), (2, .int e0), (3, .int what)]) hx hb dX6_parts_112 hl (by decide) rfl (fun ls hl => ?_)
          refine lv_iinc (v := nI (i + 1)) (lv' := [(7, .int (nI (i + 1))), (6, .int (nI i)), (5, .int (sUnl ((sh (iN d)).2.1) ((sh (iN e0)).2.1) (sc.2.2.1 i))), (8, .int (sUnl ((sh (iN d)).2.1) ((sh (iN e0)).2.1) (sc.2.2.1 i))), (4, .int (sFirst (sStR sh d) (sStR sh e0))), (0, .ref (ad 0)), (1, .int d), (2, .int e0), (3, .int what)]) hx hb dX6_parts_114 hl (k := 3) rfl (nI_1 i) (by decide) rfl (fun ls hl => ?_)
          refine lv_goto (tgt := 47) hx hb dX6_parts_117 (by decide) ?_
          exact ih47 ((i + 1), ((sUnl ((sh (iN d)).2.1) ((sh (iN e0)).2.1) (sc.2.2.1 i)), nI i)) ls _ H locs (by show iN sc.2.2.2.1 - (i + 1) < iN sc.2.2.2.1 - i; omega) hZ ⟨(lv_sub hl [0, 1, 2, 4, 5, 6, 7, 8] rfl), hX47, hfl47, (by omega), (by show ((sUnl ((sh (iN d)).2.1) ((sh (iN e0)).2.1) (sc.2.2.1 i)), nI i) = (sPartF (sh (iN d)).2.1 (sh (iN e0)).2.1 sc.2.2.1) i (zfold (sPartF (sh (iN d)).2.1 (sh (iN e0)).2.1 sc.2.2.1) i (-4, -4)); rw [← hp]; exact (if_pos (Int32.not_le.mp c_103)).symm)⟩
    · refine lv_iload hx hb dX6_parts_33 (lv_at hl 0 rfl) ?_
      have hq_21 : (sFirst (sStR sh d) (sStR sh e0)) = zr (bIn what 0 1) ((sFirst (sStR sh d) (sStR sh e0))) (sParts (sh (iN d)).2.1 (sh (iN e0)).2.1 sc what) := (zr_rf b_4 c_30).symm
      exact zireti hC hZ hr hlocks ⟨hq_21, hX, fr56_rf⟩ dX6_parts_35
  · rw [if_neg b_4] at hp_3
    subst hp_3
    refine lv_if_eq (tgt := 25) hx hb dX6_parts_6 (by decide) (fun _ => ?_) (fun h => absurd (show (0 : Int32) = 0 by decide) h)
    refine lv_iconst (v := (-1)) hx hb dX6_parts_25 (by decide) ?_
    refine lv_istore (lv' := [(4, .int (-1)), (0, .ref (ad 0)), (1, .int d), (2, .int e0), (3, .int what)]) hx hb dX6_parts_26 hl (by decide) rfl (fun ls hl => ?_)
    refine lv_iload hx hb dX6_parts_28 (lv_at hl 0 rfl) ?_
    refine lv_if_eq (tgt := 36) hx hb dX6_parts_30 (by decide) (fun h => absurd (show (-1 : Int32) = 0 from h) (by decide)) (fun _ => ?_)
    refine lv_iload hx hb dX6_parts_33 (lv_at hl 0 rfl) ?_
    have hq_22 : (-1 : Int32) = zr (bIn what 0 1) ((sFirst (sStR sh d) (sStR sh e0))) (sParts (sh (iN d)).2.1 (sh (iN e0)).2.1 sc what) := (zr_no b_4).symm
    exact zireti hC hZ hr hlocks ⟨hq_22, hX, fr56_rf⟩ dX6_parts_35

theorem mX6_isNear : zMd yX6_isNear cX6_isNear 3 (some .boolean) 3 := ⟨by decide +kernel, gt_of 489 (by decide +kernel) rfl, gt_of 45 (by decide +kernel) rfl, by decide⟩
theorem dX6_isNear_0 : decode cX6_isNear 0 = .ok (.iload_n 0, 1) := by decide +kernel
theorem dX6_isNear_1 : decode cX6_isNear 1 = .ok (.ifCond .lt 21, 3) := by decide +kernel
theorem dX6_isNear_22 : decode cX6_isNear 22 = .ok (.iconst 0, 1) := by decide +kernel
theorem dX6_isNear_23 : decode cX6_isNear 23 = .ok (.ireturn, 1) := by decide +kernel
theorem dX6_isNear_4 : decode cX6_isNear 4 = .ok (.iload_n 0, 1) := by decide +kernel
theorem dX6_isNear_5 : decode cX6_isNear 5 = .ok (.i2l, 1) := by decide +kernel
theorem dX6_isNear_6 : decode cX6_isNear 6 = .ok (.iload_n 1, 1) := by decide +kernel
theorem dX6_isNear_7 : decode cX6_isNear 7 = .ok (.i2l, 1) := by decide +kernel
theorem dX6_isNear_8 : decode cX6_isNear 8 = .ok (.lsub, 1) := by decide +kernel
theorem dX6_isNear_9 : decode cX6_isNear 9 = .ok (.invokestatic 236, 3) := by decide +kernel
theorem kX6_236 : zMath RX6 236 Lib.MathLoose.abs_long.x Lib.MathLoose.abs_long.code 2 (some .long) := ⟨gt_of 490 (by decide +kernel) rfl, gt_of 491 (by decide +kernel) rfl, gt_of 53 (by decide +kernel) rfl, gt_of 492 (by decide +kernel) rfl⟩
theorem dX6_isNear_12 : decode cX6_isNear 12 = .ok (.iload_n 2, 1) := by decide +kernel
theorem dX6_isNear_13 : decode cX6_isNear 13 = .ok (.i2l, 1) := by decide +kernel
theorem dX6_isNear_14 : decode cX6_isNear 14 = .ok (.lcmp, 1) := by decide +kernel
theorem dX6_isNear_15 : decode cX6_isNear 15 = .ok (.ifCond .gt 7, 3) := by decide +kernel
theorem dX6_isNear_18 : decode cX6_isNear 18 = .ok (.iconst 1, 1) := by decide +kernel
theorem dX6_isNear_19 : decode cX6_isNear 19 = .ok (.goto 4, 3) := by decide +kernel
set_option maxRecDepth 100000 in
theorem c_X6_isNear (l : Launch) (D : va_G) (cy : Nat → Nat) (n : Nat) (ad : Nat → Nat) (F : Nat → va_E) (sz : Nat) (told seen off : Int32) : Met l yX6_isNear (zw yX6_isNear cX6_isNear 3 (some .boolean)) (rmL 1) (zPc D cy n ad F sz [.int told, .int seen, .int off]) (va_Qi (fun r F1 => r = (if bNear told seen off then 1 else 0) ∧ F = F1) (zB D n ad) (zA n ad sz)) 0 0 (zA n ad sz) := by
  refine zmet (by decide +kernel) (Nat.le_of_ble_eq_true rfl) (fun p e s m args below meth c ls hC hsz hZ hA hr hlocks hnm hl => ?_)
  have hC : zC p m c cX6_isNear 3 s args RX6 D cy := hC
  have hx := hC.1.1
  have hb := hC.1.2.1
  have hl : lv_has ls 3 [(0, .int told), (1, .int seen), (2, .int off)] := hl
  refine lv_iload_n hx hb dX6_isNear_0 rfl (lv_at hl 0 rfl) ?_
  refine lv_if_lt (tgt := 22) hx hb dX6_isNear_1 (by decide) (fun c_1 => ?_) (fun c_1 => ?_)
  · refine lv_iconst (v := 0) hx hb dX6_isNear_22 (by decide) ?_
    have hq : (0 : Int32) = if bNear told seen off then 1 else 0 := (if_neg (fun h => absurd c_1 (Int32.not_lt.mpr h.1))).symm
    exact zbreti hC hZ hr hlocks rfl ⟨hq, rfl⟩ dX6_isNear_23
  · refine lv_iload_n hx hb dX6_isNear_4 rfl (lv_at hl 0 rfl) ?_
    refine lv_i2l (v := (told).toInt64) hx hb dX6_isNear_5 (by rfl) ?_
    refine lv_iload_n hx hb dX6_isNear_6 rfl (lv_at hl 1 rfl) ?_
    refine lv_i2l (v := (seen).toInt64) hx hb dX6_isNear_7 (by rfl) ?_
    refine lv_lsub hx hb dX6_isNear_8 ?_
    refine zabsl hC kX6_236 hl.1 (zRj_of rfl) (Nat.le_of_ble_eq_true rfl) ⟨Nat.le_refl _, Nat.le_refl _⟩ dX6_isNear_9 ?_
    refine lv_iload_n hx hb dX6_isNear_12 rfl (lv_at hl 2 rfl) ?_
    refine lv_i2l (v := (off).toInt64) hx hb dX6_isNear_13 (by rfl) ?_
    refine W.lcmp hx hb dX6_isNear_14 ?_
    refine lv_if_gt (tgt := 22) hx hb dX6_isNear_15 (by decide) (fun c_15 => ?_) (fun c_15 => ?_)
    · refine lv_iconst (v := 0) hx hb dX6_isNear_22 (by decide) ?_
      have hq : (0 : Int32) = if bNear told seen off then 1 else 0 := (if_neg (fun h => absurd ((lg_cmp_gt _ _).mp c_15) (Int64.not_lt.mpr h.2))).symm
      exact zbreti hC hZ hr hlocks rfl ⟨hq, rfl⟩ dX6_isNear_23
    · refine lv_iconst (v := 1) hx hb dX6_isNear_18 (by decide) ?_
      refine lv_goto (tgt := 23) hx hb dX6_isNear_19 (by decide) ?_
      have hq : (1 : Int32) = if bNear told seen off then 1 else 0 := (if_pos ⟨Int32.not_lt.mp c_1, Int64.not_lt.mp (fun h => c_15 ((lg_cmp_gt _ _).mpr h))⟩).symm
      exact zbreti hC hZ hr hlocks rfl ⟨hq, rfl⟩ dX6_isNear_23

theorem mX6_fits : zMd yX6_fits cX6_fits 5 (some .boolean) 3 := ⟨by decide +kernel, gt_of 479 (by decide +kernel) rfl, gt_of 45 (by decide +kernel) rfl, by decide⟩
theorem dX6_fits_0 : decode cX6_fits 0 = .ok (.iconst 0, 1) := by decide +kernel
theorem dX6_fits_1 : decode cX6_fits 1 = .ok (.istore 4, 2) := by decide +kernel
theorem dX6_fits_3 : decode cX6_fits 3 = .ok (.iload 4, 2) := by decide +kernel
theorem dX6_fits_5 : decode cX6_fits 5 = .ok (.aload_n 0, 1) := by decide +kernel
theorem dX6_fits_6 : decode cX6_fits 6 = .ok (.getfield 10, 3) := by decide +kernel
theorem dX6_fits_9 : decode cX6_fits 9 = .ok (.getfield 147, 3) := by decide +kernel
theorem dX6_fits_12 : decode cX6_fits 12 = .ok (.if_icmp .ge 54, 3) := by decide +kernel
theorem dX6_fits_66 : decode cX6_fits 66 = .ok (.iconst 1, 1) := by decide +kernel
theorem dX6_fits_67 : decode cX6_fits 67 = .ok (.ireturn, 1) := by decide +kernel
theorem dX6_fits_15 : decode cX6_fits 15 = .ok (.iload 4, 2) := by decide +kernel
theorem dX6_fits_17 : decode cX6_fits 17 = .ok (.bipush 8, 2) := by decide +kernel
theorem dX6_fits_19 : decode cX6_fits 19 = .ok (.if_icmp .ge 47, 3) := by decide +kernel
theorem dX6_fits_22 : decode cX6_fits 22 = .ok (.aload_n 2, 1) := by decide +kernel
theorem dX6_fits_23 : decode cX6_fits 23 = .ok (.iload 4, 2) := by decide +kernel
theorem dX6_fits_25 : decode cX6_fits 25 = .ok (.invokevirtual 228, 3) := by decide +kernel
theorem kX6_228 : zLk RX6 228 yX4_tells := Or.inl (gt_of 480 (by decide +kernel) rfl)
theorem vX4_tells : zMi yX4_tells := ⟨gt_of 481 (by decide +kernel) rfl, gt_of 482 (by decide +kernel) rfl⟩
theorem dX6_fits_28 : decode cX6_fits 28 = .ok (.ifCond .eq 32, 3) := by decide +kernel
theorem dX6_fits_31 : decode cX6_fits 31 = .ok (.aload_n 1, 1) := by decide +kernel
theorem dX6_fits_32 : decode cX6_fits 32 = .ok (.aload_n 0, 1) := by decide +kernel
theorem dX6_fits_33 : decode cX6_fits 33 = .ok (.getfield 10, 3) := by decide +kernel
theorem dX6_fits_36 : decode cX6_fits 36 = .ok (.getfield 153, 3) := by decide +kernel
theorem dX6_fits_39 : decode cX6_fits 39 = .ok (.iload 4, 2) := by decide +kernel
theorem dX6_fits_41 : decode cX6_fits 41 = .ok (.aaload, 1) := by decide +kernel
theorem dX6_fits_42 : decode cX6_fits 42 = .ok (.invokevirtual 202, 3) := by decide +kernel
theorem dX6_fits_45 : decode cX6_fits 45 = .ok (.aload_n 2, 1) := by decide +kernel
theorem dX6_fits_46 : decode cX6_fits 46 = .ok (.iload 4, 2) := by decide +kernel
theorem dX6_fits_48 : decode cX6_fits 48 = .ok (.invokevirtual 231, 3) := by decide +kernel
theorem kX6_231 : zLk RX6 231 yX4_at := Or.inl (gt_of 486 (by decide +kernel) rfl)
theorem dX6_fits_51 : decode cX6_fits 51 = .ok (.iload_n 3, 1) := by decide +kernel
theorem dX6_fits_52 : decode cX6_fits 52 = .ok (.invokestatic 233, 3) := by decide +kernel
theorem kX6_233 : zLk RX6 233 yX6_isNear := Or.inl (gt_of 487 (by decide +kernel) rfl)
theorem sX6_isNear : Cond.static yX6_isNear ∈ gtbl := gt_of 488 (by decide +kernel) rfl
theorem dX6_fits_55 : decode cX6_fits 55 = .ok (.ifCond .ne 5, 3) := by decide +kernel
theorem dX6_fits_60 : decode cX6_fits 60 = .ok (.iinc 4 1, 3) := by decide +kernel
theorem dX6_fits_63 : decode cX6_fits 63 = .ok (.goto (-60), 3) := by decide +kernel
theorem dX6_fits_58 : decode cX6_fits 58 = .ok (.iconst 0, 1) := by decide +kernel
theorem dX6_fits_59 : decode cX6_fits 59 = .ok (.ireturn, 1) := by decide +kernel
set_option maxRecDepth 100000 in
theorem c_X6_fits (l : Launch) (D : va_G) (cy : Nat → Nat) (n : Nat) (ad : Nat → Nat) (F : Nat → va_E) (sz : Nat) (pic : Int32) (sc ps : Scn) (sh : Nat → Shf) (rd : Rdr) (dr : Stg) (fa : Tal) (mi : Crs) (hn : 56 ≤ n) (hX : RX ad cy F pic sc ps sh rd dr fa mi) (hG : gX sc ps sh) (k : Nat) (t : Tal) (hk : k < n) (hFk : F k = oTale t) (gt : gT t) (j : Nat) (sf : Shf) (hj : j + 3 ≤ n) (hFj : RSh ad cy j F sf) (off : Int32) : Met l yX6_fits (zw yX6_fits cX6_fits 5 (some .boolean)) (rmL 5) (zPc D cy n ad F sz [.ref (ad 0), .ref (ad k), .ref (ad j), .int off]) (va_Qi (fun r F1 => r = (if bFits t sf sc off then 1 else 0) ∧ F = F1) (zB D n ad) (zA n ad sz)) 0 0 (zA n ad sz) := by
  refine zmet (by decide +kernel) (Nat.le_of_ble_eq_true rfl) (fun p e s m args below meth c ls hC hsz hZ hA hr hlocks hnm hl => ?_)
  have hC : zC p m c cX6_fits 5 s args RX6 D cy := hC
  have hx := hC.1.1
  have hb := hC.1.2.1
  have hl : lv_has ls 5 [(0, .ref (ad 0)), (1, .ref (ad k)), (2, .ref (ad j)), (3, .int off)] := hl
  refine lv_iconst (v := 0) hx hb dX6_fits_0 (by decide) ?_
  refine lv_istore (lv' := [(4, .int 0), (0, .ref (ad 0)), (1, .ref (ad k)), (2, .ref (ad j)), (3, .int off)]) hx hb dX6_fits_1 hl (by decide) rfl (fun ls hl => ?_)
  refine zlp (X := Nat) 3 (fun _ => []) (fun i ls F1 => lv_has ls 5 [(4, .int (nI i)), (0, .ref (ad 0)), (1, .ref (ad k)), (2, .ref (ad j)), (3, .int off)] ∧ F = F1 ∧ i ≤ iN sc.2.2.2.1 ∧ ∀ j, j < i → bFit t sf.2.2.1 sf.2.2.2.1 sf.2.2.2.2 sc.2.2.1 off j) (fun i => iN sc.2.2.2.1 - i) ?_ 0 hZ ⟨hl, rfl, Nat.zero_le _, fun j hj => absurd hj (Nat.not_lt_zero _)⟩
  intro i ih ls F3 H locs hZ hφ
  obtain ⟨hl, rfl, hi, hall⟩ := hφ
  have htc := tc_n hG.1
  refine lv_iload hx hb dX6_fits_3 (lv_at hl 0 rfl) ?_
  refine lv_aload_n hx hb dX6_fits_5 rfl (lv_at hl 1 rfl) ?_
  refine zget hC hZ fX6_10 (zlt hn rfl) hX.1 rfl dX6_fits_6 ?_
  refine zget hC hZ fX6_147 (zlt hn rfl) hX.2.1.1 rfl dX6_fits_9 ?_
  refine lv_icmp_ge (tgt := 66) hx hb dX6_fits_12 (by decide) (fun c_12 => ?_) (fun c_12 => ?_)
  · refine lv_iconst (v := 1) hx hb dX6_fits_66 (by decide) ?_
    have hiq : i = iN sc.2.2.2.1 := zge htc.1 (by omega) hi c_12
    have hq : (1 : Int32) = if bFits t sf sc off then 1 else 0 := (if_pos (fun j hj => hall j (by omega))).symm
    exact zbreti hC hZ hr hlocks rfl ⟨hq, rfl⟩ dX6_fits_67
  · refine lv_iload hx hb dX6_fits_15 (lv_at hl 0 rfl) ?_
    refine lv_bipush (v := 8) hx hb dX6_fits_17 (by decide) ?_
    have hlt0 := zlt2 htc.1 (by omega) c_12
    refine lv_icmp_ge (tgt := 66) hx hb dX6_fits_19 (by decide) (fun h => absurd h (by rw [Int32.not_le]; exact nI_lt (a := i) (b := 8) (by omega) (by omega))) (fun _ => ?_)
    refine lv_aload_n hx hb dX6_fits_22 rfl (lv_at hl 3 rfl) ?_
    refine lv_iload hx hb dX6_fits_23 (lv_at hl 0 rfl) ?_
    refine zgoi hZ hA (zrunV (As := [.int (nI i)]) (rest := []) (k := j) hC hZ (c_X4_tells l D cy n ad F H.size j sf hj hFj (nI i)) mX4_tells vX4_tells kX6_228 (zRj_of rfl) (by omega) hFj.1 rfl rfl hl.1 rfl (Nat.le_of_ble_eq_true rfl) dX6_fits_25 ⟨Nat.le_refl _, Nat.le_refl _⟩) (fun r_2 F_1 hp_3 H locs hZ => ?_)
    obtain ⟨hp_3, rfl⟩ := hp_3
    by_cases b_4 : bTells sf.2.2.1 sf.2.2.2.1 sf.2.2.2.2 (nI i)
    · rw [if_pos b_4] at hp_3
      subst hp_3
      refine lv_if_eq (tgt := 60) hx hb dX6_fits_28 (by decide) (fun h => absurd (show (1 : Int32) = 0 from h) (by decide)) (fun _ => ?_)
      refine lv_aload_n hx hb dX6_fits_31 rfl (lv_at hl 2 rfl) ?_
      refine lv_aload_n hx hb dX6_fits_32 rfl (lv_at hl 1 rfl) ?_
      refine zget hC hZ fX6_10 (zlt hn rfl) hX.1 rfl dX6_fits_33 ?_
      refine zget hC hZ fX6_153 (zlt hn rfl) hX.2.1.1 rfl dX6_fits_36 ?_
      refine lv_iload hx hb dX6_fits_39 (lv_at hl 0 rfl) ?_
      have hlt := zlt2 htc.1 (by omega) c_12
      have hlt8 : i < 8 := by omega
      refine zaald hC hZ (zlt hn rfl) hX.2.1.2.2.1 (C := RX3) rfl rfl hlt8 (by decide) rfl dX6_fits_41 ?_
      refine zgoi hZ hA (zrunV (As := [.ref (ad (5 + i))]) (rest := []) (k := k) hC hZ (c_X5_arch l D cy n ad F H.size k t hk hFk (5 + i) (sc.2.2.1 i) (by have := hlt8; omega) (hX.2.1.2.2.2.2 i hlt8) gt (hG.1.2.2.2.1 _ hlt8)) mX5_arch vX5_arch kX6_202 (zRj_of rfl) hk hFk rfl rfl hl.1 rfl (Nat.le_of_ble_eq_true rfl) dX6_fits_42 ⟨Nat.le_refl _, Nat.le_refl _⟩) (fun r_6 F_5 hp_7 H locs hZ => ?_)
      obtain ⟨rfl, rfl⟩ := hp_7
      refine lv_aload_n hx hb dX6_fits_45 rfl (lv_at hl 3 rfl) ?_
      refine lv_iload hx hb dX6_fits_46 (lv_at hl 0 rfl) ?_
      refine zgoi hZ hA (zrunV (As := [.int (nI i)]) (rest := [.int (sArchAt t (sc.2.2.1 i) 0)]) (k := j) hC hZ (c_X4_at l D cy n ad F H.size j sf hj hFj (nI i)) mX4_at vX4_at kX6_231 (zRj_of rfl) (by omega) hFj.1 rfl rfl hl.1 rfl (Nat.le_of_ble_eq_true rfl) dX6_fits_48 ⟨Nat.le_refl _, Nat.le_refl _⟩) (fun r_9 F_8 hp_10 H locs hZ => ?_)
      obtain ⟨rfl, rfl⟩ := hp_10
      refine lv_iload_n hx hb dX6_fits_51 rfl (lv_at hl 4 rfl) ?_
      refine zgoi hZ hA (zrunS (As := [.int (sArchAt t (sc.2.2.1 i) 0), .int (sAt sf.2.2.2.1 sf.2.2.2.2 (nI i)), .int off]) (rest := []) hC hZ (c_X6_isNear l D cy n ad F H.size (sArchAt t (sc.2.2.1 i) 0) (sAt sf.2.2.2.1 sf.2.2.2.2 (nI i)) off) mX6_isNear sX6_isNear kX6_233 (zRj_of rfl) rfl hl.1 rfl (Nat.le_of_ble_eq_true rfl) dX6_fits_52 ⟨Nat.le_refl _, Nat.le_refl _⟩) (fun r_12 F_11 hp_13 H locs hZ => ?_)
      obtain ⟨hp_13, rfl⟩ := hp_13
      by_cases b_14 : bNear (sArchAt t (sc.2.2.1 i) 0) (sAt sf.2.2.2.1 sf.2.2.2.2 (nI i)) off
      · rw [if_pos b_14] at hp_13
        subst hp_13
        refine lv_if_ne (tgt := 60) hx hb dX6_fits_55 (by decide) (fun _ => ?_) (fun h => absurd (show (1 : Int32) = 0 from h) (by decide))
        refine lv_iinc (v := nI (i + 1)) (lv' := [(4, .int (nI (i + 1))), (0, .ref (ad 0)), (1, .ref (ad k)), (2, .ref (ad j)), (3, .int off)]) hx hb dX6_fits_60 hl (k := 0) rfl (nI_1 i) (by decide) rfl (fun ls hl => ?_)
        refine lv_goto (tgt := 3) hx hb dX6_fits_63 (by decide) ?_
        have hlt := zlt2 htc.1 (by omega) c_12
        exact ih (i + 1) ls _ H locs (by show iN sc.2.2.2.1 - (i + 1) < iN sc.2.2.2.1 - i; omega) hZ ⟨(lv_sub hl [0, 1, 2, 3, 4] rfl), rfl, by omega, fun jj hj9 => by rcases Nat.lt_or_ge jj i with h9 | h9; exact hall jj h9; have e9 : jj = i := (by omega); rw [e9]; exact (fun h => h.2 b_14)⟩
      · rw [if_neg b_14] at hp_13
        subst hp_13
        refine lv_if_ne (tgt := 60) hx hb dX6_fits_55 (by decide) (fun h => absurd (show (0 : Int32) = 0 by decide) h) (fun _ => ?_)
        refine lv_iconst (v := 0) hx hb dX6_fits_58 (by decide) ?_
        have hq : (0 : Int32) = if bFits t sf sc off then 1 else 0 := (if_neg (fun h => h i (zlt2 htc.1 (by omega) c_12) ⟨b_4, b_14⟩)).symm
        exact zbreti hC hZ hr hlocks rfl ⟨hq, rfl⟩ dX6_fits_59
    · rw [if_neg b_4] at hp_3
      subst hp_3
      refine lv_if_eq (tgt := 60) hx hb dX6_fits_28 (by decide) (fun _ => ?_) (fun h => absurd (show (0 : Int32) = 0 by decide) h)
      refine lv_iinc (v := nI (i + 1)) (lv' := [(4, .int (nI (i + 1))), (0, .ref (ad 0)), (1, .ref (ad k)), (2, .ref (ad j)), (3, .int off)]) hx hb dX6_fits_60 hl (k := 0) rfl (nI_1 i) (by decide) rfl (fun ls hl => ?_)
      refine lv_goto (tgt := 3) hx hb dX6_fits_63 (by decide) ?_
      have hlt := zlt2 htc.1 (by omega) c_12
      exact ih (i + 1) ls _ H locs (by show iN sc.2.2.2.1 - (i + 1) < iN sc.2.2.2.1 - i; omega) hZ ⟨(lv_sub hl [0, 1, 2, 3, 4] rfl), rfl, by omega, fun jj hj9 => by rcases Nat.lt_or_ge jj i with h9 | h9; exact hall jj h9; have e9 : jj = i := (by omega); rw [e9]; exact (fun h => b_4 h.1)⟩

theorem mX6_filmRefusal : zMd yX6_filmRefusal cX6_filmRefusal 3 (some .int) 1 := ⟨by decide +kernel, gt_of 471 (by decide +kernel) rfl, gt_of 45 (by decide +kernel) rfl, by decide⟩
theorem dX6_filmRefusal_0 : decode cX6_filmRefusal 0 = .ok (.aload_n 0, 1) := by decide +kernel
theorem dX6_filmRefusal_1 : decode cX6_filmRefusal 1 = .ok (.iload_n 1, 1) := by decide +kernel
theorem dX6_filmRefusal_2 : decode cX6_filmRefusal 2 = .ok (.invokevirtual 115, 3) := by decide +kernel
theorem dX6_filmRefusal_5 : decode cX6_filmRefusal 5 = .ok (.istore_n 2, 1) := by decide +kernel
theorem dX6_filmRefusal_6 : decode cX6_filmRefusal 6 = .ok (.iload_n 2, 1) := by decide +kernel
theorem dX6_filmRefusal_7 : decode cX6_filmRefusal 7 = .ok (.ifCond .eq 5, 3) := by decide +kernel
theorem dX6_filmRefusal_12 : decode cX6_filmRefusal 12 = .ok (.aload_n 0, 1) := by decide +kernel
theorem dX6_filmRefusal_13 : decode cX6_filmRefusal 13 = .ok (.getfield 25, 3) := by decide +kernel
theorem dX6_filmRefusal_16 : decode cX6_filmRefusal 16 = .ok (.iload_n 1, 1) := by decide +kernel
theorem dX6_filmRefusal_17 : decode cX6_filmRefusal 17 = .ok (.aaload, 1) := by decide +kernel
theorem dX6_filmRefusal_18 : decode cX6_filmRefusal 18 = .ok (.getfield 225, 3) := by decide +kernel
theorem fX6_225 : zFld RX6 225 4 3 := ⟨RX4, TX4, 5, rfl, inX4, by decide, rfl, Or.inr ⟨"ChainLeap", List.mem_of_getElem? (i := 186) (by decide +kernel)⟩⟩
theorem dX6_filmRefusal_21 : decode cX6_filmRefusal 21 = .ok (.aload_n 0, 1) := by decide +kernel
theorem dX6_filmRefusal_22 : decode cX6_filmRefusal 22 = .ok (.getfield 10, 3) := by decide +kernel
theorem dX6_filmRefusal_25 : decode cX6_filmRefusal 25 = .ok (.getfield 147, 3) := by decide +kernel
theorem dX6_filmRefusal_28 : decode cX6_filmRefusal 28 = .ok (.if_icmp .ne 7, 3) := by decide +kernel
theorem dX6_filmRefusal_35 : decode cX6_filmRefusal 35 = .ok (.bipush (-13), 2) := by decide +kernel
theorem dX6_filmRefusal_37 : decode cX6_filmRefusal 37 = .ok (.ireturn, 1) := by decide +kernel
theorem dX6_filmRefusal_31 : decode cX6_filmRefusal 31 = .ok (.iconst 0, 1) := by decide +kernel
theorem dX6_filmRefusal_32 : decode cX6_filmRefusal 32 = .ok (.goto 5, 3) := by decide +kernel
theorem dX6_filmRefusal_10 : decode cX6_filmRefusal 10 = .ok (.iload_n 2, 1) := by decide +kernel
theorem dX6_filmRefusal_11 : decode cX6_filmRefusal 11 = .ok (.ireturn, 1) := by decide +kernel
set_option maxRecDepth 100000 in
theorem c_X6_filmRefusal (l : Launch) (D : va_G) (cy : Nat → Nat) (n : Nat) (ad : Nat → Nat) (F : Nat → va_E) (sz : Nat) (pic : Int32) (sc ps : Scn) (sh : Nat → Shf) (rd : Rdr) (dr : Stg) (fa : Tal) (mi : Crs) (hn : 56 ≤ n) (hX : RX ad cy F pic sc ps sh rd dr fa mi) (d : Int32) : Met l yX6_filmRefusal (zw yX6_filmRefusal cX6_filmRefusal 3 (some .int)) (rmL 3) (zPc D cy n ad F sz [.ref (ad 0), .int d]) (va_Qi (fun r F1 => r = sFilmR sc sh d ∧ F = F1) (zB D n ad) (zA n ad sz)) 0 0 (zA n ad sz) := by
  refine zmet (by decide +kernel) (Nat.le_of_ble_eq_true rfl) (fun p e s m args below meth c ls hC hsz hZ hA hr hlocks hnm hl => ?_)
  have hC : zC p m c cX6_filmRefusal 3 s args RX6 D cy := hC
  have hx := hC.1.1
  have hb := hC.1.2.1
  have hl : lv_has ls 3 [(0, .ref (ad 0)), (1, .int d)] := hl
  refine lv_aload_n hx hb dX6_filmRefusal_0 rfl (lv_at hl 0 rfl) ?_
  refine lv_iload_n hx hb dX6_filmRefusal_1 rfl (lv_at hl 1 rfl) ?_
  refine zgoi hZ hA (zrunV (As := [.int d]) (rest := []) (k := 0) hC hZ (c_X6_rowRefusal l D cy n ad F s.heap.size pic sc ps sh rd dr fa mi hn hX d) mX6_rowRefusal vX6_rowRefusal kX6_115 (zRj_of rfl) (zlt hn rfl) hX.1 rfl rfl hl.1 rfl (Nat.le_of_ble_eq_true rfl) dX6_filmRefusal_2 ⟨Nat.le_refl _, Nat.le_refl _⟩) (fun r_2 F_1 hp_3 H locs hZ => ?_)
  obtain ⟨rfl, rfl⟩ := hp_3
  refine lv_istore_n (lv' := [(2, .int (sRowR sh d)), (0, .ref (ad 0)), (1, .int d)]) hx hb dX6_filmRefusal_5 rfl hl (by decide) rfl (fun ls hl => ?_)
  refine lv_iload_n hx hb dX6_filmRefusal_6 rfl (lv_at hl 0 rfl) ?_
  refine lv_if_eq (tgt := 12) hx hb dX6_filmRefusal_7 (by decide) (fun c_7 => ?_) (fun c_7 => ?_)
  · refine lv_aload_n hx hb dX6_filmRefusal_12 rfl (lv_at hl 1 rfl) ?_
    refine zget hC hZ fX6_25 (zlt hn rfl) hX.1 rfl dX6_filmRefusal_13 ?_
    refine lv_iload_n hx hb dX6_filmRefusal_16 rfl (lv_at hl 2 rfl) ?_
    have hs_4 := sRowR_0 c_7
    refine zaald hC hZ (zlt hn rfl) hX.2.2.2.1 (C := RX4) rfl hs_4.1.1 hs_4.1.2 (by decide) rfl dX6_filmRefusal_17 ?_
    refine zget hC hZ fX6_225 (by have := hs_4.1.2; omega) (hX.2.2.2.2.1 (iN d) hs_4.1.2).1 rfl dX6_filmRefusal_18 ?_
    refine lv_aload_n hx hb dX6_filmRefusal_21 rfl (lv_at hl 1 rfl) ?_
    refine zget hC hZ fX6_10 (zlt hn rfl) hX.1 rfl dX6_filmRefusal_22 ?_
    refine zget hC hZ fX6_147 (zlt hn rfl) hX.2.1.1 rfl dX6_filmRefusal_25 ?_
    refine lv_icmp_ne (tgt := 35) hx hb dX6_filmRefusal_28 (by decide) (fun c_28 => ?_) (fun c_28 => ?_)
    · refine lv_bipush (v := (-13)) hx hb dX6_filmRefusal_35 (by decide) ?_
      have hq : (-13 : Int32) = sFilmR sc sh d := by unfold sFilmR; rw [if_pos c_7, if_neg c_28]
      exact zireti hC hZ hr hlocks ⟨hq, rfl⟩ dX6_filmRefusal_37
    · refine lv_iconst (v := 0) hx hb dX6_filmRefusal_31 (by decide) ?_
      refine lv_goto (tgt := 37) hx hb dX6_filmRefusal_32 (by decide) ?_
      have hq : (0 : Int32) = sFilmR sc sh d := by unfold sFilmR; rw [if_pos c_7, if_pos c_28]
      exact zireti hC hZ hr hlocks ⟨hq, rfl⟩ dX6_filmRefusal_37
  · refine lv_iload_n hx hb dX6_filmRefusal_10 rfl (lv_at hl 0 rfl) ?_
    have hq : sRowR sh d = sFilmR sc sh d := (if_neg c_7).symm
    exact zireti hC hZ hr hlocks ⟨hq, rfl⟩ dX6_filmRefusal_11

theorem mX6_films : zMd yX6_films cX6_films 8 (some .int) 3 := ⟨by decide +kernel, gt_of 467 (by decide +kernel) rfl, gt_of 45 (by decide +kernel) rfl, by decide⟩
theorem dX6_films_0 : decode cX6_films 0 = .ok (.iload_n 2, 1) := by decide +kernel
theorem dX6_films_1 : decode cX6_films 1 = .ok (.iconst 0, 1) := by decide +kernel
theorem dX6_films_2 : decode cX6_films 2 = .ok (.bipush 40, 2) := by decide +kernel
theorem dX6_films_4 : decode cX6_films 4 = .ok (.invokestatic 111, 3) := by decide +kernel
theorem dX6_films_7 : decode cX6_films 7 = .ok (.ifCond .eq 18, 3) := by decide +kernel
theorem dX6_films_10 : decode cX6_films 10 = .ok (.iload_n 3, 1) := by decide +kernel
theorem dX6_films_11 : decode cX6_films 11 = .ok (.iconst 0, 1) := by decide +kernel
theorem dX6_films_12 : decode cX6_films 12 = .ok (.sipush 9999, 3) := by decide +kernel
theorem dX6_films_15 : decode cX6_films 15 = .ok (.invokestatic 111, 3) := by decide +kernel
theorem dX6_films_18 : decode cX6_films 18 = .ok (.ifCond .eq 7, 3) := by decide +kernel
theorem dX6_films_21 : decode cX6_films 21 = .ok (.iconst 1, 1) := by decide +kernel
theorem dX6_films_22 : decode cX6_films 22 = .ok (.goto 4, 3) := by decide +kernel
theorem dX6_films_26 : decode cX6_films 26 = .ok (.istore 4, 2) := by decide +kernel
theorem dX6_films_28 : decode cX6_films 28 = .ok (.iload 4, 2) := by decide +kernel
theorem dX6_films_30 : decode cX6_films 30 = .ok (.ifCond .eq 11, 3) := by decide +kernel
theorem dX6_films_33 : decode cX6_films 33 = .ok (.aload_n 0, 1) := by decide +kernel
theorem dX6_films_34 : decode cX6_films 34 = .ok (.iload_n 1, 1) := by decide +kernel
theorem dX6_films_35 : decode cX6_films 35 = .ok (.invokevirtual 214, 3) := by decide +kernel
theorem kX6_214 : zLk RX6 214 yX6_filmRefusal := Or.inl (gt_of 468 (by decide +kernel) rfl)
theorem vX6_filmRefusal : zMi yX6_filmRefusal := ⟨gt_of 470 (by decide +kernel) rfl, gt_of 13 (by decide +kernel) rfl⟩
theorem dX6_films_38 : decode cX6_films 38 = .ok (.goto 4, 3) := by decide +kernel
theorem dX6_films_42 : decode cX6_films 42 = .ok (.istore 5, 2) := by decide +kernel
theorem dX6_films_44 : decode cX6_films 44 = .ok (.iload 5, 2) := by decide +kernel
theorem dX6_films_46 : decode cX6_films 46 = .ok (.ifCond .eq 6, 3) := by decide +kernel
theorem dX6_films_52 : decode cX6_films 52 = .ok (.iconst 0, 1) := by decide +kernel
theorem dX6_films_53 : decode cX6_films 53 = .ok (.istore 6, 2) := by decide +kernel
theorem dX6_films_55 : decode cX6_films 55 = .ok (.iconst 0, 1) := by decide +kernel
theorem dX6_films_56 : decode cX6_films 56 = .ok (.istore 7, 2) := by decide +kernel
theorem dX6_films_58 : decode cX6_films 58 = .ok (.iload 7, 2) := by decide +kernel
theorem dX6_films_60 : decode cX6_films 60 = .ok (.bipush 8, 2) := by decide +kernel
theorem dX6_films_62 : decode cX6_films 62 = .ok (.if_icmp .ge 46, 3) := by decide +kernel
theorem dX6_films_108 : decode cX6_films 108 = .ok (.iload 6, 2) := by decide +kernel
theorem dX6_films_110 : decode cX6_films 110 = .ok (.ireturn, 1) := by decide +kernel
theorem dX6_films_65 : decode cX6_films 65 = .ok (.aload_n 0, 1) := by decide +kernel
theorem dX6_films_66 : decode cX6_films 66 = .ok (.getfield 47, 3) := by decide +kernel
theorem fX6_47 : zFld RX6 47 6 6 := ⟨RX6, TX6, 9, rfl, inX6, by decide, rfl, Or.inl (gt_of 234 (by decide +kernel) rfl)⟩
theorem dX6_films_69 : decode cX6_films 69 = .ok (.iload 7, 2) := by decide +kernel
theorem dX6_films_71 : decode cX6_films 71 = .ok (.iload_n 2, 1) := by decide +kernel
theorem dX6_films_72 : decode cX6_films 72 = .ok (.invokevirtual 217, 3) := by decide +kernel
theorem kX6_217 : zLk RX6 217 yX5_become := Or.inl (gt_of 472 (by decide +kernel) rfl)
theorem dX6_films_75 : decode cX6_films 75 = .ok (.aload_n 0, 1) := by decide +kernel
theorem dX6_films_76 : decode cX6_films 76 = .ok (.aload_n 0, 1) := by decide +kernel
theorem dX6_films_77 : decode cX6_films 77 = .ok (.getfield 47, 3) := by decide +kernel
theorem dX6_films_80 : decode cX6_films 80 = .ok (.aload_n 0, 1) := by decide +kernel
theorem dX6_films_81 : decode cX6_films 81 = .ok (.getfield 25, 3) := by decide +kernel
theorem dX6_films_84 : decode cX6_films 84 = .ok (.iload_n 1, 1) := by decide +kernel
theorem dX6_films_85 : decode cX6_films 85 = .ok (.aaload, 1) := by decide +kernel
theorem dX6_films_86 : decode cX6_films 86 = .ok (.iload_n 3, 1) := by decide +kernel
theorem dX6_films_87 : decode cX6_films 87 = .ok (.invokevirtual 221, 3) := by decide +kernel
theorem kX6_221 : zLk RX6 221 yX6_fits := Or.inl (gt_of 476 (by decide +kernel) rfl)
theorem vX6_fits : zMi yX6_fits := ⟨gt_of 478 (by decide +kernel) rfl, gt_of 14 (by decide +kernel) rfl⟩
theorem dX6_films_90 : decode cX6_films 90 = .ok (.ifCond .eq 12, 3) := by decide +kernel
theorem dX6_films_93 : decode cX6_films 93 = .ok (.iload 6, 2) := by decide +kernel
theorem dX6_films_95 : decode cX6_films 95 = .ok (.iconst 1, 1) := by decide +kernel
theorem dX6_films_96 : decode cX6_films 96 = .ok (.iload 7, 2) := by decide +kernel
theorem dX6_films_98 : decode cX6_films 98 = .ok (.ishl, 1) := by decide +kernel
theorem dX6_films_99 : decode cX6_films 99 = .ok (.ior, 1) := by decide +kernel
theorem dX6_films_100 : decode cX6_films 100 = .ok (.istore 6, 2) := by decide +kernel
theorem dX6_films_102 : decode cX6_films 102 = .ok (.iinc 7 1, 3) := by decide +kernel
theorem dX6_films_105 : decode cX6_films 105 = .ok (.goto (-47), 3) := by decide +kernel
theorem dX6_films_49 : decode cX6_films 49 = .ok (.iload 5, 2) := by decide +kernel
theorem dX6_films_51 : decode cX6_films 51 = .ok (.ireturn, 1) := by decide +kernel
theorem dX6_films_25 : decode cX6_films 25 = .ok (.iconst 0, 1) := by decide +kernel
theorem dX6_films_41 : decode cX6_films 41 = .ok (.iconst (-1), 1) := by decide +kernel
set_option maxRecDepth 100000 in
theorem c_X6_films (l : Launch) (D : va_G) (cy : Nat → Nat) (n : Nat) (ad : Nat → Nat) (F : Nat → va_E) (sz : Nat) (pic : Int32) (sc ps : Scn) (sh : Nat → Shf) (rd : Rdr) (dr : Stg) (fa : Tal) (mi : Crs) (hn : 56 ≤ n) (hX : RX ad cy F pic sc ps sh rd dr fa mi) (hG : gX sc ps sh) (d fg off : Int32) : Met l yX6_films (zw yX6_films cX6_films 8 (some .int)) (rmL 6) (zPc D cy n ad F sz [.ref (ad 0), .int d, .int fg, .int off]) (va_Qi (fun r F1 => r = zr (bIn fg 0 40 ∧ bIn off 0 9999) (sFilmR sc sh d) (zfold (sFilmF sc (sh (iN d)) fg off) 8 0) ∧ ∃ fa1, RX ad cy F1 pic sc ps sh rd dr fa1 mi ∧ fr56 F F1) (zB D n ad) (zA n ad sz)) 0 0 (zA n ad sz) := by
  refine zmet (by decide +kernel) (Nat.le_of_ble_eq_true rfl) (fun p e s m args below meth c ls hC hsz hZ hA hr hlocks hnm hl => ?_)
  have hC : zC p m c cX6_films 8 s args RX6 D cy := hC
  have hx := hC.1.1
  have hb := hC.1.2.1
  have hl : lv_has ls 8 [(0, .ref (ad 0)), (1, .int d), (2, .int fg), (3, .int off)] := hl
  refine lv_iload_n hx hb dX6_films_0 rfl (lv_at hl 2 rfl) ?_
  refine lv_iconst (v := 0) hx hb dX6_films_1 (by decide) ?_
  refine lv_bipush (v := 40) hx hb dX6_films_2 (by decide) ?_
  refine zgoi hZ hA (zrunS (As := [.int fg, .int 0, .int 40]) (rest := []) hC hZ (c_X6_isWithin l D cy n ad F s.heap.size fg 0 40) mX6_isWithin sX6_isWithin kX6_111 (zRj_of rfl) rfl hl.1 rfl (Nat.le_of_ble_eq_true rfl) dX6_films_4 ⟨Nat.le_refl _, Nat.le_refl _⟩) (fun r_2 F_1 hp_3 H locs hZ => ?_)
  obtain ⟨hp_3, rfl⟩ := hp_3
  by_cases b_4 : bIn fg 0 40
  · rw [if_pos b_4] at hp_3
    subst hp_3
    refine lv_if_eq (tgt := 25) hx hb dX6_films_7 (by decide) (fun h => absurd (show (1 : Int32) = 0 from h) (by decide)) (fun _ => ?_)
    refine lv_iload_n hx hb dX6_films_10 rfl (lv_at hl 3 rfl) ?_
    refine lv_iconst (v := 0) hx hb dX6_films_11 (by decide) ?_
    refine lv_sipush (v := 9999) hx hb dX6_films_12 (by decide) ?_
    refine zgoi hZ hA (zrunS (As := [.int off, .int 0, .int 9999]) (rest := []) hC hZ (c_X6_isWithin l D cy n ad F H.size off 0 9999) mX6_isWithin sX6_isWithin kX6_111 (zRj_of rfl) rfl hl.1 rfl (Nat.le_of_ble_eq_true rfl) dX6_films_15 ⟨Nat.le_refl _, Nat.le_refl _⟩) (fun r_6 F_5 hp_7 H locs hZ => ?_)
    obtain ⟨hp_7, rfl⟩ := hp_7
    by_cases b_8 : bIn off 0 9999
    · rw [if_pos b_8] at hp_7
      subst hp_7
      refine lv_if_eq (tgt := 25) hx hb dX6_films_18 (by decide) (fun h => absurd (show (1 : Int32) = 0 from h) (by decide)) (fun _ => ?_)
      refine lv_iconst (v := 1) hx hb dX6_films_21 (by decide) ?_
      refine lv_goto (tgt := 26) hx hb dX6_films_22 (by decide) ?_
      refine lv_istore (lv' := [(4, .int 1), (0, .ref (ad 0)), (1, .int d), (2, .int fg), (3, .int off)]) hx hb dX6_films_26 hl (by decide) rfl (fun ls hl => ?_)
      refine lv_iload hx hb dX6_films_28 (lv_at hl 0 rfl) ?_
      refine lv_if_eq (tgt := 41) hx hb dX6_films_30 (by decide) (fun h => absurd (show (1 : Int32) = 0 from h) (by decide)) (fun _ => ?_)
      refine lv_aload_n hx hb dX6_films_33 rfl (lv_at hl 1 rfl) ?_
      refine lv_iload_n hx hb dX6_films_34 rfl (lv_at hl 2 rfl) ?_
      refine zgoi hZ hA (zrunV (As := [.int d]) (rest := []) (k := 0) hC hZ (c_X6_filmRefusal l D cy n ad F H.size pic sc ps sh rd dr fa mi hn hX d) mX6_filmRefusal vX6_filmRefusal kX6_214 (zRj_of rfl) (zlt hn rfl) hX.1 rfl rfl hl.1 rfl (Nat.le_of_ble_eq_true rfl) dX6_films_35 ⟨Nat.le_refl _, Nat.le_refl _⟩) (fun r_10 F_9 hp_11 H locs hZ => ?_)
      obtain ⟨rfl, rfl⟩ := hp_11
      refine lv_goto (tgt := 42) hx hb dX6_films_38 (by decide) ?_
      refine lv_istore (lv' := [(5, .int (sFilmR sc sh d)), (4, .int 1), (0, .ref (ad 0)), (1, .int d), (2, .int fg), (3, .int off)]) hx hb dX6_films_42 hl (by decide) rfl (fun ls hl => ?_)
      refine lv_iload hx hb dX6_films_44 (lv_at hl 0 rfl) ?_
      refine lv_if_eq (tgt := 52) hx hb dX6_films_46 (by decide) (fun c_46 => ?_) (fun c_46 => ?_)
      · refine lv_iconst (v := 0) hx hb dX6_films_52 (by decide) ?_
        refine lv_istore (lv' := [(6, .int 0), (5, .int (sFilmR sc sh d)), (4, .int 1), (0, .ref (ad 0)), (1, .int d), (2, .int fg), (3, .int off)]) hx hb dX6_films_53 hl (by decide) rfl (fun ls hl => ?_)
        refine lv_iconst (v := 0) hx hb dX6_films_55 (by decide) ?_
        refine lv_istore (lv' := [(7, .int 0), (6, .int 0), (5, .int (sFilmR sc sh d)), (4, .int 1), (0, .ref (ad 0)), (1, .int d), (2, .int fg), (3, .int off)]) hx hb dX6_films_56 hl (by decide) rfl (fun ls hl => ?_)
        have hsf := sFilmR_0 c_46
        refine zlp (X := Nat × Int32 × Tal) 58 (fun _ => []) (fun x ls F1 => lv_has ls 8 [(7, .int (nI x.1)), (6, .int x.2.1), (5, .int (sFilmR sc sh d)), (4, .int 1), (0, .ref (ad 0)), (1, .int d), (2, .int fg), (3, .int off)] ∧ RX ad cy F1 pic sc ps sh rd dr x.2.2 mi ∧ fr56 F F1 ∧ (x.1 ≤ 8) ∧ (x.2.1 = zfold (sFilmF sc (sh (iN d)) fg off) x.1 0)) (fun x => 8 - x.1) ?_ (0, 0, fa) hZ ⟨hl, hX, fr56_rf, (Nat.zero_le _), rfl⟩
        intro x ih58 ls F3_58 H locs hZ hφ
        obtain ⟨i, bt, fv⟩ := x
        obtain ⟨hl, hXl, hfl58, hi, hp⟩ := hφ
        have hl : lv_has ls 8 [(7, .int (nI i)), (6, .int bt), (5, .int (sFilmR sc sh d)), (4, .int 1), (0, .ref (ad 0)), (1, .int d), (2, .int fg), (3, .int off)] := hl
        have hX58 : RX ad cy F3_58 pic sc ps sh rd dr fv mi := hXl
        have hi : i ≤ 8 := hi
        have hp : bt = zfold (sFilmF sc (sh (iN d)) fg off) i 0 := hp
        refine lv_iload hx hb dX6_films_58 (lv_at hl 0 rfl) ?_
        refine lv_bipush (v := 8) hx hb dX6_films_60 (by decide) ?_
        refine lv_icmp_ge (tgt := 108) hx hb dX6_films_62 (by decide) (fun c_62 => ?_) (fun c_62 => ?_)
        · refine lv_iload hx hb dX6_films_108 (lv_at hl 1 rfl) ?_
          have hiq : i = 8 := by have := nIge (N := 8) c_62 (by omega) rfl; omega
          have hv_13 : bt = zfold (sFilmF sc (sh (iN d)) fg off) 8 0 := by rw [hp, hiq]
          have hq_12 : bt = zr (bIn fg 0 40 ∧ bIn off 0 9999) ((sFilmR sc sh d)) (zfold (sFilmF sc (sh (iN d)) fg off) 8 0) := hv_13.trans (zr_ok ⟨b_4, b_8⟩ c_46).symm
          exact zireti hC hZ hr hlocks ⟨hq_12, fv, hX58, hfl58⟩ dX6_films_110
        · refine lv_aload_n hx hb dX6_films_65 rfl (lv_at hl 4 rfl) ?_
          refine zget hC hZ fX6_47 (zlt hn rfl) hX58.1 rfl dX6_films_66 ?_
          refine lv_iload hx hb dX6_films_69 (lv_at hl 0 rfl) ?_
          refine lv_iload_n hx hb dX6_films_71 rfl (lv_at hl 6 rfl) ?_
          refine zgov hZ hA (zrunV (As := [.int (nI i), .int fg]) (rest := []) (k := 53) hC hZ (c_X5_become l D cy n ad F3_58 H.size 53 fv (zlt hn rfl) hX58.2.2.2.2.2.2.2.1 (nI i) fg) mX5_become vX5_become kX6_217 (zRj_of rfl) (zlt hn rfl) hX58.2.2.2.2.2.2.2.1 rfl rfl hl.1 rfl (Nat.le_of_ble_eq_true rfl) dX6_films_72 ⟨Nat.le_refl _, Nat.le_refl _⟩) (fun F_14 hp_16 H locs hZ => ?_)
          have hX_17 := rx_fancy hX58 hp_16
          have hf_18 := fr56_up hfl58 hp_16 (by decide)
          have hX_17 : RX ad cy F_14 pic sc ps sh rd dr (nI i, fg) mi := hX_17
          refine lv_aload_n hx hb dX6_films_75 rfl (lv_at hl 4 rfl) ?_
          refine lv_aload_n hx hb dX6_films_76 rfl (lv_at hl 4 rfl) ?_
          refine zget hC hZ fX6_47 (zlt hn rfl) hX_17.1 rfl dX6_films_77 ?_
          refine lv_aload_n hx hb dX6_films_80 rfl (lv_at hl 4 rfl) ?_
          refine zget hC hZ fX6_25 (zlt hn rfl) hX_17.1 rfl dX6_films_81 ?_
          refine lv_iload_n hx hb dX6_films_84 rfl (lv_at hl 5 rfl) ?_
          refine zaald hC hZ (zlt hn rfl) hX_17.2.2.2.1 (C := RX4) rfl hsf.1.1 hsf.1.2 (by decide) rfl dX6_films_85 ?_
          refine lv_iload_n hx hb dX6_films_86 rfl (lv_at hl 7 rfl) ?_
          refine zgoi hZ hA (zrunV (As := [.ref (ad 53), .ref (ad (26 + 3 * (iN d))), .int off]) (rest := []) (k := 0) hC hZ (c_X6_fits l D cy n ad F_14 H.size pic sc ps sh rd dr (nI i, fg) mi hn hX_17 hG 53 (nI i, fg) (zlt hn rfl) hX_17.2.2.2.2.2.2.2.1 (gTn (by have := nIlt (N := 8) c_62 (by omega) rfl; omega) b_4) (26 + 3 * (iN d)) (sh (iN d)) (by have := hsf.1.2; omega) (hX_17.2.2.2.2.1 (iN d) hsf.1.2) off) mX6_fits vX6_fits kX6_221 (zRj_of rfl) (zlt hn rfl) hX_17.1 rfl rfl hl.1 rfl (Nat.le_of_ble_eq_true rfl) dX6_films_87 ⟨Nat.le_refl _, Nat.le_refl _⟩) (fun r_20 F_19 hp_21 H locs hZ => ?_)
          obtain ⟨hp_21, rfl⟩ := hp_21
          by_cases b_22 : bFits (nI i, fg) (sh (iN d)) sc off
          · rw [if_pos b_22] at hp_21
            subst hp_21
            refine lv_if_eq (tgt := 102) hx hb dX6_films_90 (by decide) (fun h => absurd (show (1 : Int32) = 0 from h) (by decide)) (fun _ => ?_)
            refine lv_iload hx hb dX6_films_93 (lv_at hl 1 rfl) ?_
            refine lv_iconst (v := 1) hx hb dX6_films_95 (by decide) ?_
            refine lv_iload hx hb dX6_films_96 (lv_at hl 0 rfl) ?_
            refine lv_ishl hx hb dX6_films_98 ?_
            refine lv_ior hx hb dX6_films_99 ?_
            refine lv_istore (lv' := [(6, .int (bt ||| (1 <<< (nI i &&& 31)))), (7, .int (nI i)), (5, .int (sFilmR sc sh d)), (4, .int 1), (0, .ref (ad 0)), (1, .int d), (2, .int fg), (3, .int off)]) hx hb dX6_films_100 hl (by decide) rfl (fun ls hl => ?_)
            refine lv_iinc (v := nI (i + 1)) (lv' := [(7, .int (nI (i + 1))), (6, .int (bt ||| (1 <<< (nI i &&& 31)))), (5, .int (sFilmR sc sh d)), (4, .int 1), (0, .ref (ad 0)), (1, .int d), (2, .int fg), (3, .int off)]) hx hb dX6_films_102 hl (k := 1) rfl (nI_1 i) (by decide) rfl (fun ls hl => ?_)
            refine lv_goto (tgt := 58) hx hb dX6_films_105 (by decide) ?_
            have hlt := nIlt (N := 8) c_62 (by omega) rfl
            exact ih58 ((i + 1), (bt ||| (1 <<< (nI i &&& 31))), (nI i, fg)) ls _ H locs (by show 8 - (i + 1) < 8 - i; omega) hZ ⟨hl, hX_17, hf_18, (by omega), (by show (bt ||| (1 <<< (nI i &&& 31))) = (sFilmF sc (sh (iN d)) fg off) i (zfold (sFilmF sc (sh (iN d)) fg off) i 0); rw [← hp]; exact (if_pos b_22).symm)⟩
          · rw [if_neg b_22] at hp_21
            subst hp_21
            refine lv_if_eq (tgt := 102) hx hb dX6_films_90 (by decide) (fun _ => ?_) (fun h => absurd (show (0 : Int32) = 0 by decide) h)
            refine lv_iinc (v := nI (i + 1)) (lv' := [(7, .int (nI (i + 1))), (6, .int bt), (5, .int (sFilmR sc sh d)), (4, .int 1), (0, .ref (ad 0)), (1, .int d), (2, .int fg), (3, .int off)]) hx hb dX6_films_102 hl (k := 0) rfl (nI_1 i) (by decide) rfl (fun ls hl => ?_)
            refine lv_goto (tgt := 58) hx hb dX6_films_105 (by decide) ?_
            have hlt := nIlt (N := 8) c_62 (by omega) rfl
            exact ih58 ((i + 1), bt, (nI i, fg)) ls _ H locs (by show 8 - (i + 1) < 8 - i; omega) hZ ⟨hl, hX_17, hf_18, (by omega), (by show bt = (sFilmF sc (sh (iN d)) fg off) i (zfold (sFilmF sc (sh (iN d)) fg off) i 0); rw [← hp]; exact (if_neg b_22).symm)⟩
      · refine lv_iload hx hb dX6_films_49 (lv_at hl 0 rfl) ?_
        have hq_23 : (sFilmR sc sh d) = zr (bIn fg 0 40 ∧ bIn off 0 9999) ((sFilmR sc sh d)) (zfold (sFilmF sc (sh (iN d)) fg off) 8 0) := (zr_rf ⟨b_4, b_8⟩ c_46).symm
        exact zireti hC hZ hr hlocks ⟨hq_23, fa, hX, fr56_rf⟩ dX6_films_51
    · rw [if_neg b_8] at hp_7
      subst hp_7
      refine lv_if_eq (tgt := 25) hx hb dX6_films_18 (by decide) (fun _ => ?_) (fun h => absurd (show (0 : Int32) = 0 by decide) h)
      refine lv_iconst (v := 0) hx hb dX6_films_25 (by decide) ?_
      refine lv_istore (lv' := [(4, .int 0), (0, .ref (ad 0)), (1, .int d), (2, .int fg), (3, .int off)]) hx hb dX6_films_26 hl (by decide) rfl (fun ls hl => ?_)
      refine lv_iload hx hb dX6_films_28 (lv_at hl 0 rfl) ?_
      refine lv_if_eq (tgt := 41) hx hb dX6_films_30 (by decide) (fun _ => ?_) (fun h => absurd (show (0 : Int32) = 0 by decide) h)
      refine lv_iconst (v := (-1)) hx hb dX6_films_41 (by decide) ?_
      refine lv_istore (lv' := [(5, .int (-1)), (4, .int 0), (0, .ref (ad 0)), (1, .int d), (2, .int fg), (3, .int off)]) hx hb dX6_films_42 hl (by decide) rfl (fun ls hl => ?_)
      refine lv_iload hx hb dX6_films_44 (lv_at hl 0 rfl) ?_
      refine lv_if_eq (tgt := 52) hx hb dX6_films_46 (by decide) (fun h => absurd (show (-1 : Int32) = 0 from h) (by decide)) (fun _ => ?_)
      refine lv_iload hx hb dX6_films_49 (lv_at hl 0 rfl) ?_
      have hq_24 : (-1 : Int32) = zr (bIn fg 0 40 ∧ bIn off 0 9999) ((sFilmR sc sh d)) (zfold (sFilmF sc (sh (iN d)) fg off) 8 0) := (zr_no (fun h => b_8 h.2)).symm
      exact zireti hC hZ hr hlocks ⟨hq_24, fa, hX, fr56_rf⟩ dX6_films_51
  · rw [if_neg b_4] at hp_3
    subst hp_3
    refine lv_if_eq (tgt := 25) hx hb dX6_films_7 (by decide) (fun _ => ?_) (fun h => absurd (show (0 : Int32) = 0 by decide) h)
    refine lv_iconst (v := 0) hx hb dX6_films_25 (by decide) ?_
    refine lv_istore (lv' := [(4, .int 0), (0, .ref (ad 0)), (1, .int d), (2, .int fg), (3, .int off)]) hx hb dX6_films_26 hl (by decide) rfl (fun ls hl => ?_)
    refine lv_iload hx hb dX6_films_28 (lv_at hl 0 rfl) ?_
    refine lv_if_eq (tgt := 41) hx hb dX6_films_30 (by decide) (fun _ => ?_) (fun h => absurd (show (0 : Int32) = 0 by decide) h)
    refine lv_iconst (v := (-1)) hx hb dX6_films_41 (by decide) ?_
    refine lv_istore (lv' := [(5, .int (-1)), (4, .int 0), (0, .ref (ad 0)), (1, .int d), (2, .int fg), (3, .int off)]) hx hb dX6_films_42 hl (by decide) rfl (fun ls hl => ?_)
    refine lv_iload hx hb dX6_films_44 (lv_at hl 0 rfl) ?_
    refine lv_if_eq (tgt := 52) hx hb dX6_films_46 (by decide) (fun h => absurd (show (-1 : Int32) = 0 from h) (by decide)) (fun _ => ?_)
    refine lv_iload hx hb dX6_films_49 (lv_at hl 0 rfl) ?_
    have hq_25 : (-1 : Int32) = zr (bIn fg 0 40 ∧ bIn off 0 9999) ((sFilmR sc sh d)) (zfold (sFilmF sc (sh (iN d)) fg off) 8 0) := (zr_no (fun h => b_4 h.1)).symm
    exact zireti hC hZ hr hlocks ⟨hq_25, fa, hX, fr56_rf⟩ dX6_films_51

theorem mX6_numbers : zMd yX6_numbers cX6_numbers 11 (some .int) 4 := ⟨by decide +kernel, gt_of 496 (by decide +kernel) rfl, gt_of 45 (by decide +kernel) rfl, by decide⟩
theorem dX6_numbers_0 : decode cX6_numbers 0 = .ok (.iload_n 2, 1) := by decide +kernel
theorem dX6_numbers_1 : decode cX6_numbers 1 = .ok (.iconst 0, 1) := by decide +kernel
theorem dX6_numbers_2 : decode cX6_numbers 2 = .ok (.bipush 7, 2) := by decide +kernel
theorem dX6_numbers_4 : decode cX6_numbers 4 = .ok (.invokestatic 111, 3) := by decide +kernel
theorem dX6_numbers_7 : decode cX6_numbers 7 = .ok (.ifCond .eq 28, 3) := by decide +kernel
theorem dX6_numbers_10 : decode cX6_numbers 10 = .ok (.iload_n 3, 1) := by decide +kernel
theorem dX6_numbers_11 : decode cX6_numbers 11 = .ok (.iconst 0, 1) := by decide +kernel
theorem dX6_numbers_12 : decode cX6_numbers 12 = .ok (.sipush 9999, 3) := by decide +kernel
theorem dX6_numbers_15 : decode cX6_numbers 15 = .ok (.invokestatic 111, 3) := by decide +kernel
theorem dX6_numbers_18 : decode cX6_numbers 18 = .ok (.ifCond .eq 17, 3) := by decide +kernel
theorem dX6_numbers_21 : decode cX6_numbers 21 = .ok (.iload 4, 2) := by decide +kernel
theorem dX6_numbers_23 : decode cX6_numbers 23 = .ok (.iconst 0, 1) := by decide +kernel
theorem dX6_numbers_24 : decode cX6_numbers 24 = .ok (.iconst 2, 1) := by decide +kernel
theorem dX6_numbers_25 : decode cX6_numbers 25 = .ok (.invokestatic 111, 3) := by decide +kernel
theorem dX6_numbers_28 : decode cX6_numbers 28 = .ok (.ifCond .eq 7, 3) := by decide +kernel
theorem dX6_numbers_31 : decode cX6_numbers 31 = .ok (.iconst 1, 1) := by decide +kernel
theorem dX6_numbers_32 : decode cX6_numbers 32 = .ok (.goto 4, 3) := by decide +kernel
theorem dX6_numbers_36 : decode cX6_numbers 36 = .ok (.istore 5, 2) := by decide +kernel
theorem dX6_numbers_38 : decode cX6_numbers 38 = .ok (.iload 5, 2) := by decide +kernel
theorem dX6_numbers_40 : decode cX6_numbers 40 = .ok (.ifCond .eq 11, 3) := by decide +kernel
theorem dX6_numbers_43 : decode cX6_numbers 43 = .ok (.aload_n 0, 1) := by decide +kernel
theorem dX6_numbers_44 : decode cX6_numbers 44 = .ok (.iload_n 1, 1) := by decide +kernel
theorem dX6_numbers_45 : decode cX6_numbers 45 = .ok (.invokevirtual 214, 3) := by decide +kernel
theorem dX6_numbers_48 : decode cX6_numbers 48 = .ok (.goto 4, 3) := by decide +kernel
theorem dX6_numbers_52 : decode cX6_numbers 52 = .ok (.istore 6, 2) := by decide +kernel
theorem dX6_numbers_54 : decode cX6_numbers 54 = .ok (.iload 6, 2) := by decide +kernel
theorem dX6_numbers_56 : decode cX6_numbers 56 = .ok (.ifCond .eq 6, 3) := by decide +kernel
theorem dX6_numbers_62 : decode cX6_numbers 62 = .ok (.bipush (-4), 2) := by decide +kernel
theorem dX6_numbers_64 : decode cX6_numbers 64 = .ok (.istore 7, 2) := by decide +kernel
theorem dX6_numbers_66 : decode cX6_numbers 66 = .ok (.bipush (-4), 2) := by decide +kernel
theorem dX6_numbers_68 : decode cX6_numbers 68 = .ok (.istore 8, 2) := by decide +kernel
theorem dX6_numbers_70 : decode cX6_numbers 70 = .ok (.iconst 0, 1) := by decide +kernel
theorem dX6_numbers_71 : decode cX6_numbers 71 = .ok (.istore 9, 2) := by decide +kernel
theorem dX6_numbers_73 : decode cX6_numbers 73 = .ok (.iconst 0, 1) := by decide +kernel
theorem dX6_numbers_74 : decode cX6_numbers 74 = .ok (.istore 10, 2) := by decide +kernel
theorem dX6_numbers_76 : decode cX6_numbers 76 = .ok (.iload 10, 2) := by decide +kernel
theorem dX6_numbers_78 : decode cX6_numbers 78 = .ok (.bipush 40, 2) := by decide +kernel
theorem dX6_numbers_80 : decode cX6_numbers 80 = .ok (.if_icmp .gt 58, 3) := by decide +kernel
theorem dX6_numbers_138 : decode cX6_numbers 138 = .ok (.iload 4, 2) := by decide +kernel
theorem dX6_numbers_140 : decode cX6_numbers 140 = .ok (.iconst 2, 1) := by decide +kernel
theorem dX6_numbers_141 : decode cX6_numbers 141 = .ok (.if_icmp .ne 6, 3) := by decide +kernel
theorem dX6_numbers_147 : decode cX6_numbers 147 = .ok (.iload 4, 2) := by decide +kernel
theorem dX6_numbers_149 : decode cX6_numbers 149 = .ok (.ifCond .ne 8, 3) := by decide +kernel
theorem dX6_numbers_157 : decode cX6_numbers 157 = .ok (.iload 8, 2) := by decide +kernel
theorem dX6_numbers_159 : decode cX6_numbers 159 = .ok (.ireturn, 1) := by decide +kernel
theorem dX6_numbers_152 : decode cX6_numbers 152 = .ok (.iload 7, 2) := by decide +kernel
theorem dX6_numbers_154 : decode cX6_numbers 154 = .ok (.goto 5, 3) := by decide +kernel
theorem dX6_numbers_144 : decode cX6_numbers 144 = .ok (.iload 9, 2) := by decide +kernel
theorem dX6_numbers_146 : decode cX6_numbers 146 = .ok (.ireturn, 1) := by decide +kernel
theorem dX6_numbers_83 : decode cX6_numbers 83 = .ok (.aload_n 0, 1) := by decide +kernel
theorem dX6_numbers_84 : decode cX6_numbers 84 = .ok (.getfield 47, 3) := by decide +kernel
theorem dX6_numbers_87 : decode cX6_numbers 87 = .ok (.iload_n 2, 1) := by decide +kernel
theorem dX6_numbers_88 : decode cX6_numbers 88 = .ok (.iload 10, 2) := by decide +kernel
theorem dX6_numbers_90 : decode cX6_numbers 90 = .ok (.invokevirtual 217, 3) := by decide +kernel
theorem dX6_numbers_93 : decode cX6_numbers 93 = .ok (.aload_n 0, 1) := by decide +kernel
theorem dX6_numbers_94 : decode cX6_numbers 94 = .ok (.aload_n 0, 1) := by decide +kernel
theorem dX6_numbers_95 : decode cX6_numbers 95 = .ok (.getfield 47, 3) := by decide +kernel
theorem dX6_numbers_98 : decode cX6_numbers 98 = .ok (.aload_n 0, 1) := by decide +kernel
theorem dX6_numbers_99 : decode cX6_numbers 99 = .ok (.getfield 25, 3) := by decide +kernel
theorem dX6_numbers_102 : decode cX6_numbers 102 = .ok (.iload_n 1, 1) := by decide +kernel
theorem dX6_numbers_103 : decode cX6_numbers 103 = .ok (.aaload, 1) := by decide +kernel
theorem dX6_numbers_104 : decode cX6_numbers 104 = .ok (.iload_n 3, 1) := by decide +kernel
theorem dX6_numbers_105 : decode cX6_numbers 105 = .ok (.invokevirtual 221, 3) := by decide +kernel
theorem dX6_numbers_108 : decode cX6_numbers 108 = .ok (.ifCond .eq 24, 3) := by decide +kernel
theorem dX6_numbers_111 : decode cX6_numbers 111 = .ok (.iload 9, 2) := by decide +kernel
theorem dX6_numbers_113 : decode cX6_numbers 113 = .ok (.ifCond .ne 8, 3) := by decide +kernel
theorem dX6_numbers_121 : decode cX6_numbers 121 = .ok (.iload 7, 2) := by decide +kernel
theorem dX6_numbers_123 : decode cX6_numbers 123 = .ok (.istore 7, 2) := by decide +kernel
theorem dX6_numbers_125 : decode cX6_numbers 125 = .ok (.iload 10, 2) := by decide +kernel
theorem dX6_numbers_127 : decode cX6_numbers 127 = .ok (.istore 8, 2) := by decide +kernel
theorem dX6_numbers_129 : decode cX6_numbers 129 = .ok (.iinc 9 1, 3) := by decide +kernel
theorem dX6_numbers_132 : decode cX6_numbers 132 = .ok (.iinc 10 1, 3) := by decide +kernel
theorem dX6_numbers_135 : decode cX6_numbers 135 = .ok (.goto (-59), 3) := by decide +kernel
theorem dX6_numbers_116 : decode cX6_numbers 116 = .ok (.iload 10, 2) := by decide +kernel
theorem dX6_numbers_118 : decode cX6_numbers 118 = .ok (.goto 5, 3) := by decide +kernel
theorem dX6_numbers_59 : decode cX6_numbers 59 = .ok (.iload 6, 2) := by decide +kernel
theorem dX6_numbers_61 : decode cX6_numbers 61 = .ok (.ireturn, 1) := by decide +kernel
theorem dX6_numbers_35 : decode cX6_numbers 35 = .ok (.iconst 0, 1) := by decide +kernel
theorem dX6_numbers_51 : decode cX6_numbers 51 = .ok (.iconst (-1), 1) := by decide +kernel
set_option maxRecDepth 100000 in
theorem c_X6_numbers (l : Launch) (D : va_G) (cy : Nat → Nat) (n : Nat) (ad : Nat → Nat) (F : Nat → va_E) (sz : Nat) (pic : Int32) (sc ps : Scn) (sh : Nat → Shf) (rd : Rdr) (dr : Stg) (fa : Tal) (mi : Crs) (hn : 56 ≤ n) (hX : RX ad cy F pic sc ps sh rd dr fa mi) (hG : gX sc ps sh) (d kd off what : Int32) : Met l yX6_numbers (zw yX6_numbers cX6_numbers 11 (some .int)) (rmL 6) (zPc D cy n ad F sz [.ref (ad 0), .int d, .int kd, .int off, .int what]) (va_Qi (fun r F1 => r = zr (bIn kd 0 7 ∧ bIn off 0 9999 ∧ bIn what 0 2) (sFilmR sc sh d) (sNumbers sc (sh (iN d)) kd off what) ∧ ∃ fa1, RX ad cy F1 pic sc ps sh rd dr fa1 mi ∧ fr56 F F1) (zB D n ad) (zA n ad sz)) 0 0 (zA n ad sz) := by
  refine zmet (by decide +kernel) (Nat.le_of_ble_eq_true rfl) (fun p e s m args below meth c ls hC hsz hZ hA hr hlocks hnm hl => ?_)
  have hC : zC p m c cX6_numbers 11 s args RX6 D cy := hC
  have hx := hC.1.1
  have hb := hC.1.2.1
  have hl : lv_has ls 11 [(0, .ref (ad 0)), (1, .int d), (2, .int kd), (3, .int off), (4, .int what)] := hl
  refine lv_iload_n hx hb dX6_numbers_0 rfl (lv_at hl 2 rfl) ?_
  refine lv_iconst (v := 0) hx hb dX6_numbers_1 (by decide) ?_
  refine lv_bipush (v := 7) hx hb dX6_numbers_2 (by decide) ?_
  refine zgoi hZ hA (zrunS (As := [.int kd, .int 0, .int 7]) (rest := []) hC hZ (c_X6_isWithin l D cy n ad F s.heap.size kd 0 7) mX6_isWithin sX6_isWithin kX6_111 (zRj_of rfl) rfl hl.1 rfl (Nat.le_of_ble_eq_true rfl) dX6_numbers_4 ⟨Nat.le_refl _, Nat.le_refl _⟩) (fun r_2 F_1 hp_3 H locs hZ => ?_)
  obtain ⟨hp_3, rfl⟩ := hp_3
  by_cases b_4 : bIn kd 0 7
  · rw [if_pos b_4] at hp_3
    subst hp_3
    refine lv_if_eq (tgt := 35) hx hb dX6_numbers_7 (by decide) (fun h => absurd (show (1 : Int32) = 0 from h) (by decide)) (fun _ => ?_)
    refine lv_iload_n hx hb dX6_numbers_10 rfl (lv_at hl 3 rfl) ?_
    refine lv_iconst (v := 0) hx hb dX6_numbers_11 (by decide) ?_
    refine lv_sipush (v := 9999) hx hb dX6_numbers_12 (by decide) ?_
    refine zgoi hZ hA (zrunS (As := [.int off, .int 0, .int 9999]) (rest := []) hC hZ (c_X6_isWithin l D cy n ad F H.size off 0 9999) mX6_isWithin sX6_isWithin kX6_111 (zRj_of rfl) rfl hl.1 rfl (Nat.le_of_ble_eq_true rfl) dX6_numbers_15 ⟨Nat.le_refl _, Nat.le_refl _⟩) (fun r_6 F_5 hp_7 H locs hZ => ?_)
    obtain ⟨hp_7, rfl⟩ := hp_7
    by_cases b_8 : bIn off 0 9999
    · rw [if_pos b_8] at hp_7
      subst hp_7
      refine lv_if_eq (tgt := 35) hx hb dX6_numbers_18 (by decide) (fun h => absurd (show (1 : Int32) = 0 from h) (by decide)) (fun _ => ?_)
      refine lv_iload hx hb dX6_numbers_21 (lv_at hl 4 rfl) ?_
      refine lv_iconst (v := 0) hx hb dX6_numbers_23 (by decide) ?_
      refine lv_iconst (v := 2) hx hb dX6_numbers_24 (by decide) ?_
      refine zgoi hZ hA (zrunS (As := [.int what, .int 0, .int 2]) (rest := []) hC hZ (c_X6_isWithin l D cy n ad F H.size what 0 2) mX6_isWithin sX6_isWithin kX6_111 (zRj_of rfl) rfl hl.1 rfl (Nat.le_of_ble_eq_true rfl) dX6_numbers_25 ⟨Nat.le_refl _, Nat.le_refl _⟩) (fun r_10 F_9 hp_11 H locs hZ => ?_)
      obtain ⟨hp_11, rfl⟩ := hp_11
      by_cases b_12 : bIn what 0 2
      · rw [if_pos b_12] at hp_11
        subst hp_11
        refine lv_if_eq (tgt := 35) hx hb dX6_numbers_28 (by decide) (fun h => absurd (show (1 : Int32) = 0 from h) (by decide)) (fun _ => ?_)
        refine lv_iconst (v := 1) hx hb dX6_numbers_31 (by decide) ?_
        refine lv_goto (tgt := 36) hx hb dX6_numbers_32 (by decide) ?_
        refine lv_istore (lv' := [(5, .int 1), (0, .ref (ad 0)), (1, .int d), (2, .int kd), (3, .int off), (4, .int what)]) hx hb dX6_numbers_36 hl (by decide) rfl (fun ls hl => ?_)
        refine lv_iload hx hb dX6_numbers_38 (lv_at hl 0 rfl) ?_
        refine lv_if_eq (tgt := 51) hx hb dX6_numbers_40 (by decide) (fun h => absurd (show (1 : Int32) = 0 from h) (by decide)) (fun _ => ?_)
        refine lv_aload_n hx hb dX6_numbers_43 rfl (lv_at hl 1 rfl) ?_
        refine lv_iload_n hx hb dX6_numbers_44 rfl (lv_at hl 2 rfl) ?_
        refine zgoi hZ hA (zrunV (As := [.int d]) (rest := []) (k := 0) hC hZ (c_X6_filmRefusal l D cy n ad F H.size pic sc ps sh rd dr fa mi hn hX d) mX6_filmRefusal vX6_filmRefusal kX6_214 (zRj_of rfl) (zlt hn rfl) hX.1 rfl rfl hl.1 rfl (Nat.le_of_ble_eq_true rfl) dX6_numbers_45 ⟨Nat.le_refl _, Nat.le_refl _⟩) (fun r_14 F_13 hp_15 H locs hZ => ?_)
        obtain ⟨rfl, rfl⟩ := hp_15
        refine lv_goto (tgt := 52) hx hb dX6_numbers_48 (by decide) ?_
        refine lv_istore (lv' := [(6, .int (sFilmR sc sh d)), (5, .int 1), (0, .ref (ad 0)), (1, .int d), (2, .int kd), (3, .int off), (4, .int what)]) hx hb dX6_numbers_52 hl (by decide) rfl (fun ls hl => ?_)
        refine lv_iload hx hb dX6_numbers_54 (lv_at hl 0 rfl) ?_
        refine lv_if_eq (tgt := 62) hx hb dX6_numbers_56 (by decide) (fun c_56 => ?_) (fun c_56 => ?_)
        · refine lv_bipush (v := (-4)) hx hb dX6_numbers_62 (by decide) ?_
          refine lv_istore (lv' := [(7, .int (-4)), (6, .int (sFilmR sc sh d)), (5, .int 1), (0, .ref (ad 0)), (1, .int d), (2, .int kd), (3, .int off), (4, .int what)]) hx hb dX6_numbers_64 hl (by decide) rfl (fun ls hl => ?_)
          refine lv_bipush (v := (-4)) hx hb dX6_numbers_66 (by decide) ?_
          refine lv_istore (lv' := [(8, .int (-4)), (7, .int (-4)), (6, .int (sFilmR sc sh d)), (5, .int 1), (0, .ref (ad 0)), (1, .int d), (2, .int kd), (3, .int off), (4, .int what)]) hx hb dX6_numbers_68 hl (by decide) rfl (fun ls hl => ?_)
          refine lv_iconst (v := 0) hx hb dX6_numbers_70 (by decide) ?_
          refine lv_istore (lv' := [(9, .int 0), (8, .int (-4)), (7, .int (-4)), (6, .int (sFilmR sc sh d)), (5, .int 1), (0, .ref (ad 0)), (1, .int d), (2, .int kd), (3, .int off), (4, .int what)]) hx hb dX6_numbers_71 hl (by decide) rfl (fun ls hl => ?_)
          refine lv_iconst (v := 0) hx hb dX6_numbers_73 (by decide) ?_
          refine lv_istore (lv' := [(10, .int 0), (9, .int 0), (8, .int (-4)), (7, .int (-4)), (6, .int (sFilmR sc sh d)), (5, .int 1), (0, .ref (ad 0)), (1, .int d), (2, .int kd), (3, .int off), (4, .int what)]) hx hb dX6_numbers_74 hl (by decide) rfl (fun ls hl => ?_)
          have hsf := sFilmR_0 c_56
          refine zlp (X := Nat × (Int32 × Int32 × Int32) × Tal) 76 (fun _ => []) (fun x ls F1 => lv_has ls 11 [(10, .int (nI x.1)), (9, .int x.2.1.2.2), (8, .int x.2.1.2.1), (7, .int x.2.1.1), (6, .int (sFilmR sc sh d)), (5, .int 1), (0, .ref (ad 0)), (1, .int d), (2, .int kd), (3, .int off), (4, .int what)] ∧ RX ad cy F1 pic sc ps sh rd dr x.2.2 mi ∧ fr56 F F1 ∧ (x.1 ≤ 41) ∧ (x.2.1 = zfold (sNumF sc (sh (iN d)) kd off) x.1 (-4, -4, 0))) (fun x => 41 - x.1) ?_ (0, (-4, -4, 0), fa) hZ ⟨hl, hX, fr56_rf, (Nat.zero_le _), rfl⟩
          intro x ih76 ls F3_76 H locs hZ hφ
          obtain ⟨i, pp, fv⟩ := x
          obtain ⟨hl, hXl, hfl76, hi, hp⟩ := hφ
          have hl : lv_has ls 11 [(10, .int (nI i)), (9, .int pp.2.2), (8, .int pp.2.1), (7, .int pp.1), (6, .int (sFilmR sc sh d)), (5, .int 1), (0, .ref (ad 0)), (1, .int d), (2, .int kd), (3, .int off), (4, .int what)] := hl
          have hX76 : RX ad cy F3_76 pic sc ps sh rd dr fv mi := hXl
          have hi : i ≤ 41 := hi
          have hp : pp = zfold (sNumF sc (sh (iN d)) kd off) i (-4, -4, 0) := hp
          refine lv_iload hx hb dX6_numbers_76 (lv_at hl 0 rfl) ?_
          refine lv_bipush (v := 40) hx hb dX6_numbers_78 (by decide) ?_
          refine lv_icmp_gt (tgt := 138) hx hb dX6_numbers_80 (by decide) (fun c_80 => ?_) (fun c_80 => ?_)
          · refine lv_iload hx hb dX6_numbers_138 (lv_at hl 10 rfl) ?_
            refine lv_iconst (v := 2) hx hb dX6_numbers_140 (by decide) ?_
            refine lv_icmp_ne (tgt := 147) hx hb dX6_numbers_141 (by decide) (fun c_141 => ?_) (fun c_141 => ?_)
            · refine lv_iload hx hb dX6_numbers_147 (lv_at hl 10 rfl) ?_
              refine lv_if_ne (tgt := 157) hx hb dX6_numbers_149 (by decide) (fun c_149 => ?_) (fun c_149 => ?_)
              · refine lv_iload hx hb dX6_numbers_157 (lv_at hl 2 rfl) ?_
                have hiq : i = 41 := by rcases Nat.lt_or_ge i 41 with h | h; exact absurd c_80 (nI_nlt (a := 40) (b := i) (by omega) (by omega)); omega
                subst hiq
                have hv_17 : pp.2.1 = sNumbers sc (sh (iN d)) kd off what := by unfold sNumbers; rw [← hp]; simp [c_141, c_149]
                have hq_16 : pp.2.1 = zr (bIn kd 0 7 ∧ bIn off 0 9999 ∧ bIn what 0 2) ((sFilmR sc sh d)) (sNumbers sc (sh (iN d)) kd off what) := hv_17.trans (zr_ok ⟨b_4, b_8, b_12⟩ c_56).symm
                exact zireti hC hZ hr hlocks ⟨hq_16, fv, hX76, hfl76⟩ dX6_numbers_159
              · refine lv_iload hx hb dX6_numbers_152 (lv_at hl 3 rfl) ?_
                refine lv_goto (tgt := 159) hx hb dX6_numbers_154 (by decide) ?_
                have hiq : i = 41 := by rcases Nat.lt_or_ge i 41 with h | h; exact absurd c_80 (nI_nlt (a := 40) (b := i) (by omega) (by omega)); omega
                subst hiq
                have hv_19 : pp.1 = sNumbers sc (sh (iN d)) kd off what := by unfold sNumbers; rw [← hp]; simp [c_141, c_149]
                have hq_18 : pp.1 = zr (bIn kd 0 7 ∧ bIn off 0 9999 ∧ bIn what 0 2) ((sFilmR sc sh d)) (sNumbers sc (sh (iN d)) kd off what) := hv_19.trans (zr_ok ⟨b_4, b_8, b_12⟩ c_56).symm
                exact zireti hC hZ hr hlocks ⟨hq_18, fv, hX76, hfl76⟩ dX6_numbers_159
            · refine lv_iload hx hb dX6_numbers_144 (lv_at hl 1 rfl) ?_
              have hiq : i = 41 := by rcases Nat.lt_or_ge i 41 with h | h; exact absurd c_80 (nI_nlt (a := 40) (b := i) (by omega) (by omega)); omega
              subst hiq
              have hv_21 : pp.2.2 = sNumbers sc (sh (iN d)) kd off what := by unfold sNumbers; rw [← hp]; simp [c_141]
              have hq_20 : pp.2.2 = zr (bIn kd 0 7 ∧ bIn off 0 9999 ∧ bIn what 0 2) ((sFilmR sc sh d)) (sNumbers sc (sh (iN d)) kd off what) := hv_21.trans (zr_ok ⟨b_4, b_8, b_12⟩ c_56).symm
              exact zireti hC hZ hr hlocks ⟨hq_20, fv, hX76, hfl76⟩ dX6_numbers_146
          · refine lv_aload_n hx hb dX6_numbers_83 rfl (lv_at hl 6 rfl) ?_
            refine zget hC hZ fX6_47 (zlt hn rfl) hX76.1 rfl dX6_numbers_84 ?_
            refine lv_iload_n hx hb dX6_numbers_87 rfl (lv_at hl 8 rfl) ?_
            refine lv_iload hx hb dX6_numbers_88 (lv_at hl 0 rfl) ?_
            refine zgov hZ hA (zrunV (As := [.int kd, .int (nI i)]) (rest := []) (k := 53) hC hZ (c_X5_become l D cy n ad F3_76 H.size 53 fv (zlt hn rfl) hX76.2.2.2.2.2.2.2.1 kd (nI i)) mX5_become vX5_become kX6_217 (zRj_of rfl) (zlt hn rfl) hX76.2.2.2.2.2.2.2.1 rfl rfl hl.1 rfl (Nat.le_of_ble_eq_true rfl) dX6_numbers_90 ⟨Nat.le_refl _, Nat.le_refl _⟩) (fun F_22 hp_24 H locs hZ => ?_)
            have hX_25 := rx_fancy hX76 hp_24
            have hf_26 := fr56_up hfl76 hp_24 (by decide)
            have hX_25 : RX ad cy F_22 pic sc ps sh rd dr (kd, nI i) mi := hX_25
            refine lv_aload_n hx hb dX6_numbers_93 rfl (lv_at hl 6 rfl) ?_
            refine lv_aload_n hx hb dX6_numbers_94 rfl (lv_at hl 6 rfl) ?_
            refine zget hC hZ fX6_47 (zlt hn rfl) hX_25.1 rfl dX6_numbers_95 ?_
            refine lv_aload_n hx hb dX6_numbers_98 rfl (lv_at hl 6 rfl) ?_
            refine zget hC hZ fX6_25 (zlt hn rfl) hX_25.1 rfl dX6_numbers_99 ?_
            refine lv_iload_n hx hb dX6_numbers_102 rfl (lv_at hl 7 rfl) ?_
            refine zaald hC hZ (zlt hn rfl) hX_25.2.2.2.1 (C := RX4) rfl hsf.1.1 hsf.1.2 (by decide) rfl dX6_numbers_103 ?_
            refine lv_iload_n hx hb dX6_numbers_104 rfl (lv_at hl 9 rfl) ?_
            refine zgoi hZ hA (zrunV (As := [.ref (ad 53), .ref (ad (26 + 3 * (iN d))), .int off]) (rest := []) (k := 0) hC hZ (c_X6_fits l D cy n ad F_22 H.size pic sc ps sh rd dr (kd, nI i) mi hn hX_25 hG 53 (kd, nI i) (zlt hn rfl) hX_25.2.2.2.2.2.2.2.1 (gTm (by rcases Nat.lt_or_ge i 41 with h | h; omega; exact absurd (nI_lt (a := 40) (b := i) (by omega) (by omega)) c_80) b_4) (26 + 3 * (iN d)) (sh (iN d)) (by have := hsf.1.2; omega) (hX_25.2.2.2.2.1 (iN d) hsf.1.2) off) mX6_fits vX6_fits kX6_221 (zRj_of rfl) (zlt hn rfl) hX_25.1 rfl rfl hl.1 rfl (Nat.le_of_ble_eq_true rfl) dX6_numbers_105 ⟨Nat.le_refl _, Nat.le_refl _⟩) (fun r_28 F_27 hp_29 H locs hZ => ?_)
            obtain ⟨hp_29, rfl⟩ := hp_29
            by_cases b_30 : bFits (kd, nI i) (sh (iN d)) sc off
            · rw [if_pos b_30] at hp_29
              subst hp_29
              refine lv_if_eq (tgt := 132) hx hb dX6_numbers_108 (by decide) (fun h => absurd (show (1 : Int32) = 0 from h) (by decide)) (fun _ => ?_)
              refine lv_iload hx hb dX6_numbers_111 (lv_at hl 1 rfl) ?_
              refine lv_if_ne (tgt := 121) hx hb dX6_numbers_113 (by decide) (fun c_113 => ?_) (fun c_113 => ?_)
              · refine lv_iload hx hb dX6_numbers_121 (lv_at hl 3 rfl) ?_
                refine lv_istore (lv' := [(7, .int pp.1), (10, .int (nI i)), (9, .int pp.2.2), (8, .int pp.2.1), (6, .int (sFilmR sc sh d)), (5, .int 1), (0, .ref (ad 0)), (1, .int d), (2, .int kd), (3, .int off), (4, .int what)]) hx hb dX6_numbers_123 hl (by decide) rfl (fun ls hl => ?_)
                refine lv_iload hx hb dX6_numbers_125 (lv_at hl 1 rfl) ?_
                refine lv_istore (lv' := [(8, .int (nI i)), (7, .int pp.1), (10, .int (nI i)), (9, .int pp.2.2), (6, .int (sFilmR sc sh d)), (5, .int 1), (0, .ref (ad 0)), (1, .int d), (2, .int kd), (3, .int off), (4, .int what)]) hx hb dX6_numbers_127 hl (by decide) rfl (fun ls hl => ?_)
                refine lv_iinc (v := (pp.2.2 + 1)) (lv' := [(9, .int (pp.2.2 + 1)), (8, .int (nI i)), (7, .int pp.1), (10, .int (nI i)), (6, .int (sFilmR sc sh d)), (5, .int 1), (0, .ref (ad 0)), (1, .int d), (2, .int kd), (3, .int off), (4, .int what)]) hx hb dX6_numbers_129 hl (k := 3) rfl rfl (by decide) rfl (fun ls hl => ?_)
                refine lv_iinc (v := nI (i + 1)) (lv' := [(10, .int (nI (i + 1))), (9, .int (pp.2.2 + 1)), (8, .int (nI i)), (7, .int pp.1), (6, .int (sFilmR sc sh d)), (5, .int 1), (0, .ref (ad 0)), (1, .int d), (2, .int kd), (3, .int off), (4, .int what)]) hx hb dX6_numbers_132 hl (k := 3) rfl (nI_1 i) (by decide) rfl (fun ls hl => ?_)
                refine lv_goto (tgt := 76) hx hb dX6_numbers_135 (by decide) ?_
                have hlt : i < 41 := by rcases Nat.lt_or_ge i 41 with h | h; exact h; exact absurd (nI_lt (a := 40) (b := i) (by omega) (by omega)) c_80
                exact ih76 ((i + 1), (pp.1, nI i, (pp.2.2 + 1)), (kd, nI i)) ls _ H locs (by show 41 - (i + 1) < 41 - i; omega) hZ ⟨hl, hX_25, hf_26, (by omega), (by show (pp.1, nI i, (pp.2.2 + 1)) = (sNumF sc (sh (iN d)) kd off) i (zfold (sNumF sc (sh (iN d)) kd off) i (-4, -4, 0)); rw [← hp]; refine Eq.symm ((if_pos b_30).trans ?_); rw [if_neg c_113])⟩
              · refine lv_iload hx hb dX6_numbers_116 (lv_at hl 0 rfl) ?_
                refine lv_goto (tgt := 123) hx hb dX6_numbers_118 (by decide) ?_
                refine lv_istore (lv' := [(7, .int (nI i)), (10, .int (nI i)), (9, .int pp.2.2), (8, .int pp.2.1), (6, .int (sFilmR sc sh d)), (5, .int 1), (0, .ref (ad 0)), (1, .int d), (2, .int kd), (3, .int off), (4, .int what)]) hx hb dX6_numbers_123 hl (by decide) rfl (fun ls hl => ?_)
                refine lv_iload hx hb dX6_numbers_125 (lv_at hl 1 rfl) ?_
                refine lv_istore (lv' := [(8, .int (nI i)), (7, .int (nI i)), (10, .int (nI i)), (9, .int pp.2.2), (6, .int (sFilmR sc sh d)), (5, .int 1), (0, .ref (ad 0)), (1, .int d), (2, .int kd), (3, .int off), (4, .int what)]) hx hb dX6_numbers_127 hl (by decide) rfl (fun ls hl => ?_)
                refine lv_iinc (v := (pp.2.2 + 1)) (lv' := [(9, .int (pp.2.2 + 1)), (8, .int (nI i)), (7, .int (nI i)), (10, .int (nI i)), (6, .int (sFilmR sc sh d)), (5, .int 1), (0, .ref (ad 0)), (1, .int d), (2, .int kd), (3, .int off), (4, .int what)]) hx hb dX6_numbers_129 hl (k := 3) rfl rfl (by decide) rfl (fun ls hl => ?_)
                refine lv_iinc (v := nI (i + 1)) (lv' := [(10, .int (nI (i + 1))), (9, .int (pp.2.2 + 1)), (8, .int (nI i)), (7, .int (nI i)), (6, .int (sFilmR sc sh d)), (5, .int 1), (0, .ref (ad 0)), (1, .int d), (2, .int kd), (3, .int off), (4, .int what)]) hx hb dX6_numbers_132 hl (k := 3) rfl (nI_1 i) (by decide) rfl (fun ls hl => ?_)
                refine lv_goto (tgt := 76) hx hb dX6_numbers_135 (by decide) ?_
                have hlt : i < 41 := by rcases Nat.lt_or_ge i 41 with h | h; exact h; exact absurd (nI_lt (a := 40) (b := i) (by omega) (by omega)) c_80
                exact ih76 ((i + 1), (nI i, nI i, (pp.2.2 + 1)), (kd, nI i)) ls _ H locs (by show 41 - (i + 1) < 41 - i; omega) hZ ⟨hl, hX_25, hf_26, (by omega), (by show (nI i, nI i, (pp.2.2 + 1)) = (sNumF sc (sh (iN d)) kd off) i (zfold (sNumF sc (sh (iN d)) kd off) i (-4, -4, 0)); rw [← hp]; refine Eq.symm ((if_pos b_30).trans ?_); rw [if_pos c_113])⟩
            · rw [if_neg b_30] at hp_29
              subst hp_29
              refine lv_if_eq (tgt := 132) hx hb dX6_numbers_108 (by decide) (fun _ => ?_) (fun h => absurd (show (0 : Int32) = 0 by decide) h)
              refine lv_iinc (v := nI (i + 1)) (lv' := [(10, .int (nI (i + 1))), (9, .int pp.2.2), (8, .int pp.2.1), (7, .int pp.1), (6, .int (sFilmR sc sh d)), (5, .int 1), (0, .ref (ad 0)), (1, .int d), (2, .int kd), (3, .int off), (4, .int what)]) hx hb dX6_numbers_132 hl (k := 0) rfl (nI_1 i) (by decide) rfl (fun ls hl => ?_)
              refine lv_goto (tgt := 76) hx hb dX6_numbers_135 (by decide) ?_
              have hlt : i < 41 := by rcases Nat.lt_or_ge i 41 with h | h; exact h; exact absurd (nI_lt (a := 40) (b := i) (by omega) (by omega)) c_80
              exact ih76 ((i + 1), pp, (kd, nI i)) ls _ H locs (by show 41 - (i + 1) < 41 - i; omega) hZ ⟨hl, hX_25, hf_26, (by omega), (by show pp = (sNumF sc (sh (iN d)) kd off) i (zfold (sNumF sc (sh (iN d)) kd off) i (-4, -4, 0)); rw [← hp]; exact (if_neg b_30).symm)⟩
        · refine lv_iload hx hb dX6_numbers_59 (lv_at hl 0 rfl) ?_
          have hq_31 : (sFilmR sc sh d) = zr (bIn kd 0 7 ∧ bIn off 0 9999 ∧ bIn what 0 2) ((sFilmR sc sh d)) (sNumbers sc (sh (iN d)) kd off what) := (zr_rf ⟨b_4, b_8, b_12⟩ c_56).symm
          exact zireti hC hZ hr hlocks ⟨hq_31, fa, hX, fr56_rf⟩ dX6_numbers_61
      · rw [if_neg b_12] at hp_11
        subst hp_11
        refine lv_if_eq (tgt := 35) hx hb dX6_numbers_28 (by decide) (fun _ => ?_) (fun h => absurd (show (0 : Int32) = 0 by decide) h)
        refine lv_iconst (v := 0) hx hb dX6_numbers_35 (by decide) ?_
        refine lv_istore (lv' := [(5, .int 0), (0, .ref (ad 0)), (1, .int d), (2, .int kd), (3, .int off), (4, .int what)]) hx hb dX6_numbers_36 hl (by decide) rfl (fun ls hl => ?_)
        refine lv_iload hx hb dX6_numbers_38 (lv_at hl 0 rfl) ?_
        refine lv_if_eq (tgt := 51) hx hb dX6_numbers_40 (by decide) (fun _ => ?_) (fun h => absurd (show (0 : Int32) = 0 by decide) h)
        refine lv_iconst (v := (-1)) hx hb dX6_numbers_51 (by decide) ?_
        refine lv_istore (lv' := [(6, .int (-1)), (5, .int 0), (0, .ref (ad 0)), (1, .int d), (2, .int kd), (3, .int off), (4, .int what)]) hx hb dX6_numbers_52 hl (by decide) rfl (fun ls hl => ?_)
        refine lv_iload hx hb dX6_numbers_54 (lv_at hl 0 rfl) ?_
        refine lv_if_eq (tgt := 62) hx hb dX6_numbers_56 (by decide) (fun h => absurd (show (-1 : Int32) = 0 from h) (by decide)) (fun _ => ?_)
        refine lv_iload hx hb dX6_numbers_59 (lv_at hl 0 rfl) ?_
        have hq_32 : (-1 : Int32) = zr (bIn kd 0 7 ∧ bIn off 0 9999 ∧ bIn what 0 2) ((sFilmR sc sh d)) (sNumbers sc (sh (iN d)) kd off what) := (zr_no (fun h => b_12 h.2.2)).symm
        exact zireti hC hZ hr hlocks ⟨hq_32, fa, hX, fr56_rf⟩ dX6_numbers_61
    · rw [if_neg b_8] at hp_7
      subst hp_7
      refine lv_if_eq (tgt := 35) hx hb dX6_numbers_18 (by decide) (fun _ => ?_) (fun h => absurd (show (0 : Int32) = 0 by decide) h)
      refine lv_iconst (v := 0) hx hb dX6_numbers_35 (by decide) ?_
      refine lv_istore (lv' := [(5, .int 0), (0, .ref (ad 0)), (1, .int d), (2, .int kd), (3, .int off), (4, .int what)]) hx hb dX6_numbers_36 hl (by decide) rfl (fun ls hl => ?_)
      refine lv_iload hx hb dX6_numbers_38 (lv_at hl 0 rfl) ?_
      refine lv_if_eq (tgt := 51) hx hb dX6_numbers_40 (by decide) (fun _ => ?_) (fun h => absurd (show (0 : Int32) = 0 by decide) h)
      refine lv_iconst (v := (-1)) hx hb dX6_numbers_51 (by decide) ?_
      refine lv_istore (lv' := [(6, .int (-1)), (5, .int 0), (0, .ref (ad 0)), (1, .int d), (2, .int kd), (3, .int off), (4, .int what)]) hx hb dX6_numbers_52 hl (by decide) rfl (fun ls hl => ?_)
      refine lv_iload hx hb dX6_numbers_54 (lv_at hl 0 rfl) ?_
      refine lv_if_eq (tgt := 62) hx hb dX6_numbers_56 (by decide) (fun h => absurd (show (-1 : Int32) = 0 from h) (by decide)) (fun _ => ?_)
      refine lv_iload hx hb dX6_numbers_59 (lv_at hl 0 rfl) ?_
      have hq_33 : (-1 : Int32) = zr (bIn kd 0 7 ∧ bIn off 0 9999 ∧ bIn what 0 2) ((sFilmR sc sh d)) (sNumbers sc (sh (iN d)) kd off what) := (zr_no (fun h => b_8 h.2.1)).symm
      exact zireti hC hZ hr hlocks ⟨hq_33, fa, hX, fr56_rf⟩ dX6_numbers_61
  · rw [if_neg b_4] at hp_3
    subst hp_3
    refine lv_if_eq (tgt := 35) hx hb dX6_numbers_7 (by decide) (fun _ => ?_) (fun h => absurd (show (0 : Int32) = 0 by decide) h)
    refine lv_iconst (v := 0) hx hb dX6_numbers_35 (by decide) ?_
    refine lv_istore (lv' := [(5, .int 0), (0, .ref (ad 0)), (1, .int d), (2, .int kd), (3, .int off), (4, .int what)]) hx hb dX6_numbers_36 hl (by decide) rfl (fun ls hl => ?_)
    refine lv_iload hx hb dX6_numbers_38 (lv_at hl 0 rfl) ?_
    refine lv_if_eq (tgt := 51) hx hb dX6_numbers_40 (by decide) (fun _ => ?_) (fun h => absurd (show (0 : Int32) = 0 by decide) h)
    refine lv_iconst (v := (-1)) hx hb dX6_numbers_51 (by decide) ?_
    refine lv_istore (lv' := [(6, .int (-1)), (5, .int 0), (0, .ref (ad 0)), (1, .int d), (2, .int kd), (3, .int off), (4, .int what)]) hx hb dX6_numbers_52 hl (by decide) rfl (fun ls hl => ?_)
    refine lv_iload hx hb dX6_numbers_54 (lv_at hl 0 rfl) ?_
    refine lv_if_eq (tgt := 62) hx hb dX6_numbers_56 (by decide) (fun h => absurd (show (-1 : Int32) = 0 from h) (by decide)) (fun _ => ?_)
    refine lv_iload hx hb dX6_numbers_59 (lv_at hl 0 rfl) ?_
    have hq_34 : (-1 : Int32) = zr (bIn kd 0 7 ∧ bIn off 0 9999 ∧ bIn what 0 2) ((sFilmR sc sh d)) (sNumbers sc (sh (iN d)) kd off what) := (zr_no (fun h => b_4 h.1)).symm
    exact zireti hC hZ hr hlocks ⟨hq_34, fa, hX, fr56_rf⟩ dX6_numbers_61
