theorem mX7_element : zMd yX7_element cX7_element 4 (some .long) 2 := ⟨by decide +kernel, gt_of 1119 (by decide +kernel) rfl, gt_of 52 (by decide +kernel) rfl, by decide⟩
theorem dX7_element_0 : decode cX7_element 0 = .ok (.aload_n 0, 1) := by decide +kernel
theorem dX7_element_1 : decode cX7_element 1 = .ok (.iload_n 1, 1) := by decide +kernel
theorem dX7_element_2 : decode cX7_element 2 = .ok (.invokevirtual 111, 3) := by decide +kernel
theorem dX7_element_5 : decode cX7_element 5 = .ok (.istore_n 3, 1) := by decide +kernel
theorem dX7_element_6 : decode cX7_element 6 = .ok (.aload_n 0, 1) := by decide +kernel
theorem dX7_element_7 : decode cX7_element 7 = .ok (.iload_n 3, 1) := by decide +kernel
theorem dX7_element_8 : decode cX7_element 8 = .ok (.iconst (-1), 1) := by decide +kernel
theorem dX7_element_9 : decode cX7_element 9 = .ok (.if_icmp .ne 7, 3) := by decide +kernel
theorem dX7_element_16 : decode cX7_element 16 = .ok (.iload_n 3, 1) := by decide +kernel
theorem dX7_element_17 : decode cX7_element 17 = .ok (.ifCond .lt 21, 3) := by decide +kernel
theorem dX7_element_38 : decode cX7_element 38 = .ok (.iconst 2, 1) := by decide +kernel
theorem dX7_element_39 : decode cX7_element 39 = .ok (.goto 4, 3) := by decide +kernel
theorem dX7_element_43 : decode cX7_element 43 = .ok (.putfield 57, 3) := by decide +kernel
theorem dX7_element_46 : decode cX7_element 46 = .ok (.aload_n 0, 1) := by decide +kernel
theorem dX7_element_47 : decode cX7_element 47 = .ok (.getfield 57, 3) := by decide +kernel
theorem dX7_element_50 : decode cX7_element 50 = .ok (.ifCond .le 7, 3) := by decide +kernel
theorem dX7_element_53 : decode cX7_element 53 = .ok (.lconst 0, 1) := by decide +kernel
theorem dX7_element_54 : decode cX7_element 54 = .ok (.goto 14, 3) := by decide +kernel
theorem dX7_element_68 : decode cX7_element 68 = .ok (.lreturn, 1) := by decide +kernel
theorem dX7_element_20 : decode cX7_element 20 = .ok (.iload_n 2, 1) := by decide +kernel
theorem dX7_element_21 : decode cX7_element 21 = .ok (.i2l, 1) := by decide +kernel
theorem dX7_element_22 : decode cX7_element 22 = .ok (.lconst 0, 1) := by decide +kernel
theorem dX7_element_23 : decode cX7_element 23 = .ok (.aload_n 0, 1) := by decide +kernel
theorem dX7_element_24 : decode cX7_element 24 = .ok (.getfield 47, 3) := by decide +kernel
theorem dX7_element_27 : decode cX7_element 27 = .ok (.iload_n 1, 1) := by decide +kernel
theorem dX7_element_28 : decode cX7_element 28 = .ok (.iaload, 1) := by decide +kernel
theorem dX7_element_29 : decode cX7_element 29 = .ok (.iconst 1, 1) := by decide +kernel
theorem dX7_element_30 : decode cX7_element 30 = .ok (.isub, 1) := by decide +kernel
theorem dX7_element_31 : decode cX7_element 31 = .ok (.i2l, 1) := by decide +kernel
theorem dX7_element_32 : decode cX7_element 32 = .ok (.invokestatic 63, 3) := by decide +kernel
theorem dX7_element_35 : decode cX7_element 35 = .ok (.ifCond .ne 7, 3) := by decide +kernel
theorem dX7_element_42 : decode cX7_element 42 = .ok (.iconst 0, 1) := by decide +kernel
theorem dX7_element_57 : decode cX7_element 57 = .ok (.aload_n 0, 1) := by decide +kernel
theorem dX7_element_58 : decode cX7_element 58 = .ok (.getfield 50, 3) := by decide +kernel
theorem dX7_element_61 : decode cX7_element 61 = .ok (.bipush 100, 2) := by decide +kernel
theorem dX7_element_63 : decode cX7_element 63 = .ok (.iload_n 1, 1) := by decide +kernel
theorem dX7_element_64 : decode cX7_element 64 = .ok (.imul, 1) := by decide +kernel
theorem dX7_element_65 : decode cX7_element 65 = .ok (.iload_n 2, 1) := by decide +kernel
theorem dX7_element_66 : decode cX7_element 66 = .ok (.iadd, 1) := by decide +kernel
theorem dX7_element_67 : decode cX7_element 67 = .ok (.laload, 1) := by decide +kernel
theorem dX7_element_12 : decode cX7_element 12 = .ok (.iconst 1, 1) := by decide +kernel
theorem dX7_element_13 : decode cX7_element 13 = .ok (.goto 30, 3) := by decide +kernel
set_option maxRecDepth 100000 in
theorem c_X7_element (l : Launch) (D : va_G) (cy : Nat → Nat) (n : Nat) (ad : Nat → Nat) (F : Nat → va_E) (sz : Nat) (th0 pic : Int32) (sc ps : Scn) (sh : Nat → Shf) (hn : 68 ≤ n) (hX : RM ad cy F th0 pic sc ps sh) (hG : gX sc ps sh) (d i : Int32) : Met l yX7_element (zw yX7_element cX7_element 4 (some .long)) (rmL 2) (zPc D cy n ad F sz [.ref (ad 56), .int d, .int i]) (va_Ql (fun r F1 => r = sElV sh d i ∧ RM ad cy F1 (sElT sh d i) pic sc ps sh ∧ frM F F1) (zB D n ad) (zA n ad sz)) 0 0 (zA n ad sz) := by
  refine zmet (by decide +kernel) (Nat.le_of_ble_eq_true rfl) (fun p e s m args below meth c ls hC hsz hZ hA hr hlocks hnm hl => ?_)
  have hC : zC p m c cX7_element 4 s args RX7 D cy := hC
  have hx := hC.1.1
  have hb := hC.1.2.1
  have hl : lv_has ls 4 [(0, .ref (ad 56)), (1, .int d), (2, .int i)] := hl
  obtain ⟨bs, en, u, st, kk, dw, ho, sv, ia, tk, told, pl, nu, im, hw, kd, fg, so, mn, rw0, bt, hM, h57, h58, h59, h60, h61, h62, h63, h64, h65, h66, h67, hR⟩ := hX
  have hRS := hR.2.2
  have hHW := rX_hw hR
  refine lv_aload_n hx hb dX7_element_0 rfl (lv_at hl 0 rfl) ?_
  refine lv_iload_n hx hb dX7_element_1 rfl (lv_at hl 1 rfl) ?_
  refine zgoi hZ hA (zrunV (As := [.int d]) (rest := []) (k := 56) hC hZ (c_X7_wrongRow l D cy n ad F s.heap.size sc.1 sc.2.1 sc.2.2.2.1 sc.2.2.2.2 th0 bs en u st kk dw ho sv pic ia tk hn hM hw h61 d) mX7_wrongRow vX7_wrongRow kX7_111 (zRj_of rfl) (zlt hn rfl) hM rfl rfl hl.1 rfl (Nat.le_of_ble_eq_true rfl) dX7_element_2 ⟨Nat.le_refl _, Nat.le_refl _⟩) (fun r_2 F_1 hp_3 H locs hZ => ?_)
  rw [mRowR_eq hHW] at hp_3
  obtain ⟨rfl, rfl⟩ := hp_3
  refine lv_istore_n (lv' := [(3, .int (sRowR sh d)), (0, .ref (ad 56)), (1, .int d), (2, .int i)]) hx hb dX7_element_5 rfl hl (by decide) rfl (fun ls hl => ?_)
  refine lv_aload_n hx hb dX7_element_6 rfl (lv_at hl 1 rfl) ?_
  refine lv_iload_n hx hb dX7_element_7 rfl (lv_at hl 0 rfl) ?_
  refine lv_iconst (v := (-1)) hx hb dX7_element_8 (by decide) ?_
  refine lv_icmp_ne (tgt := 16) hx hb dX7_element_9 (by decide) (fun c_9 => ?_) (fun c_9 => ?_)
  · refine lv_iload_n hx hb dX7_element_16 rfl (lv_at hl 0 rfl) ?_
    refine lv_if_lt (tgt := 38) hx hb dX7_element_17 (by decide) (fun c_17 => ?_) (fun c_17 => ?_)
    · refine lv_iconst (v := 2) hx hb dX7_element_38 (by decide) ?_
      refine lv_goto (tgt := 43) hx hb dX7_element_39 (by decide) ?_
      refine zput (E := oModel ad sc.1 sc.2.1 sc.2.2.2.1 sc.2.2.2.2 2 bs en u st kk dw ho sv pic ia tk) hC hZ pX7_57 (zlt hn rfl) hM rfl rfl rfl (Nat.le_of_ble_eq_true rfl) dX7_element_43 (fun F_4 hF_5 H locs hZ => ?_)
      have h_6 := zeq hF_5
      refine lv_aload_n hx hb dX7_element_46 rfl (lv_at hl 1 rfl) ?_
      refine zget hC hZ fX7_57 (zlt hn rfl) h_6 rfl dX7_element_47 ?_
      refine lv_if_le (tgt := 57) hx hb dX7_element_50 (by decide) (fun h => absurd (show (2 : Int32) ≤ 0 from h) (by decide)) (fun _ => ?_)
      refine lv_lconst (v := 0) hx hb dX7_element_53 (by decide) ?_
      refine lv_goto (tgt := 68) hx hb dX7_element_54 (by decide) ?_
      have hT : sElT sh d i = 2 := (if_neg c_9).trans (if_neg (fun h => neg_n0 c_17 h.1))
      have hq : (0 : Int64) = sElV sh d i := by unfold sElV; rw [if_neg (by rw [hT]; decide)]
      have hfm_7 : frM F F_4 := (frM_up frM_rf hF_5 (by decide) (by decide))
      exact zlret hC hZ hr hlocks ⟨hq, (by rw [hT]; exact ⟨⟨bs, en, u, st, kk, dw, ho, sv, ia, tk, told, pl, nu, im, hw, kd, fg, so, mn, rw0, bt, h_6, (zne hF_5 (by decide) h57), (zne hF_5 (by decide) h58), (zne hF_5 (by decide) h59), (zne hF_5 (by decide) h60), (zne hF_5 (by decide) h61), (zne hF_5 (by decide) h62), (zne hF_5 (by decide) h63), (zne hF_5 (by decide) h64), (zne hF_5 (by decide) h65), (zne hF_5 (by decide) h66), (zne hF_5 (by decide) h67), hR⟩, hfm_7⟩)⟩ dX7_element_68
    · refine lv_iload_n hx hb dX7_element_20 rfl (lv_at hl 3 rfl) ?_
      refine lv_i2l (v := (i).toInt64) hx hb dX7_element_21 (by rfl) ?_
      refine lv_lconst (v := 0) hx hb dX7_element_22 (by decide) ?_
      refine lv_aload_n hx hb dX7_element_23 rfl (lv_at hl 1 rfl) ?_
      refine zget hC hZ fX7_47 (zlt hn rfl) hM rfl dX7_element_24 ?_
      refine lv_iload_n hx hb dX7_element_27 rfl (lv_at hl 2 rfl) ?_
      have hz : sRowR sh d = 0 := sRowR_ge c_17
      have hs := sRowR_0 hz
      have hd := hs.1
      have hro := (hRS _ hd.2).2.2 hs.2
      refine ziald hC hZ (zlt hn rfl) h65 hd.1 hd.2 (by decide) dX7_element_28 ?_
      refine lv_iconst (v := 1) hx hb dX7_element_29 (by decide) ?_
      refine lv_isub hx hb dX7_element_30 ?_
      refine lv_i2l (v := ((mn (iN d)) - 1).toInt64) hx hb dX7_element_31 (by rfl) ?_
      refine zgoi hZ hA (zrunS (As := [.long ((i).toInt64), .long 0, .long (((mn (iN d)) - 1).toInt64)]) (rest := [.ref (ad 56)]) hC hZ (c_X7_in l D cy n ad F H.size i 0 ((mn (iN d)) - 1) 0 (((mn (iN d)) - 1).toInt64) (by decide) rfl) mX7_in sX7_in kX7_63 (zRj_of rfl) rfl hl.1 rfl (Nat.le_of_ble_eq_true rfl) dX7_element_32 ⟨Nat.le_refl _, Nat.le_refl _⟩) (fun r_9 F_8 hp_10 H locs hZ => ?_)
      obtain ⟨hp_10, rfl⟩ := hp_10
      by_cases b_11 : bIn i 0 ((mn (iN d)) - 1)
      · rw [if_pos b_11] at hp_10
        subst hp_10
        refine lv_if_ne (tgt := 42) hx hb dX7_element_35 (by decide) (fun _ => ?_) (fun h => absurd (show (1 : Int32) = 0 from h) (by decide))
        refine lv_iconst (v := 0) hx hb dX7_element_42 (by decide) ?_
        refine zput (E := oModel ad sc.1 sc.2.1 sc.2.2.2.1 sc.2.2.2.2 0 bs en u st kk dw ho sv pic ia tk) hC hZ pX7_57 (zlt hn rfl) hM rfl rfl rfl (Nat.le_of_ble_eq_true rfl) dX7_element_43 (fun F_12 hF_13 H locs hZ => ?_)
        have h_14 := zeq hF_13
        refine lv_aload_n hx hb dX7_element_46 rfl (lv_at hl 1 rfl) ?_
        refine zget hC hZ fX7_57 (zlt hn rfl) h_14 rfl dX7_element_47 ?_
        refine lv_if_le (tgt := 57) hx hb dX7_element_50 (by decide) (fun _ => ?_) (fun h => absurd (show (0 : Int32) ≤ 0 by decide) h)
        refine lv_aload_n hx hb dX7_element_57 rfl (lv_at hl 1 rfl) ?_
        refine zget hC hZ fX7_50 (zlt hn rfl) h_14 rfl dX7_element_58 ?_
        refine lv_bipush (v := 100) hx hb dX7_element_61 (by decide) ?_
        refine lv_iload_n hx hb dX7_element_63 rfl (lv_at hl 2 rfl) ?_
        refine lv_imul hx hb dX7_element_64 ?_
        refine lv_iload_n hx hb dX7_element_65 rfl (lv_at hl 3 rfl) ?_
        refine lv_iadd hx hb dX7_element_66 ?_
        have hgz := hG.2.2 _ hd.2
        have hpl9 := b_11
        rw [hro.2.1] at hpl9
        have hpl := (bPlace_m hgz.2.1 hgz.2.2.1).mp hpl9
        have hpi := bPlace_i hpl
        refine zlald hC hZ (zlt hn rfl) (zne hF_13 (by decide) h66) (ix100i hd.1 hpi.1) (by have := hpi.2; have := hd.2; omega) (by decide) dX7_element_67 ?_
        have hT : sElT sh d i = 0 := (if_neg c_9).trans (if_pos ⟨hz, hpl⟩)
        have hq : (rw0 (100 * iN d + iN i)) = sElV sh d i := by unfold sElV; rw [if_pos hT]; exact hro.2.2 _ hpi.2
        have hfm_15 : frM F F_12 := (frM_up frM_rf hF_13 (by decide) (by decide))
        exact zlret hC hZ hr hlocks ⟨hq, (by rw [hT]; exact ⟨⟨bs, en, u, st, kk, dw, ho, sv, ia, tk, told, pl, nu, im, hw, kd, fg, so, mn, rw0, bt, h_14, (zne hF_13 (by decide) h57), (zne hF_13 (by decide) h58), (zne hF_13 (by decide) h59), (zne hF_13 (by decide) h60), (zne hF_13 (by decide) h61), (zne hF_13 (by decide) h62), (zne hF_13 (by decide) h63), (zne hF_13 (by decide) h64), (zne hF_13 (by decide) h65), (zne hF_13 (by decide) h66), (zne hF_13 (by decide) h67), hR⟩, hfm_15⟩)⟩ dX7_element_68
      · rw [if_neg b_11] at hp_10
        subst hp_10
        refine lv_if_ne (tgt := 42) hx hb dX7_element_35 (by decide) (fun h => absurd (show (0 : Int32) = 0 by decide) h) (fun _ => ?_)
        refine lv_iconst (v := 2) hx hb dX7_element_38 (by decide) ?_
        refine lv_goto (tgt := 43) hx hb dX7_element_39 (by decide) ?_
        refine zput (E := oModel ad sc.1 sc.2.1 sc.2.2.2.1 sc.2.2.2.2 2 bs en u st kk dw ho sv pic ia tk) hC hZ pX7_57 (zlt hn rfl) hM rfl rfl rfl (Nat.le_of_ble_eq_true rfl) dX7_element_43 (fun F_16 hF_17 H locs hZ => ?_)
        have h_18 := zeq hF_17
        refine lv_aload_n hx hb dX7_element_46 rfl (lv_at hl 1 rfl) ?_
        refine zget hC hZ fX7_57 (zlt hn rfl) h_18 rfl dX7_element_47 ?_
        refine lv_if_le (tgt := 57) hx hb dX7_element_50 (by decide) (fun h => absurd (show (2 : Int32) ≤ 0 from h) (by decide)) (fun _ => ?_)
        refine lv_lconst (v := 0) hx hb dX7_element_53 (by decide) ?_
        refine lv_goto (tgt := 68) hx hb dX7_element_54 (by decide) ?_
        have hgz := hG.2.2 _ hd.2
        have hpl9 := b_11
        rw [hro.2.1] at hpl9
        have hpl := (fun h => hpl9 ((bPlace_m hgz.2.1 hgz.2.2.1).mpr h))
        have hT : sElT sh d i = 2 := (if_neg c_9).trans (if_neg (fun h => hpl h.2))
        have hq : (0 : Int64) = sElV sh d i := by unfold sElV; rw [if_neg (by rw [hT]; decide)]
        have hfm_19 : frM F F_16 := (frM_up frM_rf hF_17 (by decide) (by decide))
        exact zlret hC hZ hr hlocks ⟨hq, (by rw [hT]; exact ⟨⟨bs, en, u, st, kk, dw, ho, sv, ia, tk, told, pl, nu, im, hw, kd, fg, so, mn, rw0, bt, h_18, (zne hF_17 (by decide) h57), (zne hF_17 (by decide) h58), (zne hF_17 (by decide) h59), (zne hF_17 (by decide) h60), (zne hF_17 (by decide) h61), (zne hF_17 (by decide) h62), (zne hF_17 (by decide) h63), (zne hF_17 (by decide) h64), (zne hF_17 (by decide) h65), (zne hF_17 (by decide) h66), (zne hF_17 (by decide) h67), hR⟩, hfm_19⟩)⟩ dX7_element_68
  · refine lv_iconst (v := 1) hx hb dX7_element_12 (by decide) ?_
    refine lv_goto (tgt := 43) hx hb dX7_element_13 (by decide) ?_
    refine zput (E := oModel ad sc.1 sc.2.1 sc.2.2.2.1 sc.2.2.2.2 1 bs en u st kk dw ho sv pic ia tk) hC hZ pX7_57 (zlt hn rfl) hM rfl rfl rfl (Nat.le_of_ble_eq_true rfl) dX7_element_43 (fun F_20 hF_21 H locs hZ => ?_)
    have h_22 := zeq hF_21
    refine lv_aload_n hx hb dX7_element_46 rfl (lv_at hl 1 rfl) ?_
    refine zget hC hZ fX7_57 (zlt hn rfl) h_22 rfl dX7_element_47 ?_
    refine lv_if_le (tgt := 57) hx hb dX7_element_50 (by decide) (fun h => absurd (show (1 : Int32) ≤ 0 from h) (by decide)) (fun _ => ?_)
    refine lv_lconst (v := 0) hx hb dX7_element_53 (by decide) ?_
    refine lv_goto (tgt := 68) hx hb dX7_element_54 (by decide) ?_
    have hT : sElT sh d i = 1 := if_pos c_9
    have hq : (0 : Int64) = sElV sh d i := by unfold sElV; rw [if_neg (by rw [hT]; decide)]
    have hfm_23 : frM F F_20 := (frM_up frM_rf hF_21 (by decide) (by decide))
    exact zlret hC hZ hr hlocks ⟨hq, (by rw [hT]; exact ⟨⟨bs, en, u, st, kk, dw, ho, sv, ia, tk, told, pl, nu, im, hw, kd, fg, so, mn, rw0, bt, h_22, (zne hF_21 (by decide) h57), (zne hF_21 (by decide) h58), (zne hF_21 (by decide) h59), (zne hF_21 (by decide) h60), (zne hF_21 (by decide) h61), (zne hF_21 (by decide) h62), (zne hF_21 (by decide) h63), (zne hF_21 (by decide) h64), (zne hF_21 (by decide) h65), (zne hF_21 (by decide) h66), (zne hF_21 (by decide) h67), hR⟩, hfm_23⟩)⟩ dX7_element_68
