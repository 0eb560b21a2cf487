theorem mX7_run : zMd yX7_run cX7_run 4 (some .int) 2 := ⟨by decide +kernel, gt_of 954 (by decide +kernel) rfl, gt_of 52 (by decide +kernel) rfl, by decide⟩
theorem dX7_run_0 : decode cX7_run 0 = .ok (.aload_n 0, 1) := by decide +kernel
theorem dX7_run_1 : decode cX7_run 1 = .ok (.iconst 0, 1) := by decide +kernel
theorem dX7_run_2 : decode cX7_run 2 = .ok (.putfield 57, 3) := by decide +kernel
theorem dX7_run_5 : decode cX7_run 5 = .ok (.iload_n 1, 1) := by decide +kernel
theorem dX7_run_6 : decode cX7_run 6 = .ok (.i2l, 1) := by decide +kernel
theorem dX7_run_7 : decode cX7_run 7 = .ok (.lconst 0, 1) := by decide +kernel
theorem dX7_run_8 : decode cX7_run 8 = .ok (.ldc2_w 138, 3) := by decide +kernel
theorem dX7_run_11 : decode cX7_run 11 = .ok (.invokestatic 63, 3) := by decide +kernel
theorem dX7_run_14 : decode cX7_run 14 = .ok (.ifCond .eq 15, 3) := by decide +kernel
theorem dX7_run_17 : decode cX7_run 17 = .ok (.iload_n 2, 1) := by decide +kernel
theorem dX7_run_18 : decode cX7_run 18 = .ok (.i2l, 1) := by decide +kernel
theorem dX7_run_19 : decode cX7_run 19 = .ok (.lconst 1, 1) := by decide +kernel
theorem dX7_run_20 : decode cX7_run 20 = .ok (.ldc2_w 181, 3) := by decide +kernel
theorem qX7_181 : Cond.constantLong RX7 181 500 ∈ gtbl := gt_of 955 (by decide +kernel) rfl
theorem dX7_run_23 : decode cX7_run 23 = .ok (.invokestatic 63, 3) := by decide +kernel
theorem dX7_run_26 : decode cX7_run 26 = .ok (.ifCond .ne 5, 3) := by decide +kernel
theorem dX7_run_31 : decode cX7_run 31 = .ok (.aload_n 0, 1) := by decide +kernel
theorem dX7_run_32 : decode cX7_run 32 = .ok (.getfield 148, 3) := by decide +kernel
theorem dX7_run_35 : decode cX7_run 35 = .ok (.iload_n 2, 1) := by decide +kernel
theorem dX7_run_36 : decode cX7_run 36 = .ok (.iadd, 1) := by decide +kernel
theorem dX7_run_37 : decode cX7_run 37 = .ok (.sipush 9999, 3) := by decide +kernel
theorem dX7_run_40 : decode cX7_run 40 = .ok (.if_icmp .le 6, 3) := by decide +kernel
theorem dX7_run_46 : decode cX7_run 46 = .ok (.aload_n 0, 1) := by decide +kernel
theorem dX7_run_47 : decode cX7_run 47 = .ok (.iload_n 1, 1) := by decide +kernel
theorem dX7_run_48 : decode cX7_run 48 = .ok (.invokevirtual 142, 3) := by decide +kernel
theorem dX7_run_51 : decode cX7_run 51 = .ok (.ifCond .ge 9, 3) := by decide +kernel
theorem dX7_run_60 : decode cX7_run 60 = .ok (.aload_n 0, 1) := by decide +kernel
theorem dX7_run_61 : decode cX7_run 61 = .ok (.iload_n 1, 1) := by decide +kernel
theorem dX7_run_62 : decode cX7_run 62 = .ok (.invokevirtual 145, 3) := by decide +kernel
theorem dX7_run_65 : decode cX7_run 65 = .ok (.iconst 0, 1) := by decide +kernel
theorem dX7_run_66 : decode cX7_run 66 = .ok (.istore_n 3, 1) := by decide +kernel
theorem dX7_run_67 : decode cX7_run 67 = .ok (.iload_n 3, 1) := by decide +kernel
theorem dX7_run_68 : decode cX7_run 68 = .ok (.iload_n 2, 1) := by decide +kernel
theorem dX7_run_69 : decode cX7_run 69 = .ok (.if_icmp .ge 13, 3) := by decide +kernel
theorem dX7_run_82 : decode cX7_run 82 = .ok (.aload_n 0, 1) := by decide +kernel
theorem dX7_run_83 : decode cX7_run 83 = .ok (.getfield 148, 3) := by decide +kernel
theorem dX7_run_86 : decode cX7_run 86 = .ok (.ireturn, 1) := by decide +kernel
theorem dX7_run_72 : decode cX7_run 72 = .ok (.aload_n 0, 1) := by decide +kernel
theorem dX7_run_73 : decode cX7_run 73 = .ok (.invokevirtual 183, 3) := by decide +kernel
theorem dX7_run_76 : decode cX7_run 76 = .ok (.iinc 3 1, 3) := by decide +kernel
theorem dX7_run_79 : decode cX7_run 79 = .ok (.goto (-12), 3) := by decide +kernel
theorem dX7_run_54 : decode cX7_run 54 = .ok (.aload_n 0, 1) := by decide +kernel
theorem dX7_run_55 : decode cX7_run 55 = .ok (.iload_n 1, 1) := by decide +kernel
theorem dX7_run_56 : decode cX7_run 56 = .ok (.invokevirtual 142, 3) := by decide +kernel
theorem dX7_run_59 : decode cX7_run 59 = .ok (.ireturn, 1) := by decide +kernel
theorem dX7_run_43 : decode cX7_run 43 = .ok (.bipush (-2), 2) := by decide +kernel
theorem dX7_run_45 : decode cX7_run 45 = .ok (.ireturn, 1) := by decide +kernel
theorem dX7_run_29 : decode cX7_run 29 = .ok (.iconst (-1), 1) := by decide +kernel
theorem dX7_run_30 : decode cX7_run 30 = .ok (.ireturn, 1) := by decide +kernel
set_option maxRecDepth 100000 in
theorem c_X7_run (l : Launch) (D : va_G) (cy : Nat → Nat) (n : Nat) (ad : Nat → Nat) (F : Nat → va_E) (sz : Nat) (th0 pic : Int32) (sc ps : Scn) (sh : Nat → Shf) (hn : 68 ≤ n) (hX : RM ad cy F th0 pic sc ps sh) (hG : gX sc ps sh) (d q : Int32) : Met l yX7_run (zw yX7_run cX7_run 4 (some .int)) (rmL 2) (zPc D cy n ad F sz [.ref (ad 56), .int d, .int q]) (va_Qi (fun r F1 => r = sRun sc sh d q ∧ RM ad cy F1 0 pic (sRunS sc sh d q) ps sh ∧ frM F F1) (zB D n ad) (zA n ad sz)) 0 0 (zA n ad sz) := by
  refine zmet (by decide +kernel) (Nat.le_of_ble_eq_true rfl) (fun p e s m args below meth c ls hC hsz hZ hA hr hlocks hnm hl => ?_)
  have hC : zC p m c cX7_run 4 s args RX7 D cy := hC
  have hx := hC.1.1
  have hb := hC.1.2.1
  have hl : lv_has ls 4 [(0, .ref (ad 56)), (1, .int d), (2, .int q)] := hl
  obtain ⟨bs, en, u, st, kk, dw, ho, sv, ia, tk, told, pl, nu, im, hw, kd, fg, so, mn, rw0, bt, hM, h57, h58, h59, h60, h61, h62, h63, h64, h65, h66, h67, hR⟩ := hX
  have hRS := hR.2.2
  have hHW := rX_hw hR
  refine lv_aload_n hx hb dX7_run_0 rfl (lv_at hl 0 rfl) ?_
  refine lv_iconst (v := 0) hx hb dX7_run_1 (by decide) ?_
  refine zput (E := oModel ad sc.1 sc.2.1 sc.2.2.2.1 sc.2.2.2.2 0 bs en u st kk dw ho sv pic ia tk) hC hZ pX7_57 (zlt hn rfl) hM rfl rfl rfl (Nat.le_of_ble_eq_true rfl) dX7_run_2 (fun F_1 hF_2 H locs hZ => ?_)
  have h_3 := zeq hF_2
  refine lv_iload_n hx hb dX7_run_5 rfl (lv_at hl 1 rfl) ?_
  refine lv_i2l (v := (d).toInt64) hx hb dX7_run_6 (by rfl) ?_
  refine lv_lconst (v := 0) hx hb dX7_run_7 (by decide) ?_
  refine lv_ldc2 (v := 7) hx hb hC.1.2.2.2.1 (hC.1.2.2.2.2 _ qX7_138) dX7_run_8 ?_
  refine zgoi hZ hA (zrunS (As := [.long ((d).toInt64), .long 0, .long 7]) (rest := []) hC hZ (c_X7_in l D cy n ad F_1 H.size d 0 7 0 7 (by decide) (by decide)) mX7_in sX7_in kX7_63 (zRj_of rfl) rfl hl.1 rfl (Nat.le_of_ble_eq_true rfl) dX7_run_11 ⟨Nat.le_refl _, Nat.le_refl _⟩) (fun r_5 F_4 hp_6 H locs hZ => ?_)
  obtain ⟨hp_6, rfl⟩ := hp_6
  by_cases b_7 : bIn d 0 7
  · rw [if_pos b_7] at hp_6
    subst hp_6
    refine lv_if_eq (tgt := 29) hx hb dX7_run_14 (by decide) (fun h => absurd (show (1 : Int32) = 0 from h) (by decide)) (fun _ => ?_)
    refine lv_iload_n hx hb dX7_run_17 rfl (lv_at hl 2 rfl) ?_
    refine lv_i2l (v := (q).toInt64) hx hb dX7_run_18 (by rfl) ?_
    refine lv_lconst (v := 1) hx hb dX7_run_19 (by decide) ?_
    refine lv_ldc2 (v := 500) hx hb hC.1.2.2.2.1 (hC.1.2.2.2.2 _ qX7_181) dX7_run_20 ?_
    refine zgoi hZ hA (zrunS (As := [.long ((q).toInt64), .long 1, .long 500]) (rest := []) hC hZ (c_X7_in l D cy n ad F_1 H.size q 1 500 1 500 (by decide) (by decide)) mX7_in sX7_in kX7_63 (zRj_of rfl) rfl hl.1 rfl (Nat.le_of_ble_eq_true rfl) dX7_run_23 ⟨Nat.le_refl _, Nat.le_refl _⟩) (fun r_9 F_8 hp_10 H locs hZ => ?_)
    obtain ⟨hp_10, rfl⟩ := hp_10
    by_cases b_11 : bIn q 1 500
    · rw [if_pos b_11] at hp_10
      subst hp_10
      refine lv_if_ne (tgt := 31) hx hb dX7_run_26 (by decide) (fun _ => ?_) (fun h => absurd (show (1 : Int32) = 0 from h) (by decide))
      refine lv_aload_n hx hb dX7_run_31 rfl (lv_at hl 0 rfl) ?_
      refine zget hC hZ fX7_148 (zlt hn rfl) h_3 rfl dX7_run_32 ?_
      refine lv_iload_n hx hb dX7_run_35 rfl (lv_at hl 2 rfl) ?_
      refine lv_iadd hx hb dX7_run_36 ?_
      refine lv_sipush (v := 9999) hx hb dX7_run_37 (by decide) ?_
      refine lv_icmp_le (tgt := 46) hx hb dX7_run_40 (by decide) (fun c_40 => ?_) (fun c_40 => ?_)
      · refine lv_aload_n hx hb dX7_run_46 rfl (lv_at hl 0 rfl) ?_
        refine lv_iload_n hx hb dX7_run_47 rfl (lv_at hl 1 rfl) ?_
        refine zgoi hZ hA (zrunV (As := [.int d]) (rest := []) (k := 56) hC hZ (c_X7_wrongStory l D cy n ad F_1 H.size sc.1 sc.2.1 sc.2.2.2.1 sc.2.2.2.2 0 bs en u st kk dw ho sv pic ia tk hn h_3 hw (zne hF_2 (by decide) h61) d) mX7_wrongStory vX7_wrongStory kX7_142 (zRj_of rfl) (zlt hn rfl) h_3 rfl rfl hl.1 rfl (Nat.le_of_ble_eq_true rfl) dX7_run_48 ⟨Nat.le_refl _, Nat.le_refl _⟩) (fun r_13 F_12 hp_14 H locs hZ => ?_)
        rw [mStR_eq hHW] at hp_14
        obtain ⟨rfl, rfl⟩ := hp_14
        refine lv_if_ge (tgt := 60) hx hb dX7_run_51 (by decide) (fun c_51 => ?_) (fun c_51 => ?_)
        · refine lv_aload_n hx hb dX7_run_60 rfl (lv_at hl 0 rfl) ?_
          refine lv_iload_n hx hb dX7_run_61 rfl (lv_at hl 1 rfl) ?_
          have hz_15 : (sStR sh d) = 0 := sStR_ge (Int32.not_lt.mpr c_51)
          have hs := sStR_0 hz_15
          have hd := hs.1
          have ht : (sh (iN d)).2.1 = (kd (iN d), fg (iN d)) := (hRS _ hd.2).2.1 hs.2
          have hgt : gT (kd (iN d), fg (iN d)) := by rw [← ht]; exact (hG.2.2 _ hd.2).1 hs.2
          refine zgov hZ hA (zrunV (As := [.int d]) (rest := []) (k := 56) hC hZ (c_X7_tellOn l D cy n ad F_1 H.size sc.1 sc.2.1 sc.2.2.2.1 sc.2.2.2.2 0 bs en u st kk dw ho sv pic ia tk hn h_3 kd (zne hF_2 (by decide) h62) fg (zne hF_2 (by decide) h63) d hd) mX7_tellOn vX7_tellOn kX7_145 (zRj_of rfl) (zlt hn rfl) h_3 rfl rfl hl.1 rfl (Nat.le_of_ble_eq_true rfl) dX7_run_62 ⟨Nat.le_refl _, Nat.le_refl _⟩) (fun F_16 hp_18 H locs hZ => ?_)
          have h_19 := zeq hp_18
          refine lv_iconst (v := 0) hx hb dX7_run_65 (by decide) ?_
          refine lv_istore_n (lv' := [(3, .int 0), (0, .ref (ad 56)), (1, .int d), (2, .int q)]) hx hb dX7_run_66 rfl hl (by decide) rfl (fun ls hl => ?_)
          have hq5 := bIn_n (N := 500) b_11 (by decide) rfl
          refine zlp (X := Nat) 67 (fun _ => []) (fun x ls F1 => lv_has ls 4 [(3, .int (nI x)), (0, .ref (ad 56)), (1, .int d), (2, .int q)] ∧ F1 = va_up F_16 56 (oModel ad sc.1 sc.2.1 sc.2.2.2.1 (sIt (sF (kd (iN d), fg (iN d)) sc) x sc.2.2.2.2) 0 bs en u st (sKick (kd (iN d), fg (iN d)) sc.1) (sDraw (kd (iN d), fg (iN d))) (sHold (kd (iN d), fg (iN d))) sv pic ia tk) ∧ (x ≤ iN q)) (fun x => iN q - x) ?_ 0 hZ ⟨hl, (zself h_19), (Nat.zero_le _)⟩
          intro i ih67 ls F3_67 H locs hZ hφ
          obtain ⟨hl, hF3_67, hi⟩ := hφ
          have hl : lv_has ls 4 [(3, .int (nI i)), (0, .ref (ad 56)), (1, .int d), (2, .int q)] := hl
          have hF3_67 : F3_67 = va_up F_16 56 (oModel ad sc.1 sc.2.1 sc.2.2.2.1 (sIt (sF (kd (iN d), fg (iN d)) sc) i sc.2.2.2.2) 0 bs en u st (sKick (kd (iN d), fg (iN d)) sc.1) (sDraw (kd (iN d), fg (iN d))) (sHold (kd (iN d), fg (iN d))) sv pic ia tk) := hF3_67
          have hi : i ≤ iN q := hi
          have h_20 := zeq hF3_67
          refine lv_iload_n hx hb dX7_run_67 rfl (lv_at hl 0 rfl) ?_
          refine lv_iload_n hx hb dX7_run_68 rfl (lv_at hl 3 rfl) ?_
          refine lv_icmp_ge (tgt := 82) hx hb dX7_run_69 (by decide) (fun c_69 => ?_) (fun c_69 => ?_)
          · refine lv_aload_n hx hb dX7_run_82 rfl (lv_at hl 1 rfl) ?_
            refine zget hC hZ fX7_148 (zlt hn rfl) h_20 rfl dX7_run_83 ?_
            have hiq : i = iN q := zge hq5.1 (by omega) hi c_69
            have h56x := h_20
            rw [hiq] at h56x
            have hq : ((sIt (sF (kd (iN d), fg (iN d)) sc) i sc.2.2.2.2).1 : Int32) = sRun sc sh d q := by unfold sRun sRunC; rw [if_pos (⟨bIn7.mp b_7, b_11⟩ : bRun d q), if_pos c_40, if_pos hz_15, ht, hiq]
            have hfm_21 : frM F F3_67 := (frM_up (frM_up (frM_up frM_rf hF_2 (by decide) (by decide)) hp_18 (by decide) (by decide)) hF3_67 (by decide) (by decide))
            exact zireti hC hZ hr hlocks ⟨hq, (by unfold sRunS sRunC; rw [if_pos ⟨(⟨bIn7.mp b_7, b_11⟩ : bRun d q), c_40, hz_15⟩, ht]; exact ⟨⟨bs, en, u, st, (sKick (kd (iN d), fg (iN d)) sc.1), (sDraw (kd (iN d), fg (iN d))), (sHold (kd (iN d), fg (iN d))), sv, ia, tk, told, pl, nu, im, hw, kd, fg, so, mn, rw0, bt, h56x, (zne hF3_67 (by decide) (zne hp_18 (by decide) (zne hF_2 (by decide) h57))), (zne hF3_67 (by decide) (zne hp_18 (by decide) (zne hF_2 (by decide) h58))), (zne hF3_67 (by decide) (zne hp_18 (by decide) (zne hF_2 (by decide) h59))), (zne hF3_67 (by decide) (zne hp_18 (by decide) (zne hF_2 (by decide) h60))), (zne hF3_67 (by decide) (zne hp_18 (by decide) (zne hF_2 (by decide) h61))), (zne hF3_67 (by decide) (zne hp_18 (by decide) (zne hF_2 (by decide) h62))), (zne hF3_67 (by decide) (zne hp_18 (by decide) (zne hF_2 (by decide) h63))), (zne hF3_67 (by decide) (zne hp_18 (by decide) (zne hF_2 (by decide) h64))), (zne hF3_67 (by decide) (zne hp_18 (by decide) (zne hF_2 (by decide) h65))), (zne hF3_67 (by decide) (zne hp_18 (by decide) (zne hF_2 (by decide) h66))), (zne hF3_67 (by decide) (zne hp_18 (by decide) (zne hF_2 (by decide) h67))), hR⟩, hfm_21⟩)⟩ dX7_run_86
          · refine lv_aload_n hx hb dX7_run_72 rfl (lv_at hl 1 rfl) ?_
            refine zgov hZ hA (zrunV (As := []) (rest := []) (k := 56) hC hZ (c_X7_tickOn l D cy n ad F3_67 H.size sc.1 sc.2.1 sc.2.2.2.1 (sIt (sF (kd (iN d), fg (iN d)) sc) i sc.2.2.2.2) 0 bs en u st (sKick (kd (iN d), fg (iN d)) sc.1) (sDraw (kd (iN d), fg (iN d))) (sHold (kd (iN d), fg (iN d))) sv pic ia tk hn h_20 (sIt_gC (gK_sc hgt hG.1) hG.1.2.2.2.2.2.2.1 i)) mX7_tickOn vX7_tickOn kX7_183 (zRj_of rfl) (zlt hn rfl) h_20 rfl rfl hl.1 rfl (Nat.le_of_ble_eq_true rfl) dX7_run_73 ⟨Nat.le_refl _, Nat.le_refl _⟩) (fun F_22 hp_24 H locs hZ => ?_)
            have h_25 := zeq hp_24
            refine lv_iinc (v := nI (i + 1)) (lv' := [(3, .int (nI (i + 1))), (0, .ref (ad 56)), (1, .int d), (2, .int q)]) hx hb dX7_run_76 hl (k := 0) rfl (nI_1 i) (by decide) rfl (fun ls hl => ?_)
            refine lv_goto (tgt := 67) hx hb dX7_run_79 (by decide) ?_
            have hlt := zlt2 hq5.1 (by omega) c_69
            have he_26 : F_22 = va_up F_16 56 (oModel ad sc.1 sc.2.1 sc.2.2.2.1 (sStep (sKick (kd (iN d), fg (iN d)) sc.1) (100 - (sKick (kd (iN d), fg (iN d)) sc.1) - (sDraw (kd (iN d), fg (iN d))) + (sHold (kd (iN d), fg (iN d)))) sc.1.2.2.2 sc.2.1 (sIt (sF (kd (iN d), fg (iN d)) sc) i sc.2.2.2.2)) 0 bs en u st (sKick (kd (iN d), fg (iN d)) sc.1) (sDraw (kd (iN d), fg (iN d))) (sHold (kd (iN d), fg (iN d))) sv pic ia tk) := by rw [hp_24, hF3_67]; simp only [bx_uu]
            exact ih67 (i + 1) ls _ H locs (by show iN q - (i + 1) < iN q - i; omega) hZ ⟨hl, he_26, hlt⟩
        · refine lv_aload_n hx hb dX7_run_54 rfl (lv_at hl 0 rfl) ?_
          refine lv_iload_n hx hb dX7_run_55 rfl (lv_at hl 1 rfl) ?_
          refine zgoi hZ hA (zrunV (As := [.int d]) (rest := []) (k := 56) hC hZ (c_X7_wrongStory l D cy n ad F_1 H.size sc.1 sc.2.1 sc.2.2.2.1 sc.2.2.2.2 0 bs en u st kk dw ho sv pic ia tk hn h_3 hw (zne hF_2 (by decide) h61) d) mX7_wrongStory vX7_wrongStory kX7_142 (zRj_of rfl) (zlt hn rfl) h_3 rfl rfl hl.1 rfl (Nat.le_of_ble_eq_true rfl) dX7_run_56 ⟨Nat.le_refl _, Nat.le_refl _⟩) (fun r_28 F_27 hp_29 H locs hZ => ?_)
          rw [mStR_eq hHW] at hp_29
          obtain ⟨rfl, rfl⟩ := hp_29
          have hz_30 : (sStR sh d) < 0 := Int32.not_le.mp c_51
          have hq : ((sStR sh d) : Int32) = sRun sc sh d q := by unfold sRun; rw [if_pos (⟨bIn7.mp b_7, b_11⟩ : bRun d q), if_pos c_40, if_neg (neg_n0 hz_30)]
          have hfm_31 : frM F F_1 := (frM_up frM_rf hF_2 (by decide) (by decide))
          exact zireti hC hZ hr hlocks ⟨hq, (by rw [show sRunS sc sh d q = sc from if_neg (fun h => neg_n0 hz_30 h.2.2)]; exact ⟨⟨bs, en, u, st, kk, dw, ho, sv, ia, tk, told, pl, nu, im, hw, kd, fg, so, mn, rw0, bt, h_3, (zne hF_2 (by decide) h57), (zne hF_2 (by decide) h58), (zne hF_2 (by decide) h59), (zne hF_2 (by decide) h60), (zne hF_2 (by decide) h61), (zne hF_2 (by decide) h62), (zne hF_2 (by decide) h63), (zne hF_2 (by decide) h64), (zne hF_2 (by decide) h65), (zne hF_2 (by decide) h66), (zne hF_2 (by decide) h67), hR⟩, hfm_31⟩)⟩ dX7_run_59
      · refine lv_bipush (v := (-2)) hx hb dX7_run_43 (by decide) ?_
        have hq : ((-2) : Int32) = sRun sc sh d q := by unfold sRun; rw [if_pos (⟨bIn7.mp b_7, b_11⟩ : bRun d q), if_neg c_40]
        have hfm_32 : frM F F_1 := (frM_up frM_rf hF_2 (by decide) (by decide))
        exact zireti hC hZ hr hlocks ⟨hq, (by rw [show sRunS sc sh d q = sc from if_neg (fun h => c_40 h.2.1)]; exact ⟨⟨bs, en, u, st, kk, dw, ho, sv, ia, tk, told, pl, nu, im, hw, kd, fg, so, mn, rw0, bt, h_3, (zne hF_2 (by decide) h57), (zne hF_2 (by decide) h58), (zne hF_2 (by decide) h59), (zne hF_2 (by decide) h60), (zne hF_2 (by decide) h61), (zne hF_2 (by decide) h62), (zne hF_2 (by decide) h63), (zne hF_2 (by decide) h64), (zne hF_2 (by decide) h65), (zne hF_2 (by decide) h66), (zne hF_2 (by decide) h67), hR⟩, hfm_32⟩)⟩ dX7_run_45
    · rw [if_neg b_11] at hp_10
      subst hp_10
      refine lv_if_ne (tgt := 31) hx hb dX7_run_26 (by decide) (fun h => absurd (show (0 : Int32) = 0 by decide) h) (fun _ => ?_)
      refine lv_iconst (v := (-1)) hx hb dX7_run_29 (by decide) ?_
      have hq : ((-1) : Int32) = sRun sc sh d q := by exact (if_neg (fun h : bRun d q => b_11 h.2)).symm
      have hfm_33 : frM F F_1 := (frM_up frM_rf hF_2 (by decide) (by decide))
      exact zireti hC hZ hr hlocks ⟨hq, (by rw [show sRunS sc sh d q = sc from if_neg (fun h => absurd h.1 (fun h : bRun d q => b_11 h.2))]; exact ⟨⟨bs, en, u, st, kk, dw, ho, sv, ia, tk, told, pl, nu, im, hw, kd, fg, so, mn, rw0, bt, h_3, (zne hF_2 (by decide) h57), (zne hF_2 (by decide) h58), (zne hF_2 (by decide) h59), (zne hF_2 (by decide) h60), (zne hF_2 (by decide) h61), (zne hF_2 (by decide) h62), (zne hF_2 (by decide) h63), (zne hF_2 (by decide) h64), (zne hF_2 (by decide) h65), (zne hF_2 (by decide) h66), (zne hF_2 (by decide) h67), hR⟩, hfm_33⟩)⟩ dX7_run_30
  · rw [if_neg b_7] at hp_6
    subst hp_6
    refine lv_if_eq (tgt := 29) hx hb dX7_run_14 (by decide) (fun _ => ?_) (fun h => absurd (show (0 : Int32) = 0 by decide) h)
    refine lv_iconst (v := (-1)) hx hb dX7_run_29 (by decide) ?_
    have hq : ((-1) : Int32) = sRun sc sh d q := by exact (if_neg (fun h : bRun d q => b_7 (bIn7.mpr h.1))).symm
    have hfm_34 : frM F F_1 := (frM_up frM_rf hF_2 (by decide) (by decide))
    exact zireti hC hZ hr hlocks ⟨hq, (by rw [show sRunS sc sh d q = sc from if_neg (fun h => absurd h.1 (fun h : bRun d q => b_7 (bIn7.mpr h.1)))]; exact ⟨⟨bs, en, u, st, kk, dw, ho, sv, ia, tk, told, pl, nu, im, hw, kd, fg, so, mn, rw0, bt, h_3, (zne hF_2 (by decide) h57), (zne hF_2 (by decide) h58), (zne hF_2 (by decide) h59), (zne hF_2 (by decide) h60), (zne hF_2 (by decide) h61), (zne hF_2 (by decide) h62), (zne hF_2 (by decide) h63), (zne hF_2 (by decide) h64), (zne hF_2 (by decide) h65), (zne hF_2 (by decide) h66), (zne hF_2 (by decide) h67), hR⟩, hfm_34⟩)⟩ dX7_run_30

theorem mX7_without : zMd yX7_without cX7_without 5 (some .int) 2 := ⟨by decide +kernel, gt_of 1039 (by decide +kernel) rfl, gt_of 52 (by decide +kernel) rfl, by decide⟩
theorem dX7_without_0 : decode cX7_without 0 = .ok (.aload_n 0, 1) := by decide +kernel
theorem dX7_without_1 : decode cX7_without 1 = .ok (.iconst 0, 1) := by decide +kernel
theorem dX7_without_2 : decode cX7_without 2 = .ok (.putfield 57, 3) := by decide +kernel
theorem dX7_without_5 : decode cX7_without 5 = .ok (.iload_n 2, 1) := by decide +kernel
theorem dX7_without_6 : decode cX7_without 6 = .ok (.i2l, 1) := by decide +kernel
theorem dX7_without_7 : decode cX7_without 7 = .ok (.lconst 1, 1) := by decide +kernel
theorem dX7_without_8 : decode cX7_without 8 = .ok (.ldc2_w 181, 3) := by decide +kernel
theorem dX7_without_11 : decode cX7_without 11 = .ok (.invokestatic 63, 3) := by decide +kernel
theorem dX7_without_14 : decode cX7_without 14 = .ok (.ifCond .ne 7, 3) := by decide +kernel
theorem dX7_without_21 : decode cX7_without 21 = .ok (.aload_n 0, 1) := by decide +kernel
theorem dX7_without_22 : decode cX7_without 22 = .ok (.iload_n 1, 1) := by decide +kernel
theorem dX7_without_23 : decode cX7_without 23 = .ok (.invokevirtual 142, 3) := by decide +kernel
theorem dX7_without_26 : decode cX7_without 26 = .ok (.istore_n 3, 1) := by decide +kernel
theorem dX7_without_27 : decode cX7_without 27 = .ok (.iload_n 3, 1) := by decide +kernel
theorem dX7_without_28 : decode cX7_without 28 = .ok (.ifCond .ge 8, 3) := by decide +kernel
theorem dX7_without_36 : decode cX7_without 36 = .ok (.aload_n 0, 1) := by decide +kernel
theorem dX7_without_37 : decode cX7_without 37 = .ok (.iload_n 1, 1) := by decide +kernel
theorem dX7_without_38 : decode cX7_without 38 = .ok (.invokevirtual 145, 3) := by decide +kernel
theorem dX7_without_41 : decode cX7_without 41 = .ok (.aload_n 0, 1) := by decide +kernel
theorem dX7_without_42 : decode cX7_without 42 = .ok (.iload_n 2, 1) := by decide +kernel
theorem dX7_without_43 : decode cX7_without 43 = .ok (.invokevirtual 230, 3) := by decide +kernel
theorem kX7_230 : zLk RX7 230 yX7_paceAfter := Or.inl (gt_of 1044 (by decide +kernel) rfl)
theorem vX7_paceAfter : zMi yX7_paceAfter := ⟨gt_of 1046 (by decide +kernel) rfl, gt_of 38 (by decide +kernel) rfl⟩
theorem dX7_without_46 : decode cX7_without 46 = .ok (.istore 4, 2) := by decide +kernel
theorem dX7_without_48 : decode cX7_without 48 = .ok (.aload_n 0, 1) := by decide +kernel
theorem dX7_without_49 : decode cX7_without 49 = .ok (.iconst 0, 1) := by decide +kernel
theorem dX7_without_50 : decode cX7_without 50 = .ok (.iconst 0, 1) := by decide +kernel
theorem dX7_without_51 : decode cX7_without 51 = .ok (.aload_n 0, 1) := by decide +kernel
theorem dX7_without_52 : decode cX7_without 52 = .ok (.getfield 7, 3) := by decide +kernel
theorem dX7_without_55 : decode cX7_without 55 = .ok (.aload_n 0, 1) := by decide +kernel
theorem dX7_without_56 : decode cX7_without 56 = .ok (.getfield 13, 3) := by decide +kernel
theorem dX7_without_59 : decode cX7_without 59 = .ok (.aload_n 0, 1) := by decide +kernel
theorem dX7_without_60 : decode cX7_without 60 = .ok (.getfield 70, 3) := by decide +kernel
theorem dX7_without_63 : decode cX7_without 63 = .ok (.invokevirtual 134, 3) := by decide +kernel
theorem dX7_without_66 : decode cX7_without 66 = .ok (.iload 4, 2) := by decide +kernel
theorem dX7_without_68 : decode cX7_without 68 = .ok (.aload_n 0, 1) := by decide +kernel
theorem dX7_without_69 : decode cX7_without 69 = .ok (.iload_n 2, 1) := by decide +kernel
theorem dX7_without_70 : decode cX7_without 70 = .ok (.invokevirtual 230, 3) := by decide +kernel
theorem dX7_without_73 : decode cX7_without 73 = .ok (.isub, 1) := by decide +kernel
theorem dX7_without_74 : decode cX7_without 74 = .ok (.ireturn, 1) := by decide +kernel
theorem dX7_without_31 : decode cX7_without 31 = .ok (.iload_n 3, 1) := by decide +kernel
theorem dX7_without_32 : decode cX7_without 32 = .ok (.invokestatic 227, 3) := by decide +kernel
theorem dX7_without_35 : decode cX7_without 35 = .ok (.ireturn, 1) := by decide +kernel
theorem dX7_without_17 : decode cX7_without 17 = .ok (.iconst (-1), 1) := by decide +kernel
theorem dX7_without_18 : decode cX7_without 18 = .ok (.goto 8, 3) := by decide +kernel
set_option maxRecDepth 100000 in
theorem c_X7_without (l : Launch) (D : va_G) (cy : Nat → Nat) (n : Nat) (ad : Nat → Nat) (F : Nat → va_E) (sz : Nat) (th0 pic : Int32) (sc ps : Scn) (sh : Nat → Shf) (hn : 68 ≤ n) (hX : RM ad cy F th0 pic sc ps sh) (hG : gX sc ps sh) (d q : Int32) : Met l yX7_without (zw yX7_without cX7_without 5 (some .int)) (rmL 3) (zPc D cy n ad F sz [.ref (ad 56), .int d, .int q]) (va_Qi (fun r F1 => r = zrA (bIn q 1 500) (sStR sh d) ((sPB (sh (iN d)).2.1 sc 0 (iN q)).2.1 - (sPB (0, 0) sc 0 (iN q)).2.1) ∧ RM ad cy F1 0 pic sc ps sh ∧ frM F F1) (zB D n ad) (zA n ad sz)) 0 0 (zA n ad sz) := by
  refine zmet (by decide +kernel) (Nat.le_of_ble_eq_true rfl) (fun p e s m args below meth c ls hC hsz hZ hA hr hlocks hnm hl => ?_)
  have hC : zC p m c cX7_without 5 s args RX7 D cy := hC
  have hx := hC.1.1
  have hb := hC.1.2.1
  have hl : lv_has ls 5 [(0, .ref (ad 56)), (1, .int d), (2, .int q)] := hl
  obtain ⟨bs, en, u, st, kk, dw, ho, sv, ia, tk, told, pl, nu, im, hw, kd, fg, so, mn, rw0, bt, hM, h57, h58, h59, h60, h61, h62, h63, h64, h65, h66, h67, hR⟩ := hX
  have hRS := hR.2.2
  have hHW := rX_hw hR
  refine lv_aload_n hx hb dX7_without_0 rfl (lv_at hl 0 rfl) ?_
  refine lv_iconst (v := 0) hx hb dX7_without_1 (by decide) ?_
  refine zput (E := oModel ad sc.1 sc.2.1 sc.2.2.2.1 sc.2.2.2.2 0 bs en u st kk dw ho sv pic ia tk) hC hZ pX7_57 (zlt hn rfl) hM rfl rfl rfl (Nat.le_of_ble_eq_true rfl) dX7_without_2 (fun F_1 hF_2 H locs hZ => ?_)
  have h_3 := zeq hF_2
  refine lv_iload_n hx hb dX7_without_5 rfl (lv_at hl 2 rfl) ?_
  refine lv_i2l (v := (q).toInt64) hx hb dX7_without_6 (by rfl) ?_
  refine lv_lconst (v := 1) hx hb dX7_without_7 (by decide) ?_
  refine lv_ldc2 (v := 500) hx hb hC.1.2.2.2.1 (hC.1.2.2.2.2 _ qX7_181) dX7_without_8 ?_
  refine zgoi hZ hA (zrunS (As := [.long ((q).toInt64), .long 1, .long 500]) (rest := []) hC hZ (c_X7_in l D cy n ad F_1 H.size q 1 500 1 500 (by decide) (by decide)) mX7_in sX7_in kX7_63 (zRj_of rfl) rfl hl.1 rfl (Nat.le_of_ble_eq_true rfl) dX7_without_11 ⟨Nat.le_refl _, Nat.le_refl _⟩) (fun r_5 F_4 hp_6 H locs hZ => ?_)
  obtain ⟨hp_6, rfl⟩ := hp_6
  by_cases b_7 : bIn q 1 500
  · rw [if_pos b_7] at hp_6
    subst hp_6
    refine lv_if_ne (tgt := 21) hx hb dX7_without_14 (by decide) (fun _ => ?_) (fun h => absurd (show (1 : Int32) = 0 from h) (by decide))
    refine lv_aload_n hx hb dX7_without_21 rfl (lv_at hl 0 rfl) ?_
    refine lv_iload_n hx hb dX7_without_22 rfl (lv_at hl 1 rfl) ?_
    refine zgoi hZ hA (zrunV (As := [.int d]) (rest := []) (k := 56) hC hZ (c_X7_wrongStory l D cy n ad F_1 H.size sc.1 sc.2.1 sc.2.2.2.1 sc.2.2.2.2 0 bs en u st kk dw ho sv pic ia tk hn h_3 hw (zne hF_2 (by decide) h61) d) mX7_wrongStory vX7_wrongStory kX7_142 (zRj_of rfl) (zlt hn rfl) h_3 rfl rfl hl.1 rfl (Nat.le_of_ble_eq_true rfl) dX7_without_23 ⟨Nat.le_refl _, Nat.le_refl _⟩) (fun r_9 F_8 hp_10 H locs hZ => ?_)
    rw [mStR_eq hHW] at hp_10
    obtain ⟨rfl, rfl⟩ := hp_10
    refine lv_istore_n (lv' := [(3, .int (sStR sh d)), (0, .ref (ad 56)), (1, .int d), (2, .int q)]) hx hb dX7_without_26 rfl hl (by decide) rfl (fun ls hl => ?_)
    refine lv_iload_n hx hb dX7_without_27 rfl (lv_at hl 0 rfl) ?_
    refine lv_if_ge (tgt := 36) hx hb dX7_without_28 (by decide) (fun c_28 => ?_) (fun c_28 => ?_)
    · refine lv_aload_n hx hb dX7_without_36 rfl (lv_at hl 1 rfl) ?_
      refine lv_iload_n hx hb dX7_without_37 rfl (lv_at hl 2 rfl) ?_
      have hz_11 : (sStR sh d) = 0 := sStR_ge (Int32.not_lt.mpr c_28)
      have hs := sStR_0 hz_11
      have hd := hs.1
      have ht : (sh (iN d)).2.1 = (kd (iN d), fg (iN d)) := (hRS _ hd.2).2.1 hs.2
      have hgt : gT (kd (iN d), fg (iN d)) := by rw [← ht]; exact (hG.2.2 _ hd.2).1 hs.2
      refine zgov hZ hA (zrunV (As := [.int d]) (rest := []) (k := 56) hC hZ (c_X7_tellOn l D cy n ad F_1 H.size sc.1 sc.2.1 sc.2.2.2.1 sc.2.2.2.2 0 bs en u st kk dw ho sv pic ia tk hn h_3 kd (zne hF_2 (by decide) h62) fg (zne hF_2 (by decide) h63) d hd) mX7_tellOn vX7_tellOn kX7_145 (zRj_of rfl) (zlt hn rfl) h_3 rfl rfl hl.1 rfl (Nat.le_of_ble_eq_true rfl) dX7_without_38 ⟨Nat.le_refl _, Nat.le_refl _⟩) (fun F_12 hp_14 H locs hZ => ?_)
      have h_15 := zeq hp_14
      refine lv_aload_n hx hb dX7_without_41 rfl (lv_at hl 1 rfl) ?_
      refine lv_iload_n hx hb dX7_without_42 rfl (lv_at hl 3 rfl) ?_
      refine zgoi hZ hA (zrunV (As := [.int q]) (rest := []) (k := 56) hC hZ (c_X7_paceAfter l D cy n ad F_12 H.size sc.1 sc.2.1 sc.2.2.2.1 sc.2.2.2.2 0 bs en u st (sKick (kd (iN d), fg (iN d)) sc.1) (sDraw (kd (iN d), fg (iN d))) (sHold (kd (iN d), fg (iN d))) sv pic ia tk hn h_15 q (bIn_n (N := 500) b_7 (by decide) rfl) (gK_sc hgt hG.1)) mX7_paceAfter vX7_paceAfter kX7_230 (zRj_of rfl) (zlt hn rfl) h_15 rfl rfl hl.1 rfl (Nat.le_of_ble_eq_true rfl) dX7_without_43 ⟨Nat.le_refl _, Nat.le_refl _⟩) (fun r_17 F_16 hp_18 H locs hZ => ?_)
      obtain ⟨h_19, hp_20⟩ := hp_18
      have h_19 : r_17 = (sIt (sF (kd (iN d), fg (iN d)) sc) (iN q) sCC).2.1 := h_19
      subst h_19
      have h_21 := zeq hp_20
      refine lv_istore (lv' := [(4, .int ((sIt (sF (kd (iN d), fg (iN d)) sc) (iN q) sCC).2.1)), (3, .int (sStR sh d)), (0, .ref (ad 56)), (1, .int d), (2, .int q)]) hx hb dX7_without_46 hl (by decide) rfl (fun ls hl => ?_)
      refine lv_aload_n hx hb dX7_without_48 rfl (lv_at hl 2 rfl) ?_
      refine lv_iconst (v := 0) hx hb dX7_without_49 (by decide) ?_
      refine lv_iconst (v := 0) hx hb dX7_without_50 (by decide) ?_
      refine lv_aload_n hx hb dX7_without_51 rfl (lv_at hl 2 rfl) ?_
      refine zget hC hZ fX7_7 (zlt hn rfl) h_21 rfl dX7_without_52 ?_
      refine lv_aload_n hx hb dX7_without_55 rfl (lv_at hl 2 rfl) ?_
      refine zget hC hZ fX7_13 (zlt hn rfl) h_21 rfl dX7_without_56 ?_
      refine lv_aload_n hx hb dX7_without_59 rfl (lv_at hl 2 rfl) ?_
      refine zget hC hZ fX7_70 (zlt hn rfl) h_21 rfl dX7_without_60 ?_
      refine zgov hZ hA (zrunV (As := [.int 0, .int 0, .int sc.1.1, .int sc.1.2.1, .int sc.1.2.2.1]) (rest := []) (k := 56) hC hZ (c_X7_tell l D cy n ad F_16 H.size sc.1 sc.2.1 sc.2.2.2.1 sc.2.2.2.2 0 bs en u st (sKick (kd (iN d), fg (iN d)) sc.1) (sDraw (kd (iN d), fg (iN d))) (sHold (kd (iN d), fg (iN d))) sc.2.2.2.2 pic ia tk hn h_21 (0, 0) sc.1) mX7_tell vX7_tell kX7_134 (zRj_of rfl) (zlt hn rfl) h_21 rfl rfl hl.1 rfl (Nat.le_of_ble_eq_true rfl) dX7_without_63 ⟨Nat.le_refl _, Nat.le_refl _⟩) (fun F_22 hp_24 H locs hZ => ?_)
      have h_25 := zeq hp_24
      refine lv_iload hx hb dX7_without_66 (lv_at hl 0 rfl) ?_
      refine lv_aload_n hx hb dX7_without_68 rfl (lv_at hl 2 rfl) ?_
      refine lv_iload_n hx hb dX7_without_69 rfl (lv_at hl 4 rfl) ?_
      refine zgoi hZ hA (zrunV (As := [.int q]) (rest := [.int ((sIt (sF (kd (iN d), fg (iN d)) sc) (iN q) sCC).2.1)]) (k := 56) hC hZ (c_X7_paceAfter l D cy n ad F_22 H.size sc.1 sc.2.1 sc.2.2.2.1 sc.2.2.2.2 0 bs en u st (sKick (0, 0) sc.1) (sDraw (0, 0)) (sHold (0, 0)) sc.2.2.2.2 pic ia tk hn h_25 q (bIn_n (N := 500) b_7 (by decide) rfl) (gK_sc (t := (0, 0)) ⟨by decide, by decide, by decide, by decide⟩ hG.1)) mX7_paceAfter vX7_paceAfter kX7_230 (zRj_of rfl) (zlt hn rfl) h_25 rfl rfl hl.1 rfl (Nat.le_of_ble_eq_true rfl) dX7_without_70 ⟨Nat.le_refl _, Nat.le_refl _⟩) (fun r_27 F_26 hp_28 H locs hZ => ?_)
      obtain ⟨h_29, hp_30⟩ := hp_28
      have h_29 : r_27 = (sIt (sF (0, 0) sc) (iN q) sCC).2.1 := h_29
      subst h_29
      have h_31 := zeq hp_30
      have h_32 := zne hp_30 (by decide) (zne hp_24 (by decide) (zne hp_20 (by decide) (zne hp_14 (by decide) (zne hF_2 (by decide) h57))))
      have h_33 := zne hp_30 (by decide) (zne hp_24 (by decide) (zne hp_20 (by decide) (zne hp_14 (by decide) (zne hF_2 (by decide) h58))))
      have h_34 := zne hp_30 (by decide) (zne hp_24 (by decide) (zne hp_20 (by decide) (zne hp_14 (by decide) (zne hF_2 (by decide) h59))))
      have h_35 := zne hp_30 (by decide) (zne hp_24 (by decide) (zne hp_20 (by decide) (zne hp_14 (by decide) (zne hF_2 (by decide) h60))))
      have h_36 := zne hp_30 (by decide) (zne hp_24 (by decide) (zne hp_20 (by decide) (zne hp_14 (by decide) (zne hF_2 (by decide) h61))))
      have h_37 := zne hp_30 (by decide) (zne hp_24 (by decide) (zne hp_20 (by decide) (zne hp_14 (by decide) (zne hF_2 (by decide) h62))))
      have h_38 := zne hp_30 (by decide) (zne hp_24 (by decide) (zne hp_20 (by decide) (zne hp_14 (by decide) (zne hF_2 (by decide) h63))))
      have h_39 := zne hp_30 (by decide) (zne hp_24 (by decide) (zne hp_20 (by decide) (zne hp_14 (by decide) (zne hF_2 (by decide) h64))))
      have h_40 := zne hp_30 (by decide) (zne hp_24 (by decide) (zne hp_20 (by decide) (zne hp_14 (by decide) (zne hF_2 (by decide) h65))))
      have h_41 := zne hp_30 (by decide) (zne hp_24 (by decide) (zne hp_20 (by decide) (zne hp_14 (by decide) (zne hF_2 (by decide) h66))))
      have h_42 := zne hp_30 (by decide) (zne hp_24 (by decide) (zne hp_20 (by decide) (zne hp_14 (by decide) (zne hF_2 (by decide) h67))))
      refine lv_isub hx hb dX7_without_73 ?_
      have hv : (((sIt (sF (kd (iN d), fg (iN d)) sc) (iN q) sCC).2.1 - (sIt (sF (0, 0) sc) (iN q) sCC).2.1) : Int32) = (sPB (sh (iN d)).2.1 sc 0 (iN q)).2.1 - (sPB (0, 0) sc 0 (iN q)).2.1 := by rw [ht, sPB_0, sPB_0]
      have hq : (((sIt (sF (kd (iN d), fg (iN d)) sc) (iN q) sCC).2.1 - (sIt (sF (0, 0) sc) (iN q) sCC).2.1) : Int32) = zrA (bIn q 1 500) (sStR sh d) ((sPB (sh (iN d)).2.1 sc 0 (iN q)).2.1 - (sPB (0, 0) sc 0 (iN q)).2.1) := by exact hv.trans (zrA_ok b_7 hz_11).symm
      have hfm_43 : frM F F_26 := (frM_up (frM_up (frM_up (frM_up (frM_up frM_rf hF_2 (by decide) (by decide)) hp_14 (by decide) (by decide)) hp_20 (by decide) (by decide)) hp_24 (by decide) (by decide)) hp_30 (by decide) (by decide))
      exact zireti hC hZ hr hlocks ⟨hq, ⟨bs, en, u, st, (sKick (0, 0) sc.1), (sDraw (0, 0)), (sHold (0, 0)), sc.2.2.2.2, ia, tk, told, pl, nu, im, hw, kd, fg, so, mn, rw0, bt, h_31, h_32, h_33, h_34, h_35, h_36, h_37, h_38, h_39, h_40, h_41, h_42, hR⟩, hfm_43⟩ dX7_without_74
    · refine lv_iload_n hx hb dX7_without_31 rfl (lv_at hl 0 rfl) ?_
      refine zgoi hZ hA (zrunS (As := [.int (sStR sh d)]) (rest := []) hC hZ (c_X7_far l D cy n ad F_1 H.size (sStR sh d)) mX7_far sX7_far kX7_227 (zRj_of rfl) rfl hl.1 rfl (Nat.le_of_ble_eq_true rfl) dX7_without_32 ⟨Nat.le_refl _, Nat.le_refl _⟩) (fun r_45 F_44 hp_46 H locs hZ => ?_)
      obtain ⟨rfl, rfl⟩ := hp_46
      have hz_47 : (sStR sh d) < 0 := Int32.not_le.mp c_28
      have hq : (((sStR sh d) - 1000000000) : Int32) = zrA (bIn q 1 500) (sStR sh d) ((sPB (sh (iN d)).2.1 sc 0 (iN q)).2.1 - (sPB (0, 0) sc 0 (iN q)).2.1) := by exact (far_m _).trans (zrA_rf b_7 (neg_n0 hz_47)).symm
      have hfm_48 : frM F F_1 := (frM_up frM_rf hF_2 (by decide) (by decide))
      exact zireti hC hZ hr hlocks ⟨hq, ⟨bs, en, u, st, kk, dw, ho, sv, ia, tk, told, pl, nu, im, hw, kd, fg, so, mn, rw0, bt, h_3, (zne hF_2 (by decide) h57), (zne hF_2 (by decide) h58), (zne hF_2 (by decide) h59), (zne hF_2 (by decide) h60), (zne hF_2 (by decide) h61), (zne hF_2 (by decide) h62), (zne hF_2 (by decide) h63), (zne hF_2 (by decide) h64), (zne hF_2 (by decide) h65), (zne hF_2 (by decide) h66), (zne hF_2 (by decide) h67), hR⟩, hfm_48⟩ dX7_without_35
  · rw [if_neg b_7] at hp_6
    subst hp_6
    refine lv_if_ne (tgt := 21) hx hb dX7_without_14 (by decide) (fun h => absurd (show (0 : Int32) = 0 by decide) h) (fun _ => ?_)
    refine lv_iconst (v := (-1)) hx hb dX7_without_17 (by decide) ?_
    refine lv_goto (tgt := 26) hx hb dX7_without_18 (by decide) ?_
    refine lv_istore_n (lv' := [(3, .int (-1)), (0, .ref (ad 56)), (1, .int d), (2, .int q)]) hx hb dX7_without_26 rfl hl (by decide) rfl (fun ls hl => ?_)
    refine lv_iload_n hx hb dX7_without_27 rfl (lv_at hl 0 rfl) ?_
    refine lv_if_ge (tgt := 36) hx hb dX7_without_28 (by decide) (fun h => absurd (show (0 : Int32) ≤ (-1) from h) (by decide)) (fun _ => ?_)
    refine lv_iload_n hx hb dX7_without_31 rfl (lv_at hl 0 rfl) ?_
    refine zgoi hZ hA (zrunS (As := [.int (-1)]) (rest := []) hC hZ (c_X7_far l D cy n ad F_1 H.size (-1)) mX7_far sX7_far kX7_227 (zRj_of rfl) rfl hl.1 rfl (Nat.le_of_ble_eq_true rfl) dX7_without_32 ⟨Nat.le_refl _, Nat.le_refl _⟩) (fun r_50 F_49 hp_51 H locs hZ => ?_)
    obtain ⟨rfl, rfl⟩ := hp_51
    have hq : (((-1) - 1000000000) : Int32) = zrA (bIn q 1 500) (sStR sh d) ((sPB (sh (iN d)).2.1 sc 0 (iN q)).2.1 - (sPB (0, 0) sc 0 (iN q)).2.1) := by exact (show ((-1) - 1000000000 : Int32) = -1000000000 + -1 by decide).trans (zrA_no b_7).symm
    have hfm_52 : frM F F_1 := (frM_up frM_rf hF_2 (by decide) (by decide))
    exact zireti hC hZ hr hlocks ⟨hq, ⟨bs, en, u, st, kk, dw, ho, sv, ia, tk, told, pl, nu, im, hw, kd, fg, so, mn, rw0, bt, h_3, (zne hF_2 (by decide) h57), (zne hF_2 (by decide) h58), (zne hF_2 (by decide) h59), (zne hF_2 (by decide) h60), (zne hF_2 (by decide) h61), (zne hF_2 (by decide) h62), (zne hF_2 (by decide) h63), (zne hF_2 (by decide) h64), (zne hF_2 (by decide) h65), (zne hF_2 (by decide) h66), (zne hF_2 (by decide) h67), hR⟩, hfm_52⟩ dX7_without_35

theorem mX7_floor : zMd yX7_floor cX7_floor 6 (some .int) 3 := ⟨by decide +kernel, gt_of 1067 (by decide +kernel) rfl, gt_of 52 (by decide +kernel) rfl, by decide⟩
theorem dX7_floor_0 : decode cX7_floor 0 = .ok (.aload_n 0, 1) := by decide +kernel
theorem dX7_floor_1 : decode cX7_floor 1 = .ok (.iconst 0, 1) := by decide +kernel
theorem dX7_floor_2 : decode cX7_floor 2 = .ok (.putfield 57, 3) := by decide +kernel
theorem dX7_floor_5 : decode cX7_floor 5 = .ok (.iload_n 2, 1) := by decide +kernel
theorem dX7_floor_6 : decode cX7_floor 6 = .ok (.i2l, 1) := by decide +kernel
theorem dX7_floor_7 : decode cX7_floor 7 = .ok (.lconst 0, 1) := by decide +kernel
theorem dX7_floor_8 : decode cX7_floor 8 = .ok (.ldc2_w 210, 3) := by decide +kernel
theorem qX7_210 : Cond.constantLong RX7 210 40 ∈ gtbl := gt_of 1007 (by decide +kernel) rfl
theorem dX7_floor_11 : decode cX7_floor 11 = .ok (.invokestatic 63, 3) := by decide +kernel
theorem dX7_floor_14 : decode cX7_floor 14 = .ok (.ifCond .eq 15, 3) := by decide +kernel
theorem dX7_floor_17 : decode cX7_floor 17 = .ok (.iload_n 3, 1) := by decide +kernel
theorem dX7_floor_18 : decode cX7_floor 18 = .ok (.i2l, 1) := by decide +kernel
theorem dX7_floor_19 : decode cX7_floor 19 = .ok (.lconst 1, 1) := by decide +kernel
theorem dX7_floor_20 : decode cX7_floor 20 = .ok (.ldc2_w 181, 3) := by decide +kernel
theorem dX7_floor_23 : decode cX7_floor 23 = .ok (.invokestatic 63, 3) := by decide +kernel
theorem dX7_floor_26 : decode cX7_floor 26 = .ok (.ifCond .ne 7, 3) := by decide +kernel
theorem dX7_floor_33 : decode cX7_floor 33 = .ok (.aload_n 0, 1) := by decide +kernel
theorem dX7_floor_34 : decode cX7_floor 34 = .ok (.iload_n 1, 1) := by decide +kernel
theorem dX7_floor_35 : decode cX7_floor 35 = .ok (.invokevirtual 142, 3) := by decide +kernel
theorem dX7_floor_38 : decode cX7_floor 38 = .ok (.istore 4, 2) := by decide +kernel
theorem dX7_floor_40 : decode cX7_floor 40 = .ok (.iload 4, 2) := by decide +kernel
theorem dX7_floor_42 : decode cX7_floor 42 = .ok (.ifCond .ge 9, 3) := by decide +kernel
theorem dX7_floor_51 : decode cX7_floor 51 = .ok (.aload_n 0, 1) := by decide +kernel
theorem dX7_floor_52 : decode cX7_floor 52 = .ok (.iload_n 1, 1) := by decide +kernel
theorem dX7_floor_53 : decode cX7_floor 53 = .ok (.invokevirtual 145, 3) := by decide +kernel
theorem dX7_floor_56 : decode cX7_floor 56 = .ok (.aload_n 0, 1) := by decide +kernel
theorem dX7_floor_57 : decode cX7_floor 57 = .ok (.iload_n 3, 1) := by decide +kernel
theorem dX7_floor_58 : decode cX7_floor 58 = .ok (.invokevirtual 230, 3) := by decide +kernel
theorem dX7_floor_61 : decode cX7_floor 61 = .ok (.istore 5, 2) := by decide +kernel
theorem dX7_floor_63 : decode cX7_floor 63 = .ok (.aload_n 0, 1) := by decide +kernel
theorem dX7_floor_64 : decode cX7_floor 64 = .ok (.dup, 1) := by decide +kernel
theorem dX7_floor_65 : decode cX7_floor 65 = .ok (.getfield 128, 3) := by decide +kernel
theorem dX7_floor_68 : decode cX7_floor 68 = .ok (.iload_n 2, 1) := by decide +kernel
theorem dX7_floor_69 : decode cX7_floor 69 = .ok (.iadd, 1) := by decide +kernel
theorem dX7_floor_70 : decode cX7_floor 70 = .ok (.putfield 128, 3) := by decide +kernel
theorem dX7_floor_73 : decode cX7_floor 73 = .ok (.aload_n 0, 1) := by decide +kernel
theorem dX7_floor_74 : decode cX7_floor 74 = .ok (.iload_n 3, 1) := by decide +kernel
theorem dX7_floor_75 : decode cX7_floor 75 = .ok (.invokevirtual 230, 3) := by decide +kernel
theorem dX7_floor_78 : decode cX7_floor 78 = .ok (.iload 5, 2) := by decide +kernel
theorem dX7_floor_80 : decode cX7_floor 80 = .ok (.isub, 1) := by decide +kernel
theorem dX7_floor_81 : decode cX7_floor 81 = .ok (.ireturn, 1) := by decide +kernel
theorem dX7_floor_45 : decode cX7_floor 45 = .ok (.iload 4, 2) := by decide +kernel
theorem dX7_floor_47 : decode cX7_floor 47 = .ok (.invokestatic 227, 3) := by decide +kernel
theorem dX7_floor_50 : decode cX7_floor 50 = .ok (.ireturn, 1) := by decide +kernel
theorem dX7_floor_29 : decode cX7_floor 29 = .ok (.iconst (-1), 1) := by decide +kernel
theorem dX7_floor_30 : decode cX7_floor 30 = .ok (.goto 8, 3) := by decide +kernel
set_option maxRecDepth 100000 in
theorem c_X7_floor (l : Launch) (D : va_G) (cy : Nat → Nat) (n : Nat) (ad : Nat → Nat) (F : Nat → va_E) (sz : Nat) (th0 pic : Int32) (sc ps : Scn) (sh : Nat → Shf) (hn : 68 ≤ n) (hX : RM ad cy F th0 pic sc ps sh) (hG : gX sc ps sh) (d m0 q : Int32) : Met l yX7_floor (zw yX7_floor cX7_floor 6 (some .int)) (rmL 3) (zPc D cy n ad F sz [.ref (ad 56), .int d, .int m0, .int q]) (va_Qi (fun r F1 => r = zrA (bIn m0 0 40 ∧ bIn q 1 500) (sStR sh d) ((sPB (sh (iN d)).2.1 sc m0 (iN q)).2.1 - (sPB (sh (iN d)).2.1 sc 0 (iN q)).2.1) ∧ RM ad cy F1 0 pic sc ps sh ∧ frM F F1) (zB D n ad) (zA n ad sz)) 0 0 (zA n ad sz) := by
  refine zmet (by decide +kernel) (Nat.le_of_ble_eq_true rfl) (fun p e s m args below meth c ls hC hsz hZ hA hr hlocks hnm hl => ?_)
  have hC : zC p m c cX7_floor 6 s args RX7 D cy := hC
  have hx := hC.1.1
  have hb := hC.1.2.1
  have hl : lv_has ls 6 [(0, .ref (ad 56)), (1, .int d), (2, .int m0), (3, .int q)] := hl
  obtain ⟨bs, en, u, st, kk, dw, ho, sv, ia, tk, told, pl, nu, im, hw, kd, fg, so, mn, rw0, bt, hM, h57, h58, h59, h60, h61, h62, h63, h64, h65, h66, h67, hR⟩ := hX
  have hRS := hR.2.2
  have hHW := rX_hw hR
  refine lv_aload_n hx hb dX7_floor_0 rfl (lv_at hl 0 rfl) ?_
  refine lv_iconst (v := 0) hx hb dX7_floor_1 (by decide) ?_
  refine zput (E := oModel ad sc.1 sc.2.1 sc.2.2.2.1 sc.2.2.2.2 0 bs en u st kk dw ho sv pic ia tk) hC hZ pX7_57 (zlt hn rfl) hM rfl rfl rfl (Nat.le_of_ble_eq_true rfl) dX7_floor_2 (fun F_1 hF_2 H locs hZ => ?_)
  have h_3 := zeq hF_2
  refine lv_iload_n hx hb dX7_floor_5 rfl (lv_at hl 2 rfl) ?_
  refine lv_i2l (v := (m0).toInt64) hx hb dX7_floor_6 (by rfl) ?_
  refine lv_lconst (v := 0) hx hb dX7_floor_7 (by decide) ?_
  refine lv_ldc2 (v := 40) hx hb hC.1.2.2.2.1 (hC.1.2.2.2.2 _ qX7_210) dX7_floor_8 ?_
  refine zgoi hZ hA (zrunS (As := [.long ((m0).toInt64), .long 0, .long 40]) (rest := []) hC hZ (c_X7_in l D cy n ad F_1 H.size m0 0 40 0 40 (by decide) (by decide)) mX7_in sX7_in kX7_63 (zRj_of rfl) rfl hl.1 rfl (Nat.le_of_ble_eq_true rfl) dX7_floor_11 ⟨Nat.le_refl _, Nat.le_refl _⟩) (fun r_5 F_4 hp_6 H locs hZ => ?_)
  obtain ⟨hp_6, rfl⟩ := hp_6
  by_cases b_7 : bIn m0 0 40
  · rw [if_pos b_7] at hp_6
    subst hp_6
    refine lv_if_eq (tgt := 29) hx hb dX7_floor_14 (by decide) (fun h => absurd (show (1 : Int32) = 0 from h) (by decide)) (fun _ => ?_)
    refine lv_iload_n hx hb dX7_floor_17 rfl (lv_at hl 3 rfl) ?_
    refine lv_i2l (v := (q).toInt64) hx hb dX7_floor_18 (by rfl) ?_
    refine lv_lconst (v := 1) hx hb dX7_floor_19 (by decide) ?_
    refine lv_ldc2 (v := 500) hx hb hC.1.2.2.2.1 (hC.1.2.2.2.2 _ qX7_181) dX7_floor_20 ?_
    refine zgoi hZ hA (zrunS (As := [.long ((q).toInt64), .long 1, .long 500]) (rest := []) hC hZ (c_X7_in l D cy n ad F_1 H.size q 1 500 1 500 (by decide) (by decide)) mX7_in sX7_in kX7_63 (zRj_of rfl) rfl hl.1 rfl (Nat.le_of_ble_eq_true rfl) dX7_floor_23 ⟨Nat.le_refl _, Nat.le_refl _⟩) (fun r_9 F_8 hp_10 H locs hZ => ?_)
    obtain ⟨hp_10, rfl⟩ := hp_10
    by_cases b_11 : bIn q 1 500
    · rw [if_pos b_11] at hp_10
      subst hp_10
      refine lv_if_ne (tgt := 33) hx hb dX7_floor_26 (by decide) (fun _ => ?_) (fun h => absurd (show (1 : Int32) = 0 from h) (by decide))
      refine lv_aload_n hx hb dX7_floor_33 rfl (lv_at hl 0 rfl) ?_
      refine lv_iload_n hx hb dX7_floor_34 rfl (lv_at hl 1 rfl) ?_
      refine zgoi hZ hA (zrunV (As := [.int d]) (rest := []) (k := 56) hC hZ (c_X7_wrongStory l D cy n ad F_1 H.size sc.1 sc.2.1 sc.2.2.2.1 sc.2.2.2.2 0 bs en u st kk dw ho sv pic ia tk hn h_3 hw (zne hF_2 (by decide) h61) d) mX7_wrongStory vX7_wrongStory kX7_142 (zRj_of rfl) (zlt hn rfl) h_3 rfl rfl hl.1 rfl (Nat.le_of_ble_eq_true rfl) dX7_floor_35 ⟨Nat.le_refl _, Nat.le_refl _⟩) (fun r_13 F_12 hp_14 H locs hZ => ?_)
      rw [mStR_eq hHW] at hp_14
      obtain ⟨rfl, rfl⟩ := hp_14
      refine lv_istore (lv' := [(4, .int (sStR sh d)), (0, .ref (ad 56)), (1, .int d), (2, .int m0), (3, .int q)]) hx hb dX7_floor_38 hl (by decide) rfl (fun ls hl => ?_)
      refine lv_iload hx hb dX7_floor_40 (lv_at hl 0 rfl) ?_
      refine lv_if_ge (tgt := 51) hx hb dX7_floor_42 (by decide) (fun c_42 => ?_) (fun c_42 => ?_)
      · refine lv_aload_n hx hb dX7_floor_51 rfl (lv_at hl 1 rfl) ?_
        refine lv_iload_n hx hb dX7_floor_52 rfl (lv_at hl 2 rfl) ?_
        have hz_15 : (sStR sh d) = 0 := sStR_ge (Int32.not_lt.mpr c_42)
        have hs := sStR_0 hz_15
        have hd := hs.1
        have ht : (sh (iN d)).2.1 = (kd (iN d), fg (iN d)) := (hRS _ hd.2).2.1 hs.2
        have hgt : gT (kd (iN d), fg (iN d)) := by rw [← ht]; exact (hG.2.2 _ hd.2).1 hs.2
        refine zgov hZ hA (zrunV (As := [.int d]) (rest := []) (k := 56) hC hZ (c_X7_tellOn l D cy n ad F_1 H.size sc.1 sc.2.1 sc.2.2.2.1 sc.2.2.2.2 0 bs en u st kk dw ho sv pic ia tk hn h_3 kd (zne hF_2 (by decide) h62) fg (zne hF_2 (by decide) h63) d hd) mX7_tellOn vX7_tellOn kX7_145 (zRj_of rfl) (zlt hn rfl) h_3 rfl rfl hl.1 rfl (Nat.le_of_ble_eq_true rfl) dX7_floor_53 ⟨Nat.le_refl _, Nat.le_refl _⟩) (fun F_16 hp_18 H locs hZ => ?_)
        have h_19 := zeq hp_18
        refine lv_aload_n hx hb dX7_floor_56 rfl (lv_at hl 1 rfl) ?_
        refine lv_iload_n hx hb dX7_floor_57 rfl (lv_at hl 4 rfl) ?_
        refine zgoi hZ hA (zrunV (As := [.int q]) (rest := []) (k := 56) hC hZ (c_X7_paceAfter l D cy n ad F_16 H.size sc.1 sc.2.1 sc.2.2.2.1 sc.2.2.2.2 0 bs en u st (sKick (kd (iN d), fg (iN d)) sc.1) (sDraw (kd (iN d), fg (iN d))) (sHold (kd (iN d), fg (iN d))) sv pic ia tk hn h_19 q (bIn_n (N := 500) b_11 (by decide) rfl) (gK_sc hgt hG.1)) mX7_paceAfter vX7_paceAfter kX7_230 (zRj_of rfl) (zlt hn rfl) h_19 rfl rfl hl.1 rfl (Nat.le_of_ble_eq_true rfl) dX7_floor_58 ⟨Nat.le_refl _, Nat.le_refl _⟩) (fun r_21 F_20 hp_22 H locs hZ => ?_)
        obtain ⟨h_23, hp_24⟩ := hp_22
        have h_23 : r_21 = (sIt (sF (kd (iN d), fg (iN d)) sc) (iN q) sCC).2.1 := h_23
        subst h_23
        have h_25 := zeq hp_24
        refine lv_istore (lv' := [(5, .int ((sIt (sF (kd (iN d), fg (iN d)) sc) (iN q) sCC).2.1)), (4, .int (sStR sh d)), (0, .ref (ad 56)), (1, .int d), (2, .int m0), (3, .int q)]) hx hb dX7_floor_61 hl (by decide) rfl (fun ls hl => ?_)
        refine lv_aload_n hx hb dX7_floor_63 rfl (lv_at hl 2 rfl) ?_
        refine lv_dup hx hb dX7_floor_64 rfl ?_
        refine zget hC hZ fX7_128 (zlt hn rfl) h_25 rfl dX7_floor_65 ?_
        refine lv_iload_n hx hb dX7_floor_68 rfl (lv_at hl 4 rfl) ?_
        refine lv_iadd hx hb dX7_floor_69 ?_
        refine zput (E := oModel ad sc.1 sc.2.1 sc.2.2.2.1 sc.2.2.2.2 0 bs en u st (sKick (kd (iN d), fg (iN d)) sc.1) ((sDraw (kd (iN d), fg (iN d))) + m0) (sHold (kd (iN d), fg (iN d))) sc.2.2.2.2 pic ia tk) hC hZ pX7_128 (zlt hn rfl) h_25 rfl rfl rfl (Nat.le_of_ble_eq_true rfl) dX7_floor_70 (fun F_26 hF_27 H locs hZ => ?_)
        have h_28 := zeq hF_27
        refine lv_aload_n hx hb dX7_floor_73 rfl (lv_at hl 2 rfl) ?_
        refine lv_iload_n hx hb dX7_floor_74 rfl (lv_at hl 5 rfl) ?_
        refine zgoi hZ hA (zrunV (As := [.int q]) (rest := []) (k := 56) hC hZ (c_X7_paceAfter l D cy n ad F_26 H.size sc.1 sc.2.1 sc.2.2.2.1 sc.2.2.2.2 0 bs en u st (sKick (kd (iN d), fg (iN d)) sc.1) ((sDraw (kd (iN d), fg (iN d))) + m0) (sHold (kd (iN d), fg (iN d))) sc.2.2.2.2 pic ia tk hn h_28 q (bIn_n (N := 500) b_11 (by decide) rfl) (gK_more hgt hG.1 b_7)) mX7_paceAfter vX7_paceAfter kX7_230 (zRj_of rfl) (zlt hn rfl) h_28 rfl rfl hl.1 rfl (Nat.le_of_ble_eq_true rfl) dX7_floor_75 ⟨Nat.le_refl _, Nat.le_refl _⟩) (fun r_30 F_29 hp_31 H locs hZ => ?_)
        obtain ⟨h_32, hp_33⟩ := hp_31
        have h_32 : r_30 = (sIt (sStep (sKick (kd (iN d), fg (iN d)) sc.1) (100 - sKick (kd (iN d), fg (iN d)) sc.1 - (sDraw (kd (iN d), fg (iN d)) + m0) + sHold (kd (iN d), fg (iN d))) sc.1.2.2.2 sc.2.1) (iN q) sCC).2.1 := h_32
        subst h_32
        have h_34 := zeq hp_33
        have h_35 := zne hp_33 (by decide) (zne hF_27 (by decide) (zne hp_24 (by decide) (zne hp_18 (by decide) (zne hF_2 (by decide) h57))))
        have h_36 := zne hp_33 (by decide) (zne hF_27 (by decide) (zne hp_24 (by decide) (zne hp_18 (by decide) (zne hF_2 (by decide) h58))))
        have h_37 := zne hp_33 (by decide) (zne hF_27 (by decide) (zne hp_24 (by decide) (zne hp_18 (by decide) (zne hF_2 (by decide) h59))))
        have h_38 := zne hp_33 (by decide) (zne hF_27 (by decide) (zne hp_24 (by decide) (zne hp_18 (by decide) (zne hF_2 (by decide) h60))))
        have h_39 := zne hp_33 (by decide) (zne hF_27 (by decide) (zne hp_24 (by decide) (zne hp_18 (by decide) (zne hF_2 (by decide) h61))))
        have h_40 := zne hp_33 (by decide) (zne hF_27 (by decide) (zne hp_24 (by decide) (zne hp_18 (by decide) (zne hF_2 (by decide) h62))))
        have h_41 := zne hp_33 (by decide) (zne hF_27 (by decide) (zne hp_24 (by decide) (zne hp_18 (by decide) (zne hF_2 (by decide) h63))))
        have h_42 := zne hp_33 (by decide) (zne hF_27 (by decide) (zne hp_24 (by decide) (zne hp_18 (by decide) (zne hF_2 (by decide) h64))))
        have h_43 := zne hp_33 (by decide) (zne hF_27 (by decide) (zne hp_24 (by decide) (zne hp_18 (by decide) (zne hF_2 (by decide) h65))))
        have h_44 := zne hp_33 (by decide) (zne hF_27 (by decide) (zne hp_24 (by decide) (zne hp_18 (by decide) (zne hF_2 (by decide) h66))))
        have h_45 := zne hp_33 (by decide) (zne hF_27 (by decide) (zne hp_24 (by decide) (zne hp_18 (by decide) (zne hF_2 (by decide) h67))))
        refine lv_iload hx hb dX7_floor_78 (lv_at hl 0 rfl) ?_
        refine lv_isub hx hb dX7_floor_80 ?_
        have hv : (((sIt (sStep (sKick (kd (iN d), fg (iN d)) sc.1) (100 - sKick (kd (iN d), fg (iN d)) sc.1 - (sDraw (kd (iN d), fg (iN d)) + m0) + sHold (kd (iN d), fg (iN d))) sc.1.2.2.2 sc.2.1) (iN q) sCC).2.1 - (sIt (sF (kd (iN d), fg (iN d)) sc) (iN q) sCC).2.1) : Int32) = (sPB (sh (iN d)).2.1 sc m0 (iN q)).2.1 - (sPB (sh (iN d)).2.1 sc 0 (iN q)).2.1 := by rw [ht, sPB_0, less_more]; rfl
        have hq : (((sIt (sStep (sKick (kd (iN d), fg (iN d)) sc.1) (100 - sKick (kd (iN d), fg (iN d)) sc.1 - (sDraw (kd (iN d), fg (iN d)) + m0) + sHold (kd (iN d), fg (iN d))) sc.1.2.2.2 sc.2.1) (iN q) sCC).2.1 - (sIt (sF (kd (iN d), fg (iN d)) sc) (iN q) sCC).2.1) : Int32) = zrA (bIn m0 0 40 ∧ bIn q 1 500) (sStR sh d) ((sPB (sh (iN d)).2.1 sc m0 (iN q)).2.1 - (sPB (sh (iN d)).2.1 sc 0 (iN q)).2.1) := by exact hv.trans (zrA_ok ⟨b_7, b_11⟩ hz_15).symm
        have hfm_46 : frM F F_29 := (frM_up (frM_up (frM_up (frM_up (frM_up frM_rf hF_2 (by decide) (by decide)) hp_18 (by decide) (by decide)) hp_24 (by decide) (by decide)) hF_27 (by decide) (by decide)) hp_33 (by decide) (by decide))
        exact zireti hC hZ hr hlocks ⟨hq, ⟨bs, en, u, st, (sKick (kd (iN d), fg (iN d)) sc.1), ((sDraw (kd (iN d), fg (iN d))) + m0), (sHold (kd (iN d), fg (iN d))), sc.2.2.2.2, ia, tk, told, pl, nu, im, hw, kd, fg, so, mn, rw0, bt, h_34, h_35, h_36, h_37, h_38, h_39, h_40, h_41, h_42, h_43, h_44, h_45, hR⟩, hfm_46⟩ dX7_floor_81
      · refine lv_iload hx hb dX7_floor_45 (lv_at hl 0 rfl) ?_
        refine zgoi hZ hA (zrunS (As := [.int (sStR sh d)]) (rest := []) hC hZ (c_X7_far l D cy n ad F_1 H.size (sStR sh d)) mX7_far sX7_far kX7_227 (zRj_of rfl) rfl hl.1 rfl (Nat.le_of_ble_eq_true rfl) dX7_floor_47 ⟨Nat.le_refl _, Nat.le_refl _⟩) (fun r_48 F_47 hp_49 H locs hZ => ?_)
        obtain ⟨rfl, rfl⟩ := hp_49
        have hz_50 : (sStR sh d) < 0 := Int32.not_le.mp c_42
        have hq : (((sStR sh d) - 1000000000) : Int32) = zrA (bIn m0 0 40 ∧ bIn q 1 500) (sStR sh d) ((sPB (sh (iN d)).2.1 sc m0 (iN q)).2.1 - (sPB (sh (iN d)).2.1 sc 0 (iN q)).2.1) := by exact (far_m _).trans (zrA_rf ⟨b_7, b_11⟩ (neg_n0 hz_50)).symm
        have hfm_51 : frM F F_1 := (frM_up frM_rf hF_2 (by decide) (by decide))
        exact zireti hC hZ hr hlocks ⟨hq, ⟨bs, en, u, st, kk, dw, ho, sv, ia, tk, told, pl, nu, im, hw, kd, fg, so, mn, rw0, bt, h_3, (zne hF_2 (by decide) h57), (zne hF_2 (by decide) h58), (zne hF_2 (by decide) h59), (zne hF_2 (by decide) h60), (zne hF_2 (by decide) h61), (zne hF_2 (by decide) h62), (zne hF_2 (by decide) h63), (zne hF_2 (by decide) h64), (zne hF_2 (by decide) h65), (zne hF_2 (by decide) h66), (zne hF_2 (by decide) h67), hR⟩, hfm_51⟩ dX7_floor_50
    · rw [if_neg b_11] at hp_10
      subst hp_10
      refine lv_if_ne (tgt := 33) hx hb dX7_floor_26 (by decide) (fun h => absurd (show (0 : Int32) = 0 by decide) h) (fun _ => ?_)
      refine lv_iconst (v := (-1)) hx hb dX7_floor_29 (by decide) ?_
      refine lv_goto (tgt := 38) hx hb dX7_floor_30 (by decide) ?_
      refine lv_istore (lv' := [(4, .int (-1)), (0, .ref (ad 56)), (1, .int d), (2, .int m0), (3, .int q)]) hx hb dX7_floor_38 hl (by decide) rfl (fun ls hl => ?_)
      refine lv_iload hx hb dX7_floor_40 (lv_at hl 0 rfl) ?_
      refine lv_if_ge (tgt := 51) hx hb dX7_floor_42 (by decide) (fun h => absurd (show (0 : Int32) ≤ (-1) from h) (by decide)) (fun _ => ?_)
      refine lv_iload hx hb dX7_floor_45 (lv_at hl 0 rfl) ?_
      refine zgoi hZ hA (zrunS (As := [.int (-1)]) (rest := []) hC hZ (c_X7_far l D cy n ad F_1 H.size (-1)) mX7_far sX7_far kX7_227 (zRj_of rfl) rfl hl.1 rfl (Nat.le_of_ble_eq_true rfl) dX7_floor_47 ⟨Nat.le_refl _, Nat.le_refl _⟩) (fun r_53 F_52 hp_54 H locs hZ => ?_)
      obtain ⟨rfl, rfl⟩ := hp_54
      have hq : (((-1) - 1000000000) : Int32) = zrA (bIn m0 0 40 ∧ bIn q 1 500) (sStR sh d) ((sPB (sh (iN d)).2.1 sc m0 (iN q)).2.1 - (sPB (sh (iN d)).2.1 sc 0 (iN q)).2.1) := by exact (show ((-1) - 1000000000 : Int32) = -1000000000 + -1 by decide).trans (zrA_no (fun h => b_11 h.2)).symm
      have hfm_55 : frM F F_1 := (frM_up frM_rf hF_2 (by decide) (by decide))
      exact zireti hC hZ hr hlocks ⟨hq, ⟨bs, en, u, st, kk, dw, ho, sv, ia, tk, told, pl, nu, im, hw, kd, fg, so, mn, rw0, bt, h_3, (zne hF_2 (by decide) h57), (zne hF_2 (by decide) h58), (zne hF_2 (by decide) h59), (zne hF_2 (by decide) h60), (zne hF_2 (by decide) h61), (zne hF_2 (by decide) h62), (zne hF_2 (by decide) h63), (zne hF_2 (by decide) h64), (zne hF_2 (by decide) h65), (zne hF_2 (by decide) h66), (zne hF_2 (by decide) h67), hR⟩, hfm_55⟩ dX7_floor_50
  · rw [if_neg b_7] at hp_6
    subst hp_6
    refine lv_if_eq (tgt := 29) hx hb dX7_floor_14 (by decide) (fun _ => ?_) (fun h => absurd (show (0 : Int32) = 0 by decide) h)
    refine lv_iconst (v := (-1)) hx hb dX7_floor_29 (by decide) ?_
    refine lv_goto (tgt := 38) hx hb dX7_floor_30 (by decide) ?_
    refine lv_istore (lv' := [(4, .int (-1)), (0, .ref (ad 56)), (1, .int d), (2, .int m0), (3, .int q)]) hx hb dX7_floor_38 hl (by decide) rfl (fun ls hl => ?_)
    refine lv_iload hx hb dX7_floor_40 (lv_at hl 0 rfl) ?_
    refine lv_if_ge (tgt := 51) hx hb dX7_floor_42 (by decide) (fun h => absurd (show (0 : Int32) ≤ (-1) from h) (by decide)) (fun _ => ?_)
    refine lv_iload hx hb dX7_floor_45 (lv_at hl 0 rfl) ?_
    refine zgoi hZ hA (zrunS (As := [.int (-1)]) (rest := []) hC hZ (c_X7_far l D cy n ad F_1 H.size (-1)) mX7_far sX7_far kX7_227 (zRj_of rfl) rfl hl.1 rfl (Nat.le_of_ble_eq_true rfl) dX7_floor_47 ⟨Nat.le_refl _, Nat.le_refl _⟩) (fun r_57 F_56 hp_58 H locs hZ => ?_)
    obtain ⟨rfl, rfl⟩ := hp_58
    have hq : (((-1) - 1000000000) : Int32) = zrA (bIn m0 0 40 ∧ bIn q 1 500) (sStR sh d) ((sPB (sh (iN d)).2.1 sc m0 (iN q)).2.1 - (sPB (sh (iN d)).2.1 sc 0 (iN q)).2.1) := by exact (show ((-1) - 1000000000 : Int32) = -1000000000 + -1 by decide).trans (zrA_no (fun h => b_7 h.1)).symm
    have hfm_59 : frM F F_1 := (frM_up frM_rf hF_2 (by decide) (by decide))
    exact zireti hC hZ hr hlocks ⟨hq, ⟨bs, en, u, st, kk, dw, ho, sv, ia, tk, told, pl, nu, im, hw, kd, fg, so, mn, rw0, bt, h_3, (zne hF_2 (by decide) h57), (zne hF_2 (by decide) h58), (zne hF_2 (by decide) h59), (zne hF_2 (by decide) h60), (zne hF_2 (by decide) h61), (zne hF_2 (by decide) h62), (zne hF_2 (by decide) h63), (zne hF_2 (by decide) h64), (zne hF_2 (by decide) h65), (zne hF_2 (by decide) h66), (zne hF_2 (by decide) h67), hR⟩, hfm_59⟩ dX7_floor_50

theorem mX7_scale : zMd yX7_scale cX7_scale 5 (some .int) 2 := ⟨by decide +kernel, gt_of 1071 (by decide +kernel) rfl, gt_of 52 (by decide +kernel) rfl, by decide⟩
theorem dX7_scale_0 : decode cX7_scale 0 = .ok (.aload_n 0, 1) := by decide +kernel
theorem dX7_scale_1 : decode cX7_scale 1 = .ok (.iconst 0, 1) := by decide +kernel
theorem dX7_scale_2 : decode cX7_scale 2 = .ok (.putfield 57, 3) := by decide +kernel
theorem dX7_scale_5 : decode cX7_scale 5 = .ok (.iload_n 2, 1) := by decide +kernel
theorem dX7_scale_6 : decode cX7_scale 6 = .ok (.i2l, 1) := by decide +kernel
theorem dX7_scale_7 : decode cX7_scale 7 = .ok (.lconst 0, 1) := by decide +kernel
theorem dX7_scale_8 : decode cX7_scale 8 = .ok (.ldc2_w 181, 3) := by decide +kernel
theorem dX7_scale_11 : decode cX7_scale 11 = .ok (.invokestatic 63, 3) := by decide +kernel
theorem dX7_scale_14 : decode cX7_scale 14 = .ok (.ifCond .ne 7, 3) := by decide +kernel
theorem dX7_scale_21 : decode cX7_scale 21 = .ok (.aload_n 0, 1) := by decide +kernel
theorem dX7_scale_22 : decode cX7_scale 22 = .ok (.iload_n 1, 1) := by decide +kernel
theorem dX7_scale_23 : decode cX7_scale 23 = .ok (.invokevirtual 142, 3) := by decide +kernel
theorem dX7_scale_26 : decode cX7_scale 26 = .ok (.istore_n 3, 1) := by decide +kernel
theorem dX7_scale_27 : decode cX7_scale 27 = .ok (.iload_n 3, 1) := by decide +kernel
theorem dX7_scale_28 : decode cX7_scale 28 = .ok (.ifCond .ge 5, 3) := by decide +kernel
theorem dX7_scale_33 : decode cX7_scale 33 = .ok (.aload_n 0, 1) := by decide +kernel
theorem dX7_scale_34 : decode cX7_scale 34 = .ok (.iload_n 1, 1) := by decide +kernel
theorem dX7_scale_35 : decode cX7_scale 35 = .ok (.invokevirtual 145, 3) := by decide +kernel
theorem dX7_scale_38 : decode cX7_scale 38 = .ok (.aload_n 0, 1) := by decide +kernel
theorem dX7_scale_39 : decode cX7_scale 39 = .ok (.invokevirtual 221, 3) := by decide +kernel
theorem dX7_scale_42 : decode cX7_scale 42 = .ok (.iconst 0, 1) := by decide +kernel
theorem dX7_scale_43 : decode cX7_scale 43 = .ok (.istore 4, 2) := by decide +kernel
theorem dX7_scale_45 : decode cX7_scale 45 = .ok (.iload 4, 2) := by decide +kernel
theorem dX7_scale_47 : decode cX7_scale 47 = .ok (.iload_n 2, 1) := by decide +kernel
theorem dX7_scale_48 : decode cX7_scale 48 = .ok (.if_icmp .ge 13, 3) := by decide +kernel
theorem dX7_scale_61 : decode cX7_scale 61 = .ok (.iconst 2, 1) := by decide +kernel
theorem dX7_scale_62 : decode cX7_scale 62 = .ok (.aload_n 0, 1) := by decide +kernel
theorem dX7_scale_63 : decode cX7_scale 63 = .ok (.getfield 16, 3) := by decide +kernel
theorem dX7_scale_66 : decode cX7_scale 66 = .ok (.aload_n 0, 1) := by decide +kernel
theorem dX7_scale_67 : decode cX7_scale 67 = .ok (.getfield 67, 3) := by decide +kernel
theorem dX7_scale_70 : decode cX7_scale 70 = .ok (.isub, 1) := by decide +kernel
theorem dX7_scale_71 : decode cX7_scale 71 = .ok (.imul, 1) := by decide +kernel
theorem dX7_scale_72 : decode cX7_scale 72 = .ok (.aload_n 0, 1) := by decide +kernel
theorem dX7_scale_73 : decode cX7_scale 73 = .ok (.getfield 154, 3) := by decide +kernel
theorem dX7_scale_76 : decode cX7_scale 76 = .ok (.aload_n 0, 1) := by decide +kernel
theorem dX7_scale_77 : decode cX7_scale 77 = .ok (.getfield 154, 3) := by decide +kernel
theorem dX7_scale_80 : decode cX7_scale 80 = .ok (.imul, 1) := by decide +kernel
theorem dX7_scale_81 : decode cX7_scale 81 = .ok (.aload_n 0, 1) := by decide +kernel
theorem dX7_scale_82 : decode cX7_scale 82 = .ok (.getfield 125, 3) := by decide +kernel
theorem dX7_scale_85 : decode cX7_scale 85 = .ok (.imul, 1) := by decide +kernel
theorem dX7_scale_86 : decode cX7_scale 86 = .ok (.sipush 10000, 3) := by decide +kernel
theorem dX7_scale_89 : decode cX7_scale 89 = .ok (.idiv, 1) := by decide +kernel
theorem dX7_scale_90 : decode cX7_scale 90 = .ok (.iadd, 1) := by decide +kernel
theorem dX7_scale_91 : decode cX7_scale 91 = .ok (.istore 4, 2) := by decide +kernel
theorem dX7_scale_93 : decode cX7_scale 93 = .ok (.aload_n 0, 1) := by decide +kernel
theorem dX7_scale_94 : decode cX7_scale 94 = .ok (.invokevirtual 224, 3) := by decide +kernel
theorem dX7_scale_97 : decode cX7_scale 97 = .ok (.iload 4, 2) := by decide +kernel
theorem dX7_scale_99 : decode cX7_scale 99 = .ok (.ireturn, 1) := by decide +kernel
theorem dX7_scale_51 : decode cX7_scale 51 = .ok (.aload_n 0, 1) := by decide +kernel
theorem dX7_scale_52 : decode cX7_scale 52 = .ok (.invokevirtual 183, 3) := by decide +kernel
theorem dX7_scale_55 : decode cX7_scale 55 = .ok (.iinc 4 1, 3) := by decide +kernel
theorem dX7_scale_58 : decode cX7_scale 58 = .ok (.goto (-13), 3) := by decide +kernel
theorem dX7_scale_31 : decode cX7_scale 31 = .ok (.iload_n 3, 1) := by decide +kernel
theorem dX7_scale_32 : decode cX7_scale 32 = .ok (.ireturn, 1) := by decide +kernel
theorem dX7_scale_17 : decode cX7_scale 17 = .ok (.iconst (-1), 1) := by decide +kernel
theorem dX7_scale_18 : decode cX7_scale 18 = .ok (.goto 8, 3) := by decide +kernel
set_option maxRecDepth 100000 in
theorem c_X7_scale (l : Launch) (D : va_G) (cy : Nat → Nat) (n : Nat) (ad : Nat → Nat) (F : Nat → va_E) (sz : Nat) (th0 pic : Int32) (sc ps : Scn) (sh : Nat → Shf) (hn : 68 ≤ n) (hX : RM ad cy F th0 pic sc ps sh) (hG : gX sc ps sh) (d q : Int32) : Met l yX7_scale (zw yX7_scale cX7_scale 5 (some .int)) (rmL 2) (zPc D cy n ad F sz [.ref (ad 56), .int d, .int q]) (va_Qi (fun r F1 => r = zr (bIn q 0 500) (sStR sh d) (sScale (sh (iN d)).2.1 sc q) ∧ RM ad cy F1 0 pic sc ps sh ∧ frM F F1) (zB D n ad) (zA n ad sz)) 0 0 (zA n ad sz) := by
  refine zmet (by decide +kernel) (Nat.le_of_ble_eq_true rfl) (fun p e s m args below meth c ls hC hsz hZ hA hr hlocks hnm hl => ?_)
  have hC : zC p m c cX7_scale 5 s args RX7 D cy := hC
  have hx := hC.1.1
  have hb := hC.1.2.1
  have hl : lv_has ls 5 [(0, .ref (ad 56)), (1, .int d), (2, .int q)] := hl
  obtain ⟨bs, en, u, st, kk, dw, ho, sv, ia, tk, told, pl, nu, im, hw, kd, fg, so, mn, rw0, bt, hM, h57, h58, h59, h60, h61, h62, h63, h64, h65, h66, h67, hR⟩ := hX
  have hRS := hR.2.2
  have hHW := rX_hw hR
  refine lv_aload_n hx hb dX7_scale_0 rfl (lv_at hl 0 rfl) ?_
  refine lv_iconst (v := 0) hx hb dX7_scale_1 (by decide) ?_
  refine zput (E := oModel ad sc.1 sc.2.1 sc.2.2.2.1 sc.2.2.2.2 0 bs en u st kk dw ho sv pic ia tk) hC hZ pX7_57 (zlt hn rfl) hM rfl rfl rfl (Nat.le_of_ble_eq_true rfl) dX7_scale_2 (fun F_1 hF_2 H locs hZ => ?_)
  have h_3 := zeq hF_2
  refine lv_iload_n hx hb dX7_scale_5 rfl (lv_at hl 2 rfl) ?_
  refine lv_i2l (v := (q).toInt64) hx hb dX7_scale_6 (by rfl) ?_
  refine lv_lconst (v := 0) hx hb dX7_scale_7 (by decide) ?_
  refine lv_ldc2 (v := 500) hx hb hC.1.2.2.2.1 (hC.1.2.2.2.2 _ qX7_181) dX7_scale_8 ?_
  refine zgoi hZ hA (zrunS (As := [.long ((q).toInt64), .long 0, .long 500]) (rest := []) hC hZ (c_X7_in l D cy n ad F_1 H.size q 0 500 0 500 (by decide) (by decide)) mX7_in sX7_in kX7_63 (zRj_of rfl) rfl hl.1 rfl (Nat.le_of_ble_eq_true rfl) dX7_scale_11 ⟨Nat.le_refl _, Nat.le_refl _⟩) (fun r_5 F_4 hp_6 H locs hZ => ?_)
  obtain ⟨hp_6, rfl⟩ := hp_6
  by_cases b_7 : bIn q 0 500
  · rw [if_pos b_7] at hp_6
    subst hp_6
    refine lv_if_ne (tgt := 21) hx hb dX7_scale_14 (by decide) (fun _ => ?_) (fun h => absurd (show (1 : Int32) = 0 from h) (by decide))
    refine lv_aload_n hx hb dX7_scale_21 rfl (lv_at hl 0 rfl) ?_
    refine lv_iload_n hx hb dX7_scale_22 rfl (lv_at hl 1 rfl) ?_
    refine zgoi hZ hA (zrunV (As := [.int d]) (rest := []) (k := 56) hC hZ (c_X7_wrongStory l D cy n ad F_1 H.size sc.1 sc.2.1 sc.2.2.2.1 sc.2.2.2.2 0 bs en u st kk dw ho sv pic ia tk hn h_3 hw (zne hF_2 (by decide) h61) d) mX7_wrongStory vX7_wrongStory kX7_142 (zRj_of rfl) (zlt hn rfl) h_3 rfl rfl hl.1 rfl (Nat.le_of_ble_eq_true rfl) dX7_scale_23 ⟨Nat.le_refl _, Nat.le_refl _⟩) (fun r_9 F_8 hp_10 H locs hZ => ?_)
    rw [mStR_eq hHW] at hp_10
    obtain ⟨rfl, rfl⟩ := hp_10
    refine lv_istore_n (lv' := [(3, .int (sStR sh d)), (0, .ref (ad 56)), (1, .int d), (2, .int q)]) hx hb dX7_scale_26 rfl hl (by decide) rfl (fun ls hl => ?_)
    refine lv_iload_n hx hb dX7_scale_27 rfl (lv_at hl 0 rfl) ?_
    refine lv_if_ge (tgt := 33) hx hb dX7_scale_28 (by decide) (fun c_28 => ?_) (fun c_28 => ?_)
    · refine lv_aload_n hx hb dX7_scale_33 rfl (lv_at hl 1 rfl) ?_
      refine lv_iload_n hx hb dX7_scale_34 rfl (lv_at hl 2 rfl) ?_
      have hz_11 : (sStR sh d) = 0 := sStR_ge (Int32.not_lt.mpr c_28)
      have hs := sStR_0 hz_11
      have hd := hs.1
      have ht : (sh (iN d)).2.1 = (kd (iN d), fg (iN d)) := (hRS _ hd.2).2.1 hs.2
      have hgt : gT (kd (iN d), fg (iN d)) := by rw [← ht]; exact (hG.2.2 _ hd.2).1 hs.2
      refine zgov hZ hA (zrunV (As := [.int d]) (rest := []) (k := 56) hC hZ (c_X7_tellOn l D cy n ad F_1 H.size sc.1 sc.2.1 sc.2.2.2.1 sc.2.2.2.2 0 bs en u st kk dw ho sv pic ia tk hn h_3 kd (zne hF_2 (by decide) h62) fg (zne hF_2 (by decide) h63) d hd) mX7_tellOn vX7_tellOn kX7_145 (zRj_of rfl) (zlt hn rfl) h_3 rfl rfl hl.1 rfl (Nat.le_of_ble_eq_true rfl) dX7_scale_35 ⟨Nat.le_refl _, Nat.le_refl _⟩) (fun F_12 hp_14 H locs hZ => ?_)
      have h_15 := zeq hp_14
      refine lv_aload_n hx hb dX7_scale_38 rfl (lv_at hl 1 rfl) ?_
      refine zgov hZ hA (zrunV (As := []) (rest := []) (k := 56) hC hZ (c_X7_open l D cy n ad F_12 H.size sc.1 sc.2.1 sc.2.2.2.1 sc.2.2.2.2 0 bs en u st (sKick (kd (iN d), fg (iN d)) sc.1) (sDraw (kd (iN d), fg (iN d))) (sHold (kd (iN d), fg (iN d))) sv pic ia tk hn h_15) mX7_open vX7_open kX7_221 (zRj_of rfl) (zlt hn rfl) h_15 rfl rfl hl.1 rfl (Nat.le_of_ble_eq_true rfl) dX7_scale_39 ⟨Nat.le_refl _, Nat.le_refl _⟩) (fun F_16 hp_18 H locs hZ => ?_)
      have h_19 := zeq hp_18
      refine lv_iconst (v := 0) hx hb dX7_scale_42 (by decide) ?_
      refine lv_istore (lv' := [(4, .int 0), (3, .int (sStR sh d)), (0, .ref (ad 56)), (1, .int d), (2, .int q)]) hx hb dX7_scale_43 hl (by decide) rfl (fun ls hl => ?_)
      have hq5 := bIn_n (N := 500) b_7 (by decide) rfl
      refine zlp (X := Nat) 45 (fun _ => []) (fun x ls F1 => lv_has ls 5 [(4, .int (nI x)), (3, .int (sStR sh d)), (0, .ref (ad 56)), (1, .int d), (2, .int q)] ∧ F1 = va_up F_16 56 (oModel ad sc.1 sc.2.1 sc.2.2.2.1 (sIt (sF (kd (iN d), fg (iN d)) sc) x sCC) 0 bs en u st (sKick (kd (iN d), fg (iN d)) sc.1) (sDraw (kd (iN d), fg (iN d))) (sHold (kd (iN d), fg (iN d))) sc.2.2.2.2 pic ia tk) ∧ (x ≤ iN q)) (fun x => iN q - x) ?_ 0 hZ ⟨hl, (zself h_19), (Nat.zero_le _)⟩
      intro i ih45 ls F3_45 H locs hZ hφ
      obtain ⟨hl, hF3_45, hi⟩ := hφ
      have hl : lv_has ls 5 [(4, .int (nI i)), (3, .int (sStR sh d)), (0, .ref (ad 56)), (1, .int d), (2, .int q)] := hl
      have hF3_45 : F3_45 = va_up F_16 56 (oModel ad sc.1 sc.2.1 sc.2.2.2.1 (sIt (sF (kd (iN d), fg (iN d)) sc) i sCC) 0 bs en u st (sKick (kd (iN d), fg (iN d)) sc.1) (sDraw (kd (iN d), fg (iN d))) (sHold (kd (iN d), fg (iN d))) sc.2.2.2.2 pic ia tk) := hF3_45
      have hi : i ≤ iN q := hi
      have h_20 := zeq hF3_45
      refine lv_iload hx hb dX7_scale_45 (lv_at hl 0 rfl) ?_
      refine lv_iload_n hx hb dX7_scale_47 rfl (lv_at hl 4 rfl) ?_
      refine lv_icmp_ge (tgt := 61) hx hb dX7_scale_48 (by decide) (fun c_48 => ?_) (fun c_48 => ?_)
      · refine lv_iconst (v := 2) hx hb dX7_scale_61 (by decide) ?_
        refine lv_aload_n hx hb dX7_scale_62 rfl (lv_at hl 2 rfl) ?_
        refine zget hC hZ fX7_16 (zlt hn rfl) h_20 rfl dX7_scale_63 ?_
        refine lv_aload_n hx hb dX7_scale_66 rfl (lv_at hl 2 rfl) ?_
        refine zget hC hZ fX7_67 (zlt hn rfl) h_20 rfl dX7_scale_67 ?_
        refine lv_isub hx hb dX7_scale_70 ?_
        refine lv_imul hx hb dX7_scale_71 ?_
        refine lv_aload_n hx hb dX7_scale_72 rfl (lv_at hl 2 rfl) ?_
        refine zget hC hZ fX7_154 (zlt hn rfl) h_20 rfl dX7_scale_73 ?_
        refine lv_aload_n hx hb dX7_scale_76 rfl (lv_at hl 2 rfl) ?_
        refine zget hC hZ fX7_154 (zlt hn rfl) h_20 rfl dX7_scale_77 ?_
        refine lv_imul hx hb dX7_scale_80 ?_
        refine lv_aload_n hx hb dX7_scale_81 rfl (lv_at hl 2 rfl) ?_
        refine zget hC hZ fX7_125 (zlt hn rfl) h_20 rfl dX7_scale_82 ?_
        refine lv_imul hx hb dX7_scale_85 ?_
        refine lv_sipush (v := 10000) hx hb dX7_scale_86 (by decide) ?_
        refine lv_idiv hx hb dX7_scale_89 (by decide) ?_
        refine lv_iadd hx hb dX7_scale_90 ?_
        refine lv_istore (lv' := [(4, .int ((2 * (sc.2.1 - (sIt (sF (kd (iN d), fg (iN d)) sc) i sCC).2.2.2.1)) + ((((sIt (sF (kd (iN d), fg (iN d)) sc) i sCC).2.1 * (sIt (sF (kd (iN d), fg (iN d)) sc) i sCC).2.1) * (sKick (kd (iN d), fg (iN d)) sc.1)) / 10000))), (3, .int (sStR sh d)), (0, .ref (ad 56)), (1, .int d), (2, .int q)]) hx hb dX7_scale_91 hl (by decide) rfl (fun ls hl => ?_)
        refine lv_aload_n hx hb dX7_scale_93 rfl (lv_at hl 2 rfl) ?_
        refine zgov hZ hA (zrunV (As := []) (rest := []) (k := 56) hC hZ (c_X7_close l D cy n ad F3_45 H.size sc.1 sc.2.1 sc.2.2.2.1 (sIt (sF (kd (iN d), fg (iN d)) sc) i sCC) 0 bs en u st (sKick (kd (iN d), fg (iN d)) sc.1) (sDraw (kd (iN d), fg (iN d))) (sHold (kd (iN d), fg (iN d))) sc.2.2.2.2 pic ia tk hn h_20) mX7_close vX7_close kX7_224 (zRj_of rfl) (zlt hn rfl) h_20 rfl rfl hl.1 rfl (Nat.le_of_ble_eq_true rfl) dX7_scale_94 ⟨Nat.le_refl _, Nat.le_refl _⟩) (fun F_21 hp_23 H locs hZ => ?_)
        have h_24 := zeq hp_23
        have h_25 := zne hp_23 (by decide) (zne hF3_45 (by decide) (zne hp_18 (by decide) (zne hp_14 (by decide) (zne hF_2 (by decide) h57))))
        have h_26 := zne hp_23 (by decide) (zne hF3_45 (by decide) (zne hp_18 (by decide) (zne hp_14 (by decide) (zne hF_2 (by decide) h58))))
        have h_27 := zne hp_23 (by decide) (zne hF3_45 (by decide) (zne hp_18 (by decide) (zne hp_14 (by decide) (zne hF_2 (by decide) h59))))
        have h_28 := zne hp_23 (by decide) (zne hF3_45 (by decide) (zne hp_18 (by decide) (zne hp_14 (by decide) (zne hF_2 (by decide) h60))))
        have h_29 := zne hp_23 (by decide) (zne hF3_45 (by decide) (zne hp_18 (by decide) (zne hp_14 (by decide) (zne hF_2 (by decide) h61))))
        have h_30 := zne hp_23 (by decide) (zne hF3_45 (by decide) (zne hp_18 (by decide) (zne hp_14 (by decide) (zne hF_2 (by decide) h62))))
        have h_31 := zne hp_23 (by decide) (zne hF3_45 (by decide) (zne hp_18 (by decide) (zne hp_14 (by decide) (zne hF_2 (by decide) h63))))
        have h_32 := zne hp_23 (by decide) (zne hF3_45 (by decide) (zne hp_18 (by decide) (zne hp_14 (by decide) (zne hF_2 (by decide) h64))))
        have h_33 := zne hp_23 (by decide) (zne hF3_45 (by decide) (zne hp_18 (by decide) (zne hp_14 (by decide) (zne hF_2 (by decide) h65))))
        have h_34 := zne hp_23 (by decide) (zne hF3_45 (by decide) (zne hp_18 (by decide) (zne hp_14 (by decide) (zne hF_2 (by decide) h66))))
        have h_35 := zne hp_23 (by decide) (zne hF3_45 (by decide) (zne hp_18 (by decide) (zne hp_14 (by decide) (zne hF_2 (by decide) h67))))
        refine lv_iload hx hb dX7_scale_97 (lv_at hl 0 rfl) ?_
        have hiq : i = iN q := zge hq5.1 (by omega) hi c_48
        have hv : (((2 * (sc.2.1 - (sIt (sF (kd (iN d), fg (iN d)) sc) i sCC).2.2.2.1)) + ((((sIt (sF (kd (iN d), fg (iN d)) sc) i sCC).2.1 * (sIt (sF (kd (iN d), fg (iN d)) sc) i sCC).2.1) * (sKick (kd (iN d), fg (iN d)) sc.1)) / 10000)) : Int32) = sScale (sh (iN d)).2.1 sc q := by rw [ht, hiq]; exact mScale (kd (iN d), fg (iN d)) sc q _ (sPB_0 (iN q)).symm
        have hq : (((2 * (sc.2.1 - (sIt (sF (kd (iN d), fg (iN d)) sc) i sCC).2.2.2.1)) + ((((sIt (sF (kd (iN d), fg (iN d)) sc) i sCC).2.1 * (sIt (sF (kd (iN d), fg (iN d)) sc) i sCC).2.1) * (sKick (kd (iN d), fg (iN d)) sc.1)) / 10000)) : Int32) = zr (bIn q 0 500) (sStR sh d) (sScale (sh (iN d)).2.1 sc q) := by exact hv.trans (zr_ok b_7 hz_11).symm
        have hfm_36 : frM F F_21 := (frM_up (frM_up (frM_up (frM_up (frM_up frM_rf hF_2 (by decide) (by decide)) hp_14 (by decide) (by decide)) hp_18 (by decide) (by decide)) hF3_45 (by decide) (by decide)) hp_23 (by decide) (by decide))
        exact zireti hC hZ hr hlocks ⟨hq, ⟨bs, en, u, st, (sKick (kd (iN d), fg (iN d)) sc.1), (sDraw (kd (iN d), fg (iN d))), (sHold (kd (iN d), fg (iN d))), sc.2.2.2.2, ia, tk, told, pl, nu, im, hw, kd, fg, so, mn, rw0, bt, h_24, h_25, h_26, h_27, h_28, h_29, h_30, h_31, h_32, h_33, h_34, h_35, hR⟩, hfm_36⟩ dX7_scale_99
      · refine lv_aload_n hx hb dX7_scale_51 rfl (lv_at hl 2 rfl) ?_
        refine zgov hZ hA (zrunV (As := []) (rest := []) (k := 56) hC hZ (c_X7_tickOn l D cy n ad F3_45 H.size sc.1 sc.2.1 sc.2.2.2.1 (sIt (sF (kd (iN d), fg (iN d)) sc) i sCC) 0 bs en u st (sKick (kd (iN d), fg (iN d)) sc.1) (sDraw (kd (iN d), fg (iN d))) (sHold (kd (iN d), fg (iN d))) sc.2.2.2.2 pic ia tk hn h_20 (sIt_gC (gK_sc hgt hG.1) (gC_0 hG.1.2.1) i)) mX7_tickOn vX7_tickOn kX7_183 (zRj_of rfl) (zlt hn rfl) h_20 rfl rfl hl.1 rfl (Nat.le_of_ble_eq_true rfl) dX7_scale_52 ⟨Nat.le_refl _, Nat.le_refl _⟩) (fun F_37 hp_39 H locs hZ => ?_)
        have h_40 := zeq hp_39
        have h_41 := zne hp_39 (by decide) (zne hF3_45 (by decide) (zne hp_18 (by decide) (zne hp_14 (by decide) (zne hF_2 (by decide) h57))))
        have h_42 := zne hp_39 (by decide) (zne hF3_45 (by decide) (zne hp_18 (by decide) (zne hp_14 (by decide) (zne hF_2 (by decide) h58))))
        have h_43 := zne hp_39 (by decide) (zne hF3_45 (by decide) (zne hp_18 (by decide) (zne hp_14 (by decide) (zne hF_2 (by decide) h59))))
        have h_44 := zne hp_39 (by decide) (zne hF3_45 (by decide) (zne hp_18 (by decide) (zne hp_14 (by decide) (zne hF_2 (by decide) h60))))
        have h_45 := zne hp_39 (by decide) (zne hF3_45 (by decide) (zne hp_18 (by decide) (zne hp_14 (by decide) (zne hF_2 (by decide) h61))))
        have h_46 := zne hp_39 (by decide) (zne hF3_45 (by decide) (zne hp_18 (by decide) (zne hp_14 (by decide) (zne hF_2 (by decide) h62))))
        have h_47 := zne hp_39 (by decide) (zne hF3_45 (by decide) (zne hp_18 (by decide) (zne hp_14 (by decide) (zne hF_2 (by decide) h63))))
        have h_48 := zne hp_39 (by decide) (zne hF3_45 (by decide) (zne hp_18 (by decide) (zne hp_14 (by decide) (zne hF_2 (by decide) h64))))
        have h_49 := zne hp_39 (by decide) (zne hF3_45 (by decide) (zne hp_18 (by decide) (zne hp_14 (by decide) (zne hF_2 (by decide) h65))))
        have h_50 := zne hp_39 (by decide) (zne hF3_45 (by decide) (zne hp_18 (by decide) (zne hp_14 (by decide) (zne hF_2 (by decide) h66))))
        have h_51 := zne hp_39 (by decide) (zne hF3_45 (by decide) (zne hp_18 (by decide) (zne hp_14 (by decide) (zne hF_2 (by decide) h67))))
        refine lv_iinc (v := nI (i + 1)) (lv' := [(4, .int (nI (i + 1))), (3, .int (sStR sh d)), (0, .ref (ad 56)), (1, .int d), (2, .int q)]) hx hb dX7_scale_55 hl (k := 0) rfl (nI_1 i) (by decide) rfl (fun ls hl => ?_)
        refine lv_goto (tgt := 45) hx hb dX7_scale_58 (by decide) ?_
        have hlt := zlt2 hq5.1 (by omega) c_48
        have he_52 : F_37 = va_up F_16 56 (oModel ad sc.1 sc.2.1 sc.2.2.2.1 (sStep (sKick (kd (iN d), fg (iN d)) sc.1) (100 - (sKick (kd (iN d), fg (iN d)) sc.1) - (sDraw (kd (iN d), fg (iN d))) + (sHold (kd (iN d), fg (iN d)))) sc.1.2.2.2 sc.2.1 (sIt (sF (kd (iN d), fg (iN d)) sc) i sCC)) 0 bs en u st (sKick (kd (iN d), fg (iN d)) sc.1) (sDraw (kd (iN d), fg (iN d))) (sHold (kd (iN d), fg (iN d))) sc.2.2.2.2 pic ia tk) := by rw [hp_39, hF3_45]; simp only [bx_uu]
        exact ih45 (i + 1) ls _ H locs (by show iN q - (i + 1) < iN q - i; omega) hZ ⟨hl, he_52, hlt⟩
    · refine lv_iload_n hx hb dX7_scale_31 rfl (lv_at hl 0 rfl) ?_
      have hz_53 : (sStR sh d) < 0 := Int32.not_le.mp c_28
      have hq : ((sStR sh d) : Int32) = zr (bIn q 0 500) (sStR sh d) (sScale (sh (iN d)).2.1 sc q) := by exact (zr_rf b_7 (neg_n0 hz_53)).symm
      have hfm_54 : frM F F_1 := (frM_up frM_rf hF_2 (by decide) (by decide))
      exact zireti hC hZ hr hlocks ⟨hq, ⟨bs, en, u, st, kk, dw, ho, sv, ia, tk, told, pl, nu, im, hw, kd, fg, so, mn, rw0, bt, h_3, (zne hF_2 (by decide) h57), (zne hF_2 (by decide) h58), (zne hF_2 (by decide) h59), (zne hF_2 (by decide) h60), (zne hF_2 (by decide) h61), (zne hF_2 (by decide) h62), (zne hF_2 (by decide) h63), (zne hF_2 (by decide) h64), (zne hF_2 (by decide) h65), (zne hF_2 (by decide) h66), (zne hF_2 (by decide) h67), hR⟩, hfm_54⟩ dX7_scale_32
  · rw [if_neg b_7] at hp_6
    subst hp_6
    refine lv_if_ne (tgt := 21) hx hb dX7_scale_14 (by decide) (fun h => absurd (show (0 : Int32) = 0 by decide) h) (fun _ => ?_)
    refine lv_iconst (v := (-1)) hx hb dX7_scale_17 (by decide) ?_
    refine lv_goto (tgt := 26) hx hb dX7_scale_18 (by decide) ?_
    refine lv_istore_n (lv' := [(3, .int (-1)), (0, .ref (ad 56)), (1, .int d), (2, .int q)]) hx hb dX7_scale_26 rfl hl (by decide) rfl (fun ls hl => ?_)
    refine lv_iload_n hx hb dX7_scale_27 rfl (lv_at hl 0 rfl) ?_
    refine lv_if_ge (tgt := 33) hx hb dX7_scale_28 (by decide) (fun h => absurd (show (0 : Int32) ≤ (-1) from h) (by decide)) (fun _ => ?_)
    refine lv_iload_n hx hb dX7_scale_31 rfl (lv_at hl 0 rfl) ?_
    have hq : ((-1) : Int32) = zr (bIn q 0 500) (sStR sh d) (sScale (sh (iN d)).2.1 sc q) := by exact (zr_no b_7).symm
    have hfm_55 : frM F F_1 := (frM_up frM_rf hF_2 (by decide) (by decide))
    exact zireti hC hZ hr hlocks ⟨hq, ⟨bs, en, u, st, kk, dw, ho, sv, ia, tk, told, pl, nu, im, hw, kd, fg, so, mn, rw0, bt, h_3, (zne hF_2 (by decide) h57), (zne hF_2 (by decide) h58), (zne hF_2 (by decide) h59), (zne hF_2 (by decide) h60), (zne hF_2 (by decide) h61), (zne hF_2 (by decide) h62), (zne hF_2 (by decide) h63), (zne hF_2 (by decide) h64), (zne hF_2 (by decide) h65), (zne hF_2 (by decide) h66), (zne hF_2 (by decide) h67), hR⟩, hfm_55⟩ dX7_scale_32

theorem mX7_rested : zMd yX7_rested cX7_rested 6 (some .int) 1 := ⟨by decide +kernel, gt_of 1059 (by decide +kernel) rfl, gt_of 52 (by decide +kernel) rfl, by decide⟩
theorem dX7_rested_0 : decode cX7_rested 0 = .ok (.aload_n 0, 1) := by decide +kernel
theorem dX7_rested_1 : decode cX7_rested 1 = .ok (.iconst 0, 1) := by decide +kernel
theorem dX7_rested_2 : decode cX7_rested 2 = .ok (.putfield 57, 3) := by decide +kernel
theorem dX7_rested_5 : decode cX7_rested 5 = .ok (.aload_n 0, 1) := by decide +kernel
theorem dX7_rested_6 : decode cX7_rested 6 = .ok (.iload_n 1, 1) := by decide +kernel
theorem dX7_rested_7 : decode cX7_rested 7 = .ok (.invokevirtual 142, 3) := by decide +kernel
theorem dX7_rested_10 : decode cX7_rested 10 = .ok (.ifCond .ge 9, 3) := by decide +kernel
theorem dX7_rested_19 : decode cX7_rested 19 = .ok (.aload_n 0, 1) := by decide +kernel
theorem dX7_rested_20 : decode cX7_rested 20 = .ok (.iload_n 1, 1) := by decide +kernel
theorem dX7_rested_21 : decode cX7_rested 21 = .ok (.invokevirtual 145, 3) := by decide +kernel
theorem dX7_rested_24 : decode cX7_rested 24 = .ok (.aload_n 0, 1) := by decide +kernel
theorem dX7_rested_25 : decode cX7_rested 25 = .ok (.invokevirtual 221, 3) := by decide +kernel
theorem dX7_rested_28 : decode cX7_rested 28 = .ok (.aload_n 0, 1) := by decide +kernel
theorem dX7_rested_29 : decode cX7_rested 29 = .ok (.invokevirtual 183, 3) := by decide +kernel
theorem dX7_rested_32 : decode cX7_rested 32 = .ok (.bipush (-4), 2) := by decide +kernel
theorem dX7_rested_34 : decode cX7_rested 34 = .ok (.istore_n 2, 1) := by decide +kernel
theorem dX7_rested_35 : decode cX7_rested 35 = .ok (.iconst 1, 1) := by decide +kernel
theorem dX7_rested_36 : decode cX7_rested 36 = .ok (.istore_n 3, 1) := by decide +kernel
theorem dX7_rested_37 : decode cX7_rested 37 = .ok (.iload_n 3, 1) := by decide +kernel
theorem dX7_rested_38 : decode cX7_rested 38 = .ok (.sipush 500, 3) := by decide +kernel
theorem dX7_rested_41 : decode cX7_rested 41 = .ok (.if_icmp .gt 54, 3) := by decide +kernel
theorem dX7_rested_95 : decode cX7_rested 95 = .ok (.aload_n 0, 1) := by decide +kernel
theorem dX7_rested_96 : decode cX7_rested 96 = .ok (.invokevirtual 224, 3) := by decide +kernel
theorem dX7_rested_99 : decode cX7_rested 99 = .ok (.iload_n 2, 1) := by decide +kernel
theorem dX7_rested_100 : decode cX7_rested 100 = .ok (.ireturn, 1) := by decide +kernel
theorem dX7_rested_44 : decode cX7_rested 44 = .ok (.iload_n 2, 1) := by decide +kernel
theorem dX7_rested_45 : decode cX7_rested 45 = .ok (.ifCond .ge 50, 3) := by decide +kernel
theorem dX7_rested_48 : decode cX7_rested 48 = .ok (.aload_n 0, 1) := by decide +kernel
theorem dX7_rested_49 : decode cX7_rested 49 = .ok (.getfield 154, 3) := by decide +kernel
theorem dX7_rested_52 : decode cX7_rested 52 = .ok (.istore 4, 2) := by decide +kernel
theorem dX7_rested_54 : decode cX7_rested 54 = .ok (.aload_n 0, 1) := by decide +kernel
theorem dX7_rested_55 : decode cX7_rested 55 = .ok (.getfield 151, 3) := by decide +kernel
theorem dX7_rested_58 : decode cX7_rested 58 = .ok (.istore 5, 2) := by decide +kernel
theorem dX7_rested_60 : decode cX7_rested 60 = .ok (.aload_n 0, 1) := by decide +kernel
theorem dX7_rested_61 : decode cX7_rested 61 = .ok (.invokevirtual 183, 3) := by decide +kernel
theorem dX7_rested_64 : decode cX7_rested 64 = .ok (.iload 4, 2) := by decide +kernel
theorem dX7_rested_66 : decode cX7_rested 66 = .ok (.aload_n 0, 1) := by decide +kernel
theorem dX7_rested_67 : decode cX7_rested 67 = .ok (.getfield 154, 3) := by decide +kernel
theorem dX7_rested_70 : decode cX7_rested 70 = .ok (.if_icmp .ne 16, 3) := by decide +kernel
theorem dX7_rested_86 : decode cX7_rested 86 = .ok (.bipush (-4), 2) := by decide +kernel
theorem dX7_rested_88 : decode cX7_rested 88 = .ok (.istore_n 2, 1) := by decide +kernel
theorem dX7_rested_89 : decode cX7_rested 89 = .ok (.iinc 3 1, 3) := by decide +kernel
theorem dX7_rested_92 : decode cX7_rested 92 = .ok (.goto (-55), 3) := by decide +kernel
theorem dX7_rested_73 : decode cX7_rested 73 = .ok (.iload 5, 2) := by decide +kernel
theorem dX7_rested_75 : decode cX7_rested 75 = .ok (.aload_n 0, 1) := by decide +kernel
theorem dX7_rested_76 : decode cX7_rested 76 = .ok (.getfield 151, 3) := by decide +kernel
theorem dX7_rested_79 : decode cX7_rested 79 = .ok (.if_icmp .ne 7, 3) := by decide +kernel
theorem dX7_rested_82 : decode cX7_rested 82 = .ok (.iload_n 3, 1) := by decide +kernel
theorem dX7_rested_83 : decode cX7_rested 83 = .ok (.goto 5, 3) := by decide +kernel
theorem dX7_rested_13 : decode cX7_rested 13 = .ok (.aload_n 0, 1) := by decide +kernel
theorem dX7_rested_14 : decode cX7_rested 14 = .ok (.iload_n 1, 1) := by decide +kernel
theorem dX7_rested_15 : decode cX7_rested 15 = .ok (.invokevirtual 142, 3) := by decide +kernel
theorem dX7_rested_18 : decode cX7_rested 18 = .ok (.ireturn, 1) := by decide +kernel
set_option maxRecDepth 100000 in
theorem c_X7_rested (l : Launch) (D : va_G) (cy : Nat → Nat) (n : Nat) (ad : Nat → Nat) (F : Nat → va_E) (sz : Nat) (th0 pic : Int32) (sc ps : Scn) (sh : Nat → Shf) (hn : 68 ≤ n) (hX : RM ad cy F th0 pic sc ps sh) (hG : gX sc ps sh) (d : Int32) : Met l yX7_rested (zw yX7_rested cX7_rested 6 (some .int)) (rmL 2) (zPc D cy n ad F sz [.ref (ad 56), .int d]) (va_Qi (fun r F1 => r = zr True (sStR sh d) (sRested (sh (iN d)).2.1 sc) ∧ RM ad cy F1 0 pic sc ps sh ∧ frM F F1) (zB D n ad) (zA n ad sz)) 0 0 (zA n ad sz) := by
  refine zmet (by decide +kernel) (Nat.le_of_ble_eq_true rfl) (fun p e s m args below meth c ls hC hsz hZ hA hr hlocks hnm hl => ?_)
  have hC : zC p m c cX7_rested 6 s args RX7 D cy := hC
  have hx := hC.1.1
  have hb := hC.1.2.1
  have hl : lv_has ls 6 [(0, .ref (ad 56)), (1, .int d)] := hl
  obtain ⟨bs, en, u, st, kk, dw, ho, sv, ia, tk, told, pl, nu, im, hw, kd, fg, so, mn, rw0, bt, hM, h57, h58, h59, h60, h61, h62, h63, h64, h65, h66, h67, hR⟩ := hX
  have hRS := hR.2.2
  have hHW := rX_hw hR
  refine lv_aload_n hx hb dX7_rested_0 rfl (lv_at hl 0 rfl) ?_
  refine lv_iconst (v := 0) hx hb dX7_rested_1 (by decide) ?_
  refine zput (E := oModel ad sc.1 sc.2.1 sc.2.2.2.1 sc.2.2.2.2 0 bs en u st kk dw ho sv pic ia tk) hC hZ pX7_57 (zlt hn rfl) hM rfl rfl rfl (Nat.le_of_ble_eq_true rfl) dX7_rested_2 (fun F_1 hF_2 H locs hZ => ?_)
  have h_3 := zeq hF_2
  refine lv_aload_n hx hb dX7_rested_5 rfl (lv_at hl 0 rfl) ?_
  refine lv_iload_n hx hb dX7_rested_6 rfl (lv_at hl 1 rfl) ?_
  refine zgoi hZ hA (zrunV (As := [.int d]) (rest := []) (k := 56) hC hZ (c_X7_wrongStory l D cy n ad F_1 H.size sc.1 sc.2.1 sc.2.2.2.1 sc.2.2.2.2 0 bs en u st kk dw ho sv pic ia tk hn h_3 hw (zne hF_2 (by decide) h61) d) mX7_wrongStory vX7_wrongStory kX7_142 (zRj_of rfl) (zlt hn rfl) h_3 rfl rfl hl.1 rfl (Nat.le_of_ble_eq_true rfl) dX7_rested_7 ⟨Nat.le_refl _, Nat.le_refl _⟩) (fun r_5 F_4 hp_6 H locs hZ => ?_)
  rw [mStR_eq hHW] at hp_6
  obtain ⟨rfl, rfl⟩ := hp_6
  refine lv_if_ge (tgt := 19) hx hb dX7_rested_10 (by decide) (fun c_10 => ?_) (fun c_10 => ?_)
  · refine lv_aload_n hx hb dX7_rested_19 rfl (lv_at hl 0 rfl) ?_
    refine lv_iload_n hx hb dX7_rested_20 rfl (lv_at hl 1 rfl) ?_
    have hz_7 : (sStR sh d) = 0 := sStR_ge (Int32.not_lt.mpr c_10)
    have hs := sStR_0 hz_7
    have hd := hs.1
    have ht : (sh (iN d)).2.1 = (kd (iN d), fg (iN d)) := (hRS _ hd.2).2.1 hs.2
    have hgt : gT (kd (iN d), fg (iN d)) := by rw [← ht]; exact (hG.2.2 _ hd.2).1 hs.2
    refine zgov hZ hA (zrunV (As := [.int d]) (rest := []) (k := 56) hC hZ (c_X7_tellOn l D cy n ad F_1 H.size sc.1 sc.2.1 sc.2.2.2.1 sc.2.2.2.2 0 bs en u st kk dw ho sv pic ia tk hn h_3 kd (zne hF_2 (by decide) h62) fg (zne hF_2 (by decide) h63) d hd) mX7_tellOn vX7_tellOn kX7_145 (zRj_of rfl) (zlt hn rfl) h_3 rfl rfl hl.1 rfl (Nat.le_of_ble_eq_true rfl) dX7_rested_21 ⟨Nat.le_refl _, Nat.le_refl _⟩) (fun F_8 hp_10 H locs hZ => ?_)
    have h_11 := zeq hp_10
    refine lv_aload_n hx hb dX7_rested_24 rfl (lv_at hl 0 rfl) ?_
    refine zgov hZ hA (zrunV (As := []) (rest := []) (k := 56) hC hZ (c_X7_open l D cy n ad F_8 H.size sc.1 sc.2.1 sc.2.2.2.1 sc.2.2.2.2 0 bs en u st (sKick (kd (iN d), fg (iN d)) sc.1) (sDraw (kd (iN d), fg (iN d))) (sHold (kd (iN d), fg (iN d))) sv pic ia tk hn h_11) mX7_open vX7_open kX7_221 (zRj_of rfl) (zlt hn rfl) h_11 rfl rfl hl.1 rfl (Nat.le_of_ble_eq_true rfl) dX7_rested_25 ⟨Nat.le_refl _, Nat.le_refl _⟩) (fun F_12 hp_14 H locs hZ => ?_)
    have h_15 := zeq hp_14
    refine lv_aload_n hx hb dX7_rested_28 rfl (lv_at hl 0 rfl) ?_
    refine zgov hZ hA (zrunV (As := []) (rest := []) (k := 56) hC hZ (c_X7_tickOn l D cy n ad F_12 H.size sc.1 sc.2.1 sc.2.2.2.1 sCC 0 bs en u st (sKick (kd (iN d), fg (iN d)) sc.1) (sDraw (kd (iN d), fg (iN d))) (sHold (kd (iN d), fg (iN d))) sc.2.2.2.2 pic ia tk hn h_15 (sIt_gC (gK_sc hgt hG.1) (gC_0 hG.1.2.1) 0)) mX7_tickOn vX7_tickOn kX7_183 (zRj_of rfl) (zlt hn rfl) h_15 rfl rfl hl.1 rfl (Nat.le_of_ble_eq_true rfl) dX7_rested_29 ⟨Nat.le_refl _, Nat.le_refl _⟩) (fun F_16 hp_18 H locs hZ => ?_)
    have h_19 := zeq hp_18
    refine lv_bipush (v := (-4)) hx hb dX7_rested_32 (by decide) ?_
    refine lv_istore_n (lv' := [(2, .int (-4)), (0, .ref (ad 56)), (1, .int d)]) hx hb dX7_rested_34 rfl hl (by decide) rfl (fun ls hl => ?_)
    refine lv_iconst (v := 1) hx hb dX7_rested_35 (by decide) ?_
    refine lv_istore_n (lv' := [(3, .int 1), (2, .int (-4)), (0, .ref (ad 56)), (1, .int d)]) hx hb dX7_rested_36 rfl hl (by decide) rfl (fun ls hl => ?_)
    refine zlp (X := Nat × Int32) 37 (fun _ => []) (fun x ls F1 => lv_has ls 6 [(3, .int (nI (x.1 + 1))), (2, .int x.2), (0, .ref (ad 56)), (1, .int d)] ∧ F1 = va_up F_16 56 (oModel ad sc.1 sc.2.1 sc.2.2.2.1 (sIt (sF (kd (iN d), fg (iN d)) sc) (x.1 + 1) sCC) 0 bs en u st (sKick (kd (iN d), fg (iN d)) sc.1) (sDraw (kd (iN d), fg (iN d))) (sHold (kd (iN d), fg (iN d))) sc.2.2.2.2 pic ia tk) ∧ (x.1 ≤ 500) ∧ ((x.2 = -4 ∧ zfind (sRestP (kd (iN d), fg (iN d)) sc) (500 - x.1) (x.1 + 1) = sRested (kd (iN d), fg (iN d)) sc) ∨ (¬ x.2 < 0 ∧ x.2 = sRested (kd (iN d), fg (iN d)) sc))) (fun x => 500 - x.1) ?_ (0, -4) hZ ⟨hl, (zself h_19), (Nat.zero_le _), (Or.inl ⟨rfl, rfl⟩)⟩
    intro x ih37 ls F3_37 H locs hZ hφ
    obtain ⟨j, fd⟩ := x
    obtain ⟨hl, hF3_37, hj, hT⟩ := hφ
    have hl : lv_has ls 6 [(3, .int (nI (j + 1))), (2, .int fd), (0, .ref (ad 56)), (1, .int d)] := hl
    have hF3_37 : F3_37 = va_up F_16 56 (oModel ad sc.1 sc.2.1 sc.2.2.2.1 (sIt (sF (kd (iN d), fg (iN d)) sc) (j + 1) sCC) 0 bs en u st (sKick (kd (iN d), fg (iN d)) sc.1) (sDraw (kd (iN d), fg (iN d))) (sHold (kd (iN d), fg (iN d))) sc.2.2.2.2 pic ia tk) := hF3_37
    have hj : j ≤ 500 := hj
    have hT : (fd = -4 ∧ zfind (sRestP (kd (iN d), fg (iN d)) sc) (500 - j) (j + 1) = sRested (kd (iN d), fg (iN d)) sc) ∨ (¬ fd < 0 ∧ fd = sRested (kd (iN d), fg (iN d)) sc) := hT
    have h_20 := zeq hF3_37
    have h_21 := zne hF3_37 (by decide) (zne hp_18 (by decide) (zne hp_14 (by decide) (zne hp_10 (by decide) (zne hF_2 (by decide) h57))))
    have h_22 := zne hF3_37 (by decide) (zne hp_18 (by decide) (zne hp_14 (by decide) (zne hp_10 (by decide) (zne hF_2 (by decide) h58))))
    have h_23 := zne hF3_37 (by decide) (zne hp_18 (by decide) (zne hp_14 (by decide) (zne hp_10 (by decide) (zne hF_2 (by decide) h59))))
    have h_24 := zne hF3_37 (by decide) (zne hp_18 (by decide) (zne hp_14 (by decide) (zne hp_10 (by decide) (zne hF_2 (by decide) h60))))
    have h_25 := zne hF3_37 (by decide) (zne hp_18 (by decide) (zne hp_14 (by decide) (zne hp_10 (by decide) (zne hF_2 (by decide) h61))))
    have h_26 := zne hF3_37 (by decide) (zne hp_18 (by decide) (zne hp_14 (by decide) (zne hp_10 (by decide) (zne hF_2 (by decide) h62))))
    have h_27 := zne hF3_37 (by decide) (zne hp_18 (by decide) (zne hp_14 (by decide) (zne hp_10 (by decide) (zne hF_2 (by decide) h63))))
    have h_28 := zne hF3_37 (by decide) (zne hp_18 (by decide) (zne hp_14 (by decide) (zne hp_10 (by decide) (zne hF_2 (by decide) h64))))
    have h_29 := zne hF3_37 (by decide) (zne hp_18 (by decide) (zne hp_14 (by decide) (zne hp_10 (by decide) (zne hF_2 (by decide) h65))))
    have h_30 := zne hF3_37 (by decide) (zne hp_18 (by decide) (zne hp_14 (by decide) (zne hp_10 (by decide) (zne hF_2 (by decide) h66))))
    have h_31 := zne hF3_37 (by decide) (zne hp_18 (by decide) (zne hp_14 (by decide) (zne hp_10 (by decide) (zne hF_2 (by decide) h67))))
    refine lv_iload_n hx hb dX7_rested_37 rfl (lv_at hl 0 rfl) ?_
    refine lv_sipush (v := 500) hx hb dX7_rested_38 (by decide) ?_
    refine lv_icmp_gt (tgt := 95) hx hb dX7_rested_41 (by decide) (fun c_41 => ?_) (fun c_41 => ?_)
    · refine lv_aload_n hx hb dX7_rested_95 rfl (lv_at hl 2 rfl) ?_
      refine zgov hZ hA (zrunV (As := []) (rest := []) (k := 56) hC hZ (c_X7_close l D cy n ad F3_37 H.size sc.1 sc.2.1 sc.2.2.2.1 (sIt (sF (kd (iN d), fg (iN d)) sc) (j + 1) sCC) 0 bs en u st (sKick (kd (iN d), fg (iN d)) sc.1) (sDraw (kd (iN d), fg (iN d))) (sHold (kd (iN d), fg (iN d))) sc.2.2.2.2 pic ia tk hn h_20) mX7_close vX7_close kX7_224 (zRj_of rfl) (zlt hn rfl) h_20 rfl rfl hl.1 rfl (Nat.le_of_ble_eq_true rfl) dX7_rested_96 ⟨Nat.le_refl _, Nat.le_refl _⟩) (fun F_32 hp_34 H locs hZ => ?_)
      have h_35 := zeq hp_34
      refine lv_iload_n hx hb dX7_rested_99 rfl (lv_at hl 1 rfl) ?_
      have hfd : fd = sRested (kd (iN d), fg (iN d)) sc := by
        have hjN : j = 500 := by rcases Nat.lt_or_ge j 500 with h | h; exact absurd c_41 (nI_nlt (a := 500) (b := j + 1) (by omega) (by omega)); omega
        rcases hT with h | h
        · rw [h.1, ← h.2, hjN, Nat.sub_self]; rfl
        · exact h.2
      have hv : (fd : Int32) = sRested (sh (iN d)).2.1 sc := by rw [ht]; exact hfd
      have hq : (fd : Int32) = zr True (sStR sh d) (sRested (sh (iN d)).2.1 sc) := by exact hv.trans (zr_ok trivial hz_7).symm
      have hfm_36 : frM F F_32 := (frM_up (frM_up (frM_up (frM_up (frM_up (frM_up frM_rf hF_2 (by decide) (by decide)) hp_10 (by decide) (by decide)) hp_14 (by decide) (by decide)) hp_18 (by decide) (by decide)) hF3_37 (by decide) (by decide)) hp_34 (by decide) (by decide))
      exact zireti hC hZ hr hlocks ⟨hq, ⟨bs, en, u, st, (sKick (kd (iN d), fg (iN d)) sc.1), (sDraw (kd (iN d), fg (iN d))), (sHold (kd (iN d), fg (iN d))), sc.2.2.2.2, ia, tk, told, pl, nu, im, hw, kd, fg, so, mn, rw0, bt, h_35, (zne hp_34 (by decide) h_21), (zne hp_34 (by decide) h_22), (zne hp_34 (by decide) h_23), (zne hp_34 (by decide) h_24), (zne hp_34 (by decide) h_25), (zne hp_34 (by decide) h_26), (zne hp_34 (by decide) h_27), (zne hp_34 (by decide) h_28), (zne hp_34 (by decide) h_29), (zne hp_34 (by decide) h_30), (zne hp_34 (by decide) h_31), hR⟩, hfm_36⟩ dX7_rested_100
    · refine lv_iload_n hx hb dX7_rested_44 rfl (lv_at hl 1 rfl) ?_
      refine lv_if_ge (tgt := 95) hx hb dX7_rested_45 (by decide) (fun c_45 => ?_) (fun c_45 => ?_)
      · refine lv_aload_n hx hb dX7_rested_95 rfl (lv_at hl 2 rfl) ?_
        refine zgov hZ hA (zrunV (As := []) (rest := []) (k := 56) hC hZ (c_X7_close l D cy n ad F3_37 H.size sc.1 sc.2.1 sc.2.2.2.1 (sIt (sF (kd (iN d), fg (iN d)) sc) (j + 1) sCC) 0 bs en u st (sKick (kd (iN d), fg (iN d)) sc.1) (sDraw (kd (iN d), fg (iN d))) (sHold (kd (iN d), fg (iN d))) sc.2.2.2.2 pic ia tk hn h_20) mX7_close vX7_close kX7_224 (zRj_of rfl) (zlt hn rfl) h_20 rfl rfl hl.1 rfl (Nat.le_of_ble_eq_true rfl) dX7_rested_96 ⟨Nat.le_refl _, Nat.le_refl _⟩) (fun F_37 hp_39 H locs hZ => ?_)
        have h_40 := zeq hp_39
        refine lv_iload_n hx hb dX7_rested_99 rfl (lv_at hl 1 rfl) ?_
        have hfd : fd = sRested (kd (iN d), fg (iN d)) sc := by
          rcases hT with h | h
          · rw [h.1] at c_45; exact absurd c_45 (by decide)
          · exact h.2
        have hv : (fd : Int32) = sRested (sh (iN d)).2.1 sc := by rw [ht]; exact hfd
        have hq : (fd : Int32) = zr True (sStR sh d) (sRested (sh (iN d)).2.1 sc) := by exact hv.trans (zr_ok trivial hz_7).symm
        have hfm_41 : frM F F_37 := (frM_up (frM_up (frM_up (frM_up (frM_up (frM_up frM_rf hF_2 (by decide) (by decide)) hp_10 (by decide) (by decide)) hp_14 (by decide) (by decide)) hp_18 (by decide) (by decide)) hF3_37 (by decide) (by decide)) hp_39 (by decide) (by decide))
        exact zireti hC hZ hr hlocks ⟨hq, ⟨bs, en, u, st, (sKick (kd (iN d), fg (iN d)) sc.1), (sDraw (kd (iN d), fg (iN d))), (sHold (kd (iN d), fg (iN d))), sc.2.2.2.2, ia, tk, told, pl, nu, im, hw, kd, fg, so, mn, rw0, bt, h_40, (zne hp_39 (by decide) h_21), (zne hp_39 (by decide) h_22), (zne hp_39 (by decide) h_23), (zne hp_39 (by decide) h_24), (zne hp_39 (by decide) h_25), (zne hp_39 (by decide) h_26), (zne hp_39 (by decide) h_27), (zne hp_39 (by decide) h_28), (zne hp_39 (by decide) h_29), (zne hp_39 (by decide) h_30), (zne hp_39 (by decide) h_31), hR⟩, hfm_41⟩ dX7_rested_100
      · refine lv_aload_n hx hb dX7_rested_48 rfl (lv_at hl 2 rfl) ?_
        refine zget hC hZ fX7_154 (zlt hn rfl) h_20 rfl dX7_rested_49 ?_
        refine lv_istore (lv' := [(4, .int ((sIt (sF (kd (iN d), fg (iN d)) sc) (j + 1) sCC).2.1)), (3, .int (nI (j + 1))), (2, .int fd), (0, .ref (ad 56)), (1, .int d)]) hx hb dX7_rested_52 hl (by decide) rfl (fun ls hl => ?_)
        refine lv_aload_n hx hb dX7_rested_54 rfl (lv_at hl 3 rfl) ?_
        refine zget hC hZ fX7_151 (zlt hn rfl) h_20 rfl dX7_rested_55 ?_
        refine lv_istore (lv' := [(5, .int ((sIt (sF (kd (iN d), fg (iN d)) sc) (j + 1) sCC).2.2.1)), (4, .int ((sIt (sF (kd (iN d), fg (iN d)) sc) (j + 1) sCC).2.1)), (3, .int (nI (j + 1))), (2, .int fd), (0, .ref (ad 56)), (1, .int d)]) hx hb dX7_rested_58 hl (by decide) rfl (fun ls hl => ?_)
        refine lv_aload_n hx hb dX7_rested_60 rfl (lv_at hl 4 rfl) ?_
        refine zgov hZ hA (zrunV (As := []) (rest := []) (k := 56) hC hZ (c_X7_tickOn l D cy n ad F3_37 H.size sc.1 sc.2.1 sc.2.2.2.1 (sIt (sF (kd (iN d), fg (iN d)) sc) (j + 1) sCC) 0 bs en u st (sKick (kd (iN d), fg (iN d)) sc.1) (sDraw (kd (iN d), fg (iN d))) (sHold (kd (iN d), fg (iN d))) sc.2.2.2.2 pic ia tk hn h_20 (sIt_gC (gK_sc hgt hG.1) (gC_0 hG.1.2.1) (j + 1))) mX7_tickOn vX7_tickOn kX7_183 (zRj_of rfl) (zlt hn rfl) h_20 rfl rfl hl.1 rfl (Nat.le_of_ble_eq_true rfl) dX7_rested_61 ⟨Nat.le_refl _, Nat.le_refl _⟩) (fun F_42 hp_44 H locs hZ => ?_)
        have h_45 := zeq hp_44
        refine lv_iload hx hb dX7_rested_64 (lv_at hl 1 rfl) ?_
        refine lv_aload_n hx hb dX7_rested_66 rfl (lv_at hl 4 rfl) ?_
        refine zget hC hZ fX7_154 (zlt hn rfl) h_45 rfl dX7_rested_67 ?_
        refine lv_icmp_ne (tgt := 86) hx hb dX7_rested_70 (by decide) (fun c_70 => ?_) (fun c_70 => ?_)
        · refine lv_bipush (v := (-4)) hx hb dX7_rested_86 (by decide) ?_
          refine lv_istore_n (lv' := [(2, .int (-4)), (5, .int ((sIt (sF (kd (iN d), fg (iN d)) sc) (j + 1) sCC).2.2.1)), (4, .int ((sIt (sF (kd (iN d), fg (iN d)) sc) (j + 1) sCC).2.1)), (3, .int (nI (j + 1))), (0, .ref (ad 56)), (1, .int d)]) hx hb dX7_rested_88 rfl hl (by decide) rfl (fun ls hl => ?_)
          refine lv_iinc (v := nI (j + 1 + 1)) (lv' := [(3, .int (nI (j + 1 + 1))), (2, .int (-4)), (5, .int ((sIt (sF (kd (iN d), fg (iN d)) sc) (j + 1) sCC).2.2.1)), (4, .int ((sIt (sF (kd (iN d), fg (iN d)) sc) (j + 1) sCC).2.1)), (0, .ref (ad 56)), (1, .int d)]) hx hb dX7_rested_89 hl (k := 3) rfl (nI_1 (j + 1)) (by decide) rfl (fun ls hl => ?_)
          refine lv_goto (tgt := 37) hx hb dX7_rested_92 (by decide) ?_
          have hlt : j < 500 := by rcases Nat.lt_or_ge j 500 with h | h; exact h; exact absurd (nI_lt (a := 500) (b := j + 1) (by omega) (by omega)) c_41
          have hT1 : fd = -4 ∧ zfind (sRestP (kd (iN d), fg (iN d)) sc) (500 - j) (j + 1) = sRested (kd (iN d), fg (iN d)) sc := hT.resolve_right (fun h => h.1 (Int32.not_le.mp c_45))
          have he_46 : F_42 = va_up F_16 56 (oModel ad sc.1 sc.2.1 sc.2.2.2.1 (sStep (sKick (kd (iN d), fg (iN d)) sc.1) (100 - (sKick (kd (iN d), fg (iN d)) sc.1) - (sDraw (kd (iN d), fg (iN d))) + (sHold (kd (iN d), fg (iN d)))) sc.1.2.2.2 sc.2.1 (sIt (sF (kd (iN d), fg (iN d)) sc) (j + 1) sCC)) 0 bs en u st (sKick (kd (iN d), fg (iN d)) sc.1) (sDraw (kd (iN d), fg (iN d))) (sHold (kd (iN d), fg (iN d))) sc.2.2.2.2 pic ia tk) := by rw [hp_44, hF3_37]; simp only [bx_uu]
          exact ih37 ((j + 1), (-4)) ls _ H locs (by show 500 - (j + 1) < 500 - j; omega) hZ ⟨(lv_sub hl [0, 1, 4, 5] rfl), he_46, hlt, (Or.inl ⟨rfl, (zfind_next (f := 500 - (j + 1)) (by omega) (fun h => (by have h := of_decide_eq_true h; exact c_70 h.1.symm))).symm.trans hT1.2⟩)⟩
        · refine lv_iload hx hb dX7_rested_73 (lv_at hl 0 rfl) ?_
          refine lv_aload_n hx hb dX7_rested_75 rfl (lv_at hl 4 rfl) ?_
          refine zget hC hZ fX7_151 (zlt hn rfl) h_45 rfl dX7_rested_76 ?_
          refine lv_icmp_ne (tgt := 86) hx hb dX7_rested_79 (by decide) (fun c_79 => ?_) (fun c_79 => ?_)
          · refine lv_bipush (v := (-4)) hx hb dX7_rested_86 (by decide) ?_
            refine lv_istore_n (lv' := [(2, .int (-4)), (5, .int ((sIt (sF (kd (iN d), fg (iN d)) sc) (j + 1) sCC).2.2.1)), (4, .int ((sIt (sF (kd (iN d), fg (iN d)) sc) (j + 1) sCC).2.1)), (3, .int (nI (j + 1))), (0, .ref (ad 56)), (1, .int d)]) hx hb dX7_rested_88 rfl hl (by decide) rfl (fun ls hl => ?_)
            refine lv_iinc (v := nI (j + 1 + 1)) (lv' := [(3, .int (nI (j + 1 + 1))), (2, .int (-4)), (5, .int ((sIt (sF (kd (iN d), fg (iN d)) sc) (j + 1) sCC).2.2.1)), (4, .int ((sIt (sF (kd (iN d), fg (iN d)) sc) (j + 1) sCC).2.1)), (0, .ref (ad 56)), (1, .int d)]) hx hb dX7_rested_89 hl (k := 3) rfl (nI_1 (j + 1)) (by decide) rfl (fun ls hl => ?_)
            refine lv_goto (tgt := 37) hx hb dX7_rested_92 (by decide) ?_
            have hlt : j < 500 := by rcases Nat.lt_or_ge j 500 with h | h; exact h; exact absurd (nI_lt (a := 500) (b := j + 1) (by omega) (by omega)) c_41
            have hT1 : fd = -4 ∧ zfind (sRestP (kd (iN d), fg (iN d)) sc) (500 - j) (j + 1) = sRested (kd (iN d), fg (iN d)) sc := hT.resolve_right (fun h => h.1 (Int32.not_le.mp c_45))
            have he_47 : F_42 = va_up F_16 56 (oModel ad sc.1 sc.2.1 sc.2.2.2.1 (sStep (sKick (kd (iN d), fg (iN d)) sc.1) (100 - (sKick (kd (iN d), fg (iN d)) sc.1) - (sDraw (kd (iN d), fg (iN d))) + (sHold (kd (iN d), fg (iN d)))) sc.1.2.2.2 sc.2.1 (sIt (sF (kd (iN d), fg (iN d)) sc) (j + 1) sCC)) 0 bs en u st (sKick (kd (iN d), fg (iN d)) sc.1) (sDraw (kd (iN d), fg (iN d))) (sHold (kd (iN d), fg (iN d))) sc.2.2.2.2 pic ia tk) := by rw [hp_44, hF3_37]; simp only [bx_uu]
            exact ih37 ((j + 1), (-4)) ls _ H locs (by show 500 - (j + 1) < 500 - j; omega) hZ ⟨(lv_sub hl [0, 1, 4, 5] rfl), he_47, hlt, (Or.inl ⟨rfl, (zfind_next (f := 500 - (j + 1)) (by omega) (fun h => (by have h := of_decide_eq_true h; exact c_79 h.2.symm))).symm.trans hT1.2⟩)⟩
          · refine lv_iload_n hx hb dX7_rested_82 rfl (lv_at hl 2 rfl) ?_
            refine lv_goto (tgt := 88) hx hb dX7_rested_83 (by decide) ?_
            refine lv_istore_n (lv' := [(2, .int (nI (j + 1))), (5, .int ((sIt (sF (kd (iN d), fg (iN d)) sc) (j + 1) sCC).2.2.1)), (4, .int ((sIt (sF (kd (iN d), fg (iN d)) sc) (j + 1) sCC).2.1)), (3, .int (nI (j + 1))), (0, .ref (ad 56)), (1, .int d)]) hx hb dX7_rested_88 rfl hl (by decide) rfl (fun ls hl => ?_)
            refine lv_iinc (v := nI (j + 1 + 1)) (lv' := [(3, .int (nI (j + 1 + 1))), (2, .int (nI (j + 1))), (5, .int ((sIt (sF (kd (iN d), fg (iN d)) sc) (j + 1) sCC).2.2.1)), (4, .int ((sIt (sF (kd (iN d), fg (iN d)) sc) (j + 1) sCC).2.1)), (0, .ref (ad 56)), (1, .int d)]) hx hb dX7_rested_89 hl (k := 3) rfl (nI_1 (j + 1)) (by decide) rfl (fun ls hl => ?_)
            refine lv_goto (tgt := 37) hx hb dX7_rested_92 (by decide) ?_
            have hlt : j < 500 := by rcases Nat.lt_or_ge j 500 with h | h; exact h; exact absurd (nI_lt (a := 500) (b := j + 1) (by omega) (by omega)) c_41
            have hT1 : fd = -4 ∧ zfind (sRestP (kd (iN d), fg (iN d)) sc) (500 - j) (j + 1) = sRested (kd (iN d), fg (iN d)) sc := hT.resolve_right (fun h => h.1 (Int32.not_le.mp c_45))
            have he_48 : F_42 = va_up F_16 56 (oModel ad sc.1 sc.2.1 sc.2.2.2.1 (sStep (sKick (kd (iN d), fg (iN d)) sc.1) (100 - (sKick (kd (iN d), fg (iN d)) sc.1) - (sDraw (kd (iN d), fg (iN d))) + (sHold (kd (iN d), fg (iN d)))) sc.1.2.2.2 sc.2.1 (sIt (sF (kd (iN d), fg (iN d)) sc) (j + 1) sCC)) 0 bs en u st (sKick (kd (iN d), fg (iN d)) sc.1) (sDraw (kd (iN d), fg (iN d))) (sHold (kd (iN d), fg (iN d))) sc.2.2.2.2 pic ia tk) := by rw [hp_44, hF3_37]; simp only [bx_uu]
            exact ih37 ((j + 1), nI (j + 1)) ls _ H locs (by show 500 - (j + 1) < 500 - j; omega) hZ ⟨(lv_sub hl [0, 1, 4, 5] rfl), he_48, hlt, (Or.inr ⟨nI_pos (by omega), (zfind_hit (f := 500 - (j + 1)) (by omega) (decide_eq_true ⟨c_70.symm, c_79.symm⟩)).symm.trans hT1.2⟩)⟩
  · refine lv_aload_n hx hb dX7_rested_13 rfl (lv_at hl 0 rfl) ?_
    refine lv_iload_n hx hb dX7_rested_14 rfl (lv_at hl 1 rfl) ?_
    refine zgoi hZ hA (zrunV (As := [.int d]) (rest := []) (k := 56) hC hZ (c_X7_wrongStory l D cy n ad F_1 H.size sc.1 sc.2.1 sc.2.2.2.1 sc.2.2.2.2 0 bs en u st kk dw ho sv pic ia tk hn h_3 hw (zne hF_2 (by decide) h61) d) mX7_wrongStory vX7_wrongStory kX7_142 (zRj_of rfl) (zlt hn rfl) h_3 rfl rfl hl.1 rfl (Nat.le_of_ble_eq_true rfl) dX7_rested_15 ⟨Nat.le_refl _, Nat.le_refl _⟩) (fun r_50 F_49 hp_51 H locs hZ => ?_)
    rw [mStR_eq hHW] at hp_51
    obtain ⟨rfl, rfl⟩ := hp_51
    have hz_52 : (sStR sh d) < 0 := Int32.not_le.mp c_10
    have hq : ((sStR sh d) : Int32) = zr True (sStR sh d) (sRested (sh (iN d)).2.1 sc) := by exact (zr_rf trivial (neg_n0 hz_52)).symm
    have hfm_53 : frM F F_1 := (frM_up frM_rf hF_2 (by decide) (by decide))
    exact zireti hC hZ hr hlocks ⟨hq, ⟨bs, en, u, st, kk, dw, ho, sv, ia, tk, told, pl, nu, im, hw, kd, fg, so, mn, rw0, bt, h_3, (zne hF_2 (by decide) h57), (zne hF_2 (by decide) h58), (zne hF_2 (by decide) h59), (zne hF_2 (by decide) h60), (zne hF_2 (by decide) h61), (zne hF_2 (by decide) h62), (zne hF_2 (by decide) h63), (zne hF_2 (by decide) h64), (zne hF_2 (by decide) h65), (zne hF_2 (by decide) h66), (zne hF_2 (by decide) h67), hR⟩, hfm_53⟩ dX7_rested_18

theorem out_le {ln : Int32} {c : Crs} (h : c.2.2.2.1 = ln) : ln ≤ c.2.2.2.1 := by rw [h]; exact Int32.le_refl _
theorem out_ne {ln : Int32} {c : Crs} (hc : gC ln c) (h : ¬ c.2.2.2.1 = ln) : ¬ ln ≤ c.2.2.2.1 := fun q => h (Int32.toInt_inj.mp (by have a := i32le.mp q; have b := hc.2.2.2.2.2; omega))
theorem mX7_when : zMd yX7_when cX7_when 4 (some .int) 1 := ⟨by decide +kernel, gt_of 1063 (by decide +kernel) rfl, gt_of 52 (by decide +kernel) rfl, by decide⟩
theorem dX7_when_0 : decode cX7_when 0 = .ok (.aload_n 0, 1) := by decide +kernel
theorem dX7_when_1 : decode cX7_when 1 = .ok (.iconst 0, 1) := by decide +kernel
theorem dX7_when_2 : decode cX7_when 2 = .ok (.putfield 57, 3) := by decide +kernel
theorem dX7_when_5 : decode cX7_when 5 = .ok (.aload_n 0, 1) := by decide +kernel
theorem dX7_when_6 : decode cX7_when 6 = .ok (.iload_n 1, 1) := by decide +kernel
theorem dX7_when_7 : decode cX7_when 7 = .ok (.invokevirtual 142, 3) := by decide +kernel
theorem dX7_when_10 : decode cX7_when 10 = .ok (.ifCond .ge 9, 3) := by decide +kernel
theorem dX7_when_19 : decode cX7_when 19 = .ok (.aload_n 0, 1) := by decide +kernel
theorem dX7_when_20 : decode cX7_when 20 = .ok (.iload_n 1, 1) := by decide +kernel
theorem dX7_when_21 : decode cX7_when 21 = .ok (.invokevirtual 145, 3) := by decide +kernel
theorem dX7_when_24 : decode cX7_when 24 = .ok (.aload_n 0, 1) := by decide +kernel
theorem dX7_when_25 : decode cX7_when 25 = .ok (.invokevirtual 221, 3) := by decide +kernel
theorem dX7_when_28 : decode cX7_when 28 = .ok (.bipush (-4), 2) := by decide +kernel
theorem dX7_when_30 : decode cX7_when 30 = .ok (.istore_n 2, 1) := by decide +kernel
theorem dX7_when_31 : decode cX7_when 31 = .ok (.iconst 1, 1) := by decide +kernel
theorem dX7_when_32 : decode cX7_when 32 = .ok (.istore_n 3, 1) := by decide +kernel
theorem dX7_when_33 : decode cX7_when 33 = .ok (.iload_n 3, 1) := by decide +kernel
theorem dX7_when_34 : decode cX7_when 34 = .ok (.sipush 2000, 3) := by decide +kernel
theorem dX7_when_37 : decode cX7_when 37 = .ok (.if_icmp .gt 35, 3) := by decide +kernel
theorem dX7_when_72 : decode cX7_when 72 = .ok (.aload_n 0, 1) := by decide +kernel
theorem dX7_when_73 : decode cX7_when 73 = .ok (.invokevirtual 224, 3) := by decide +kernel
theorem dX7_when_76 : decode cX7_when 76 = .ok (.iload_n 2, 1) := by decide +kernel
theorem dX7_when_77 : decode cX7_when 77 = .ok (.ireturn, 1) := by decide +kernel
theorem dX7_when_40 : decode cX7_when 40 = .ok (.iload_n 2, 1) := by decide +kernel
theorem dX7_when_41 : decode cX7_when 41 = .ok (.ifCond .ge 31, 3) := by decide +kernel
theorem dX7_when_44 : decode cX7_when 44 = .ok (.aload_n 0, 1) := by decide +kernel
theorem dX7_when_45 : decode cX7_when 45 = .ok (.invokevirtual 183, 3) := by decide +kernel
theorem dX7_when_48 : decode cX7_when 48 = .ok (.aload_n 0, 1) := by decide +kernel
theorem dX7_when_49 : decode cX7_when 49 = .ok (.getfield 67, 3) := by decide +kernel
theorem dX7_when_52 : decode cX7_when 52 = .ok (.aload_n 0, 1) := by decide +kernel
theorem dX7_when_53 : decode cX7_when 53 = .ok (.getfield 16, 3) := by decide +kernel
theorem dX7_when_56 : decode cX7_when 56 = .ok (.if_icmp .ne 7, 3) := by decide +kernel
theorem dX7_when_63 : decode cX7_when 63 = .ok (.bipush (-4), 2) := by decide +kernel
theorem dX7_when_65 : decode cX7_when 65 = .ok (.istore_n 2, 1) := by decide +kernel
theorem dX7_when_66 : decode cX7_when 66 = .ok (.iinc 3 1, 3) := by decide +kernel
theorem dX7_when_69 : decode cX7_when 69 = .ok (.goto (-36), 3) := by decide +kernel
theorem dX7_when_59 : decode cX7_when 59 = .ok (.iload_n 3, 1) := by decide +kernel
theorem dX7_when_60 : decode cX7_when 60 = .ok (.goto 5, 3) := by decide +kernel
theorem dX7_when_13 : decode cX7_when 13 = .ok (.aload_n 0, 1) := by decide +kernel
theorem dX7_when_14 : decode cX7_when 14 = .ok (.iload_n 1, 1) := by decide +kernel
theorem dX7_when_15 : decode cX7_when 15 = .ok (.invokevirtual 142, 3) := by decide +kernel
theorem dX7_when_18 : decode cX7_when 18 = .ok (.ireturn, 1) := by decide +kernel
set_option maxRecDepth 100000 in
theorem c_X7_when (l : Launch) (D : va_G) (cy : Nat → Nat) (n : Nat) (ad : Nat → Nat) (F : Nat → va_E) (sz : Nat) (th0 pic : Int32) (sc ps : Scn) (sh : Nat → Shf) (hn : 68 ≤ n) (hX : RM ad cy F th0 pic sc ps sh) (hG : gX sc ps sh) (d : Int32) : Met l yX7_when (zw yX7_when cX7_when 4 (some .int)) (rmL 2) (zPc D cy n ad F sz [.ref (ad 56), .int d]) (va_Qi (fun r F1 => r = zr True (sStR sh d) (sWhen (sh (iN d)).2.1 sc) ∧ RM ad cy F1 0 pic sc ps sh ∧ frM F F1) (zB D n ad) (zA n ad sz)) 0 0 (zA n ad sz) := by
  refine zmet (by decide +kernel) (Nat.le_of_ble_eq_true rfl) (fun p e s m args below meth c ls hC hsz hZ hA hr hlocks hnm hl => ?_)
  have hC : zC p m c cX7_when 4 s args RX7 D cy := hC
  have hx := hC.1.1
  have hb := hC.1.2.1
  have hl : lv_has ls 4 [(0, .ref (ad 56)), (1, .int d)] := hl
  obtain ⟨bs, en, u, st, kk, dw, ho, sv, ia, tk, told, pl, nu, im, hw, kd, fg, so, mn, rw0, bt, hM, h57, h58, h59, h60, h61, h62, h63, h64, h65, h66, h67, hR⟩ := hX
  have hRS := hR.2.2
  have hHW := rX_hw hR
  refine lv_aload_n hx hb dX7_when_0 rfl (lv_at hl 0 rfl) ?_
  refine lv_iconst (v := 0) hx hb dX7_when_1 (by decide) ?_
  refine zput (E := oModel ad sc.1 sc.2.1 sc.2.2.2.1 sc.2.2.2.2 0 bs en u st kk dw ho sv pic ia tk) hC hZ pX7_57 (zlt hn rfl) hM rfl rfl rfl (Nat.le_of_ble_eq_true rfl) dX7_when_2 (fun F_1 hF_2 H locs hZ => ?_)
  have h_3 := zeq hF_2
  refine lv_aload_n hx hb dX7_when_5 rfl (lv_at hl 0 rfl) ?_
  refine lv_iload_n hx hb dX7_when_6 rfl (lv_at hl 1 rfl) ?_
  refine zgoi hZ hA (zrunV (As := [.int d]) (rest := []) (k := 56) hC hZ (c_X7_wrongStory l D cy n ad F_1 H.size sc.1 sc.2.1 sc.2.2.2.1 sc.2.2.2.2 0 bs en u st kk dw ho sv pic ia tk hn h_3 hw (zne hF_2 (by decide) h61) d) mX7_wrongStory vX7_wrongStory kX7_142 (zRj_of rfl) (zlt hn rfl) h_3 rfl rfl hl.1 rfl (Nat.le_of_ble_eq_true rfl) dX7_when_7 ⟨Nat.le_refl _, Nat.le_refl _⟩) (fun r_5 F_4 hp_6 H locs hZ => ?_)
  rw [mStR_eq hHW] at hp_6
  obtain ⟨rfl, rfl⟩ := hp_6
  refine lv_if_ge (tgt := 19) hx hb dX7_when_10 (by decide) (fun c_10 => ?_) (fun c_10 => ?_)
  · refine lv_aload_n hx hb dX7_when_19 rfl (lv_at hl 0 rfl) ?_
    refine lv_iload_n hx hb dX7_when_20 rfl (lv_at hl 1 rfl) ?_
    have hz_7 : (sStR sh d) = 0 := sStR_ge (Int32.not_lt.mpr c_10)
    have hs := sStR_0 hz_7
    have hd := hs.1
    have ht : (sh (iN d)).2.1 = (kd (iN d), fg (iN d)) := (hRS _ hd.2).2.1 hs.2
    have hgt : gT (kd (iN d), fg (iN d)) := by rw [← ht]; exact (hG.2.2 _ hd.2).1 hs.2
    refine zgov hZ hA (zrunV (As := [.int d]) (rest := []) (k := 56) hC hZ (c_X7_tellOn l D cy n ad F_1 H.size sc.1 sc.2.1 sc.2.2.2.1 sc.2.2.2.2 0 bs en u st kk dw ho sv pic ia tk hn h_3 kd (zne hF_2 (by decide) h62) fg (zne hF_2 (by decide) h63) d hd) mX7_tellOn vX7_tellOn kX7_145 (zRj_of rfl) (zlt hn rfl) h_3 rfl rfl hl.1 rfl (Nat.le_of_ble_eq_true rfl) dX7_when_21 ⟨Nat.le_refl _, Nat.le_refl _⟩) (fun F_8 hp_10 H locs hZ => ?_)
    have h_11 := zeq hp_10
    refine lv_aload_n hx hb dX7_when_24 rfl (lv_at hl 0 rfl) ?_
    refine zgov hZ hA (zrunV (As := []) (rest := []) (k := 56) hC hZ (c_X7_open l D cy n ad F_8 H.size sc.1 sc.2.1 sc.2.2.2.1 sc.2.2.2.2 0 bs en u st (sKick (kd (iN d), fg (iN d)) sc.1) (sDraw (kd (iN d), fg (iN d))) (sHold (kd (iN d), fg (iN d))) sv pic ia tk hn h_11) mX7_open vX7_open kX7_221 (zRj_of rfl) (zlt hn rfl) h_11 rfl rfl hl.1 rfl (Nat.le_of_ble_eq_true rfl) dX7_when_25 ⟨Nat.le_refl _, Nat.le_refl _⟩) (fun F_12 hp_14 H locs hZ => ?_)
    have h_15 := zeq hp_14
    refine lv_bipush (v := (-4)) hx hb dX7_when_28 (by decide) ?_
    refine lv_istore_n (lv' := [(2, .int (-4)), (0, .ref (ad 56)), (1, .int d)]) hx hb dX7_when_30 rfl hl (by decide) rfl (fun ls hl => ?_)
    refine lv_iconst (v := 1) hx hb dX7_when_31 (by decide) ?_
    refine lv_istore_n (lv' := [(3, .int 1), (2, .int (-4)), (0, .ref (ad 56)), (1, .int d)]) hx hb dX7_when_32 rfl hl (by decide) rfl (fun ls hl => ?_)
    refine zlp (X := Nat × Int32) 33 (fun _ => []) (fun x ls F1 => lv_has ls 4 [(3, .int (nI (x.1 + 1))), (2, .int x.2), (0, .ref (ad 56)), (1, .int d)] ∧ F1 = va_up F_12 56 (oModel ad sc.1 sc.2.1 sc.2.2.2.1 (sIt (sF (kd (iN d), fg (iN d)) sc) x.1 sCC) 0 bs en u st (sKick (kd (iN d), fg (iN d)) sc.1) (sDraw (kd (iN d), fg (iN d))) (sHold (kd (iN d), fg (iN d))) sc.2.2.2.2 pic ia tk) ∧ (x.1 ≤ 2000) ∧ ((x.2 = -4 ∧ zfind (sWhenP (kd (iN d), fg (iN d)) sc) (2000 - x.1) (x.1 + 1) = sWhen (kd (iN d), fg (iN d)) sc) ∨ (¬ x.2 < 0 ∧ x.2 = sWhen (kd (iN d), fg (iN d)) sc))) (fun x => 2000 - x.1) ?_ (0, -4) hZ ⟨hl, (zself h_15), (Nat.zero_le _), (Or.inl ⟨rfl, rfl⟩)⟩
    intro x ih33 ls F3_33 H locs hZ hφ
    obtain ⟨j, fd⟩ := x
    obtain ⟨hl, hF3_33, hj, hT⟩ := hφ
    have hl : lv_has ls 4 [(3, .int (nI (j + 1))), (2, .int fd), (0, .ref (ad 56)), (1, .int d)] := hl
    have hF3_33 : F3_33 = va_up F_12 56 (oModel ad sc.1 sc.2.1 sc.2.2.2.1 (sIt (sF (kd (iN d), fg (iN d)) sc) j sCC) 0 bs en u st (sKick (kd (iN d), fg (iN d)) sc.1) (sDraw (kd (iN d), fg (iN d))) (sHold (kd (iN d), fg (iN d))) sc.2.2.2.2 pic ia tk) := hF3_33
    have hj : j ≤ 2000 := hj
    have hT : (fd = -4 ∧ zfind (sWhenP (kd (iN d), fg (iN d)) sc) (2000 - j) (j + 1) = sWhen (kd (iN d), fg (iN d)) sc) ∨ (¬ fd < 0 ∧ fd = sWhen (kd (iN d), fg (iN d)) sc) := hT
    have h_16 := zeq hF3_33
    refine lv_iload_n hx hb dX7_when_33 rfl (lv_at hl 0 rfl) ?_
    refine lv_sipush (v := 2000) hx hb dX7_when_34 (by decide) ?_
    refine lv_icmp_gt (tgt := 72) hx hb dX7_when_37 (by decide) (fun c_37 => ?_) (fun c_37 => ?_)
    · refine lv_aload_n hx hb dX7_when_72 rfl (lv_at hl 2 rfl) ?_
      refine zgov hZ hA (zrunV (As := []) (rest := []) (k := 56) hC hZ (c_X7_close l D cy n ad F3_33 H.size sc.1 sc.2.1 sc.2.2.2.1 (sIt (sF (kd (iN d), fg (iN d)) sc) j sCC) 0 bs en u st (sKick (kd (iN d), fg (iN d)) sc.1) (sDraw (kd (iN d), fg (iN d))) (sHold (kd (iN d), fg (iN d))) sc.2.2.2.2 pic ia tk hn h_16) mX7_close vX7_close kX7_224 (zRj_of rfl) (zlt hn rfl) h_16 rfl rfl hl.1 rfl (Nat.le_of_ble_eq_true rfl) dX7_when_73 ⟨Nat.le_refl _, Nat.le_refl _⟩) (fun F_17 hp_19 H locs hZ => ?_)
      have h_20 := zeq hp_19
      have h_21 := zne hp_19 (by decide) (zne hF3_33 (by decide) (zne hp_14 (by decide) (zne hp_10 (by decide) (zne hF_2 (by decide) h57))))
      have h_22 := zne hp_19 (by decide) (zne hF3_33 (by decide) (zne hp_14 (by decide) (zne hp_10 (by decide) (zne hF_2 (by decide) h58))))
      have h_23 := zne hp_19 (by decide) (zne hF3_33 (by decide) (zne hp_14 (by decide) (zne hp_10 (by decide) (zne hF_2 (by decide) h59))))
      have h_24 := zne hp_19 (by decide) (zne hF3_33 (by decide) (zne hp_14 (by decide) (zne hp_10 (by decide) (zne hF_2 (by decide) h60))))
      have h_25 := zne hp_19 (by decide) (zne hF3_33 (by decide) (zne hp_14 (by decide) (zne hp_10 (by decide) (zne hF_2 (by decide) h61))))
      have h_26 := zne hp_19 (by decide) (zne hF3_33 (by decide) (zne hp_14 (by decide) (zne hp_10 (by decide) (zne hF_2 (by decide) h62))))
      have h_27 := zne hp_19 (by decide) (zne hF3_33 (by decide) (zne hp_14 (by decide) (zne hp_10 (by decide) (zne hF_2 (by decide) h63))))
      have h_28 := zne hp_19 (by decide) (zne hF3_33 (by decide) (zne hp_14 (by decide) (zne hp_10 (by decide) (zne hF_2 (by decide) h64))))
      have h_29 := zne hp_19 (by decide) (zne hF3_33 (by decide) (zne hp_14 (by decide) (zne hp_10 (by decide) (zne hF_2 (by decide) h65))))
      have h_30 := zne hp_19 (by decide) (zne hF3_33 (by decide) (zne hp_14 (by decide) (zne hp_10 (by decide) (zne hF_2 (by decide) h66))))
      have h_31 := zne hp_19 (by decide) (zne hF3_33 (by decide) (zne hp_14 (by decide) (zne hp_10 (by decide) (zne hF_2 (by decide) h67))))
      refine lv_iload_n hx hb dX7_when_76 rfl (lv_at hl 1 rfl) ?_
      have hfd : fd = sWhen (kd (iN d), fg (iN d)) sc := by
        have hjN : j = 2000 := by rcases Nat.lt_or_ge j 2000 with h | h; exact absurd c_37 (nI_nlt (a := 2000) (b := j + 1) (by omega) (by omega)); omega
        rcases hT with h | h
        · rw [h.1, ← h.2, hjN, Nat.sub_self]; rfl
        · exact h.2
      have hv : (fd : Int32) = sWhen (sh (iN d)).2.1 sc := by rw [ht]; exact hfd
      have hq : (fd : Int32) = zr True (sStR sh d) (sWhen (sh (iN d)).2.1 sc) := by exact hv.trans (zr_ok trivial hz_7).symm
      have hfm_32 : frM F F_17 := (frM_up (frM_up (frM_up (frM_up (frM_up frM_rf hF_2 (by decide) (by decide)) hp_10 (by decide) (by decide)) hp_14 (by decide) (by decide)) hF3_33 (by decide) (by decide)) hp_19 (by decide) (by decide))
      exact zireti hC hZ hr hlocks ⟨hq, ⟨bs, en, u, st, (sKick (kd (iN d), fg (iN d)) sc.1), (sDraw (kd (iN d), fg (iN d))), (sHold (kd (iN d), fg (iN d))), sc.2.2.2.2, ia, tk, told, pl, nu, im, hw, kd, fg, so, mn, rw0, bt, h_20, h_21, h_22, h_23, h_24, h_25, h_26, h_27, h_28, h_29, h_30, h_31, hR⟩, hfm_32⟩ dX7_when_77
    · refine lv_iload_n hx hb dX7_when_40 rfl (lv_at hl 1 rfl) ?_
      refine lv_if_ge (tgt := 72) hx hb dX7_when_41 (by decide) (fun c_41 => ?_) (fun c_41 => ?_)
      · refine lv_aload_n hx hb dX7_when_72 rfl (lv_at hl 2 rfl) ?_
        refine zgov hZ hA (zrunV (As := []) (rest := []) (k := 56) hC hZ (c_X7_close l D cy n ad F3_33 H.size sc.1 sc.2.1 sc.2.2.2.1 (sIt (sF (kd (iN d), fg (iN d)) sc) j sCC) 0 bs en u st (sKick (kd (iN d), fg (iN d)) sc.1) (sDraw (kd (iN d), fg (iN d))) (sHold (kd (iN d), fg (iN d))) sc.2.2.2.2 pic ia tk hn h_16) mX7_close vX7_close kX7_224 (zRj_of rfl) (zlt hn rfl) h_16 rfl rfl hl.1 rfl (Nat.le_of_ble_eq_true rfl) dX7_when_73 ⟨Nat.le_refl _, Nat.le_refl _⟩) (fun F_33 hp_35 H locs hZ => ?_)
        have h_36 := zeq hp_35
        have h_37 := zne hp_35 (by decide) (zne hF3_33 (by decide) (zne hp_14 (by decide) (zne hp_10 (by decide) (zne hF_2 (by decide) h57))))
        have h_38 := zne hp_35 (by decide) (zne hF3_33 (by decide) (zne hp_14 (by decide) (zne hp_10 (by decide) (zne hF_2 (by decide) h58))))
        have h_39 := zne hp_35 (by decide) (zne hF3_33 (by decide) (zne hp_14 (by decide) (zne hp_10 (by decide) (zne hF_2 (by decide) h59))))
        have h_40 := zne hp_35 (by decide) (zne hF3_33 (by decide) (zne hp_14 (by decide) (zne hp_10 (by decide) (zne hF_2 (by decide) h60))))
        have h_41 := zne hp_35 (by decide) (zne hF3_33 (by decide) (zne hp_14 (by decide) (zne hp_10 (by decide) (zne hF_2 (by decide) h61))))
        have h_42 := zne hp_35 (by decide) (zne hF3_33 (by decide) (zne hp_14 (by decide) (zne hp_10 (by decide) (zne hF_2 (by decide) h62))))
        have h_43 := zne hp_35 (by decide) (zne hF3_33 (by decide) (zne hp_14 (by decide) (zne hp_10 (by decide) (zne hF_2 (by decide) h63))))
        have h_44 := zne hp_35 (by decide) (zne hF3_33 (by decide) (zne hp_14 (by decide) (zne hp_10 (by decide) (zne hF_2 (by decide) h64))))
        have h_45 := zne hp_35 (by decide) (zne hF3_33 (by decide) (zne hp_14 (by decide) (zne hp_10 (by decide) (zne hF_2 (by decide) h65))))
        have h_46 := zne hp_35 (by decide) (zne hF3_33 (by decide) (zne hp_14 (by decide) (zne hp_10 (by decide) (zne hF_2 (by decide) h66))))
        have h_47 := zne hp_35 (by decide) (zne hF3_33 (by decide) (zne hp_14 (by decide) (zne hp_10 (by decide) (zne hF_2 (by decide) h67))))
        refine lv_iload_n hx hb dX7_when_76 rfl (lv_at hl 1 rfl) ?_
        have hfd : fd = sWhen (kd (iN d), fg (iN d)) sc := by
          rcases hT with h | h
          · rw [h.1] at c_41; exact absurd c_41 (by decide)
          · exact h.2
        have hv : (fd : Int32) = sWhen (sh (iN d)).2.1 sc := by rw [ht]; exact hfd
        have hq : (fd : Int32) = zr True (sStR sh d) (sWhen (sh (iN d)).2.1 sc) := by exact hv.trans (zr_ok trivial hz_7).symm
        have hfm_48 : frM F F_33 := (frM_up (frM_up (frM_up (frM_up (frM_up frM_rf hF_2 (by decide) (by decide)) hp_10 (by decide) (by decide)) hp_14 (by decide) (by decide)) hF3_33 (by decide) (by decide)) hp_35 (by decide) (by decide))
        exact zireti hC hZ hr hlocks ⟨hq, ⟨bs, en, u, st, (sKick (kd (iN d), fg (iN d)) sc.1), (sDraw (kd (iN d), fg (iN d))), (sHold (kd (iN d), fg (iN d))), sc.2.2.2.2, ia, tk, told, pl, nu, im, hw, kd, fg, so, mn, rw0, bt, h_36, h_37, h_38, h_39, h_40, h_41, h_42, h_43, h_44, h_45, h_46, h_47, hR⟩, hfm_48⟩ dX7_when_77
      · refine lv_aload_n hx hb dX7_when_44 rfl (lv_at hl 2 rfl) ?_
        refine zgov hZ hA (zrunV (As := []) (rest := []) (k := 56) hC hZ (c_X7_tickOn l D cy n ad F3_33 H.size sc.1 sc.2.1 sc.2.2.2.1 (sIt (sF (kd (iN d), fg (iN d)) sc) j sCC) 0 bs en u st (sKick (kd (iN d), fg (iN d)) sc.1) (sDraw (kd (iN d), fg (iN d))) (sHold (kd (iN d), fg (iN d))) sc.2.2.2.2 pic ia tk hn h_16 (sIt_gC (gK_sc hgt hG.1) (gC_0 hG.1.2.1) j)) mX7_tickOn vX7_tickOn kX7_183 (zRj_of rfl) (zlt hn rfl) h_16 rfl rfl hl.1 rfl (Nat.le_of_ble_eq_true rfl) dX7_when_45 ⟨Nat.le_refl _, Nat.le_refl _⟩) (fun F_49 hp_51 H locs hZ => ?_)
        have h_52 := zeq hp_51
        have h_53 := zne hp_51 (by decide) (zne hF3_33 (by decide) (zne hp_14 (by decide) (zne hp_10 (by decide) (zne hF_2 (by decide) h57))))
        have h_54 := zne hp_51 (by decide) (zne hF3_33 (by decide) (zne hp_14 (by decide) (zne hp_10 (by decide) (zne hF_2 (by decide) h58))))
        have h_55 := zne hp_51 (by decide) (zne hF3_33 (by decide) (zne hp_14 (by decide) (zne hp_10 (by decide) (zne hF_2 (by decide) h59))))
        have h_56 := zne hp_51 (by decide) (zne hF3_33 (by decide) (zne hp_14 (by decide) (zne hp_10 (by decide) (zne hF_2 (by decide) h60))))
        have h_57 := zne hp_51 (by decide) (zne hF3_33 (by decide) (zne hp_14 (by decide) (zne hp_10 (by decide) (zne hF_2 (by decide) h61))))
        have h_58 := zne hp_51 (by decide) (zne hF3_33 (by decide) (zne hp_14 (by decide) (zne hp_10 (by decide) (zne hF_2 (by decide) h62))))
        have h_59 := zne hp_51 (by decide) (zne hF3_33 (by decide) (zne hp_14 (by decide) (zne hp_10 (by decide) (zne hF_2 (by decide) h63))))
        have h_60 := zne hp_51 (by decide) (zne hF3_33 (by decide) (zne hp_14 (by decide) (zne hp_10 (by decide) (zne hF_2 (by decide) h64))))
        have h_61 := zne hp_51 (by decide) (zne hF3_33 (by decide) (zne hp_14 (by decide) (zne hp_10 (by decide) (zne hF_2 (by decide) h65))))
        have h_62 := zne hp_51 (by decide) (zne hF3_33 (by decide) (zne hp_14 (by decide) (zne hp_10 (by decide) (zne hF_2 (by decide) h66))))
        have h_63 := zne hp_51 (by decide) (zne hF3_33 (by decide) (zne hp_14 (by decide) (zne hp_10 (by decide) (zne hF_2 (by decide) h67))))
        refine lv_aload_n hx hb dX7_when_48 rfl (lv_at hl 2 rfl) ?_
        refine zget hC hZ fX7_67 (zlt hn rfl) h_52 rfl dX7_when_49 ?_
        refine lv_aload_n hx hb dX7_when_52 rfl (lv_at hl 2 rfl) ?_
        refine zget hC hZ fX7_16 (zlt hn rfl) h_52 rfl dX7_when_53 ?_
        refine lv_icmp_ne (tgt := 63) hx hb dX7_when_56 (by decide) (fun c_56 => ?_) (fun c_56 => ?_)
        · refine lv_bipush (v := (-4)) hx hb dX7_when_63 (by decide) ?_
          refine lv_istore_n (lv' := [(2, .int (-4)), (3, .int (nI (j + 1))), (0, .ref (ad 56)), (1, .int d)]) hx hb dX7_when_65 rfl hl (by decide) rfl (fun ls hl => ?_)
          refine lv_iinc (v := nI (j + 1 + 1)) (lv' := [(3, .int (nI (j + 1 + 1))), (2, .int (-4)), (0, .ref (ad 56)), (1, .int d)]) hx hb dX7_when_66 hl (k := 1) rfl (nI_1 (j + 1)) (by decide) rfl (fun ls hl => ?_)
          refine lv_goto (tgt := 33) hx hb dX7_when_69 (by decide) ?_
          have hlt : j < 2000 := by rcases Nat.lt_or_ge j 2000 with h | h; exact h; exact absurd (nI_lt (a := 2000) (b := j + 1) (by omega) (by omega)) c_37
          have hT1 : fd = -4 ∧ zfind (sWhenP (kd (iN d), fg (iN d)) sc) (2000 - j) (j + 1) = sWhen (kd (iN d), fg (iN d)) sc := hT.resolve_right (fun h => h.1 (Int32.not_le.mp c_41))
          have hgc := sIt_gC (gK_sc hgt hG.1) (gC_0 hG.1.2.1) (j + 1)
          have he_64 : F_49 = va_up F_12 56 (oModel ad sc.1 sc.2.1 sc.2.2.2.1 (sStep (sKick (kd (iN d), fg (iN d)) sc.1) (100 - (sKick (kd (iN d), fg (iN d)) sc.1) - (sDraw (kd (iN d), fg (iN d))) + (sHold (kd (iN d), fg (iN d)))) sc.1.2.2.2 sc.2.1 (sIt (sF (kd (iN d), fg (iN d)) sc) j sCC)) 0 bs en u st (sKick (kd (iN d), fg (iN d)) sc.1) (sDraw (kd (iN d), fg (iN d))) (sHold (kd (iN d), fg (iN d))) sc.2.2.2.2 pic ia tk) := by rw [hp_51, hF3_33]; simp only [bx_uu]
          exact ih33 ((j + 1), (-4)) ls _ H locs (by show 2000 - (j + 1) < 2000 - j; omega) hZ ⟨hl, he_64, hlt, (Or.inl ⟨rfl, (zfind_next (f := 2000 - (j + 1)) (by omega) (fun h => out_ne hgc c_56 (of_decide_eq_true h))).symm.trans hT1.2⟩)⟩
        · refine lv_iload_n hx hb dX7_when_59 rfl (lv_at hl 0 rfl) ?_
          refine lv_goto (tgt := 65) hx hb dX7_when_60 (by decide) ?_
          refine lv_istore_n (lv' := [(2, .int (nI (j + 1))), (3, .int (nI (j + 1))), (0, .ref (ad 56)), (1, .int d)]) hx hb dX7_when_65 rfl hl (by decide) rfl (fun ls hl => ?_)
          refine lv_iinc (v := nI (j + 1 + 1)) (lv' := [(3, .int (nI (j + 1 + 1))), (2, .int (nI (j + 1))), (0, .ref (ad 56)), (1, .int d)]) hx hb dX7_when_66 hl (k := 1) rfl (nI_1 (j + 1)) (by decide) rfl (fun ls hl => ?_)
          refine lv_goto (tgt := 33) hx hb dX7_when_69 (by decide) ?_
          have hlt : j < 2000 := by rcases Nat.lt_or_ge j 2000 with h | h; exact h; exact absurd (nI_lt (a := 2000) (b := j + 1) (by omega) (by omega)) c_37
          have hT1 : fd = -4 ∧ zfind (sWhenP (kd (iN d), fg (iN d)) sc) (2000 - j) (j + 1) = sWhen (kd (iN d), fg (iN d)) sc := hT.resolve_right (fun h => h.1 (Int32.not_le.mp c_41))
          have hgc := sIt_gC (gK_sc hgt hG.1) (gC_0 hG.1.2.1) (j + 1)
          have he_65 : F_49 = va_up F_12 56 (oModel ad sc.1 sc.2.1 sc.2.2.2.1 (sStep (sKick (kd (iN d), fg (iN d)) sc.1) (100 - (sKick (kd (iN d), fg (iN d)) sc.1) - (sDraw (kd (iN d), fg (iN d))) + (sHold (kd (iN d), fg (iN d)))) sc.1.2.2.2 sc.2.1 (sIt (sF (kd (iN d), fg (iN d)) sc) j sCC)) 0 bs en u st (sKick (kd (iN d), fg (iN d)) sc.1) (sDraw (kd (iN d), fg (iN d))) (sHold (kd (iN d), fg (iN d))) sc.2.2.2.2 pic ia tk) := by rw [hp_51, hF3_33]; simp only [bx_uu]
          exact ih33 ((j + 1), nI (j + 1)) ls _ H locs (by show 2000 - (j + 1) < 2000 - j; omega) hZ ⟨hl, he_65, hlt, (Or.inr ⟨nI_pos (by omega), (zfind_hit (f := 2000 - (j + 1)) (by omega) (decide_eq_true (out_le (c := sIt (sF (kd (iN d), fg (iN d)) sc) (j + 1) sCC) c_56))).symm.trans hT1.2⟩)⟩
  · refine lv_aload_n hx hb dX7_when_13 rfl (lv_at hl 0 rfl) ?_
    refine lv_iload_n hx hb dX7_when_14 rfl (lv_at hl 1 rfl) ?_
    refine zgoi hZ hA (zrunV (As := [.int d]) (rest := []) (k := 56) hC hZ (c_X7_wrongStory l D cy n ad F_1 H.size sc.1 sc.2.1 sc.2.2.2.1 sc.2.2.2.2 0 bs en u st kk dw ho sv pic ia tk hn h_3 hw (zne hF_2 (by decide) h61) d) mX7_wrongStory vX7_wrongStory kX7_142 (zRj_of rfl) (zlt hn rfl) h_3 rfl rfl hl.1 rfl (Nat.le_of_ble_eq_true rfl) dX7_when_15 ⟨Nat.le_refl _, Nat.le_refl _⟩) (fun r_67 F_66 hp_68 H locs hZ => ?_)
    rw [mStR_eq hHW] at hp_68
    obtain ⟨rfl, rfl⟩ := hp_68
    have hz_69 : (sStR sh d) < 0 := Int32.not_le.mp c_10
    have hq : ((sStR sh d) : Int32) = zr True (sStR sh d) (sWhen (sh (iN d)).2.1 sc) := by exact (zr_rf trivial (neg_n0 hz_69)).symm
    have hfm_70 : frM F F_1 := (frM_up frM_rf hF_2 (by decide) (by decide))
    exact zireti hC hZ hr hlocks ⟨hq, ⟨bs, en, u, st, kk, dw, ho, sv, ia, tk, told, pl, nu, im, hw, kd, fg, so, mn, rw0, bt, h_3, (zne hF_2 (by decide) h57), (zne hF_2 (by decide) h58), (zne hF_2 (by decide) h59), (zne hF_2 (by decide) h60), (zne hF_2 (by decide) h61), (zne hF_2 (by decide) h62), (zne hF_2 (by decide) h63), (zne hF_2 (by decide) h64), (zne hF_2 (by decide) h65), (zne hF_2 (by decide) h66), (zne hF_2 (by decide) h67), hR⟩, hfm_70⟩ dX7_when_18
