theorem mX7_judge : zMd yX7_judge cX7_judge 7 (some .int) 2 := ⟨by decide +kernel, gt_of 1080 (by decide +kernel) rfl, gt_of 52 (by decide +kernel) rfl, by decide⟩
theorem dX7_judge_0 : decode cX7_judge 0 = .ok (.aload_n 0, 1) := by decide +kernel
theorem dX7_judge_1 : decode cX7_judge 1 = .ok (.iconst 0, 1) := by decide +kernel
theorem dX7_judge_2 : decode cX7_judge 2 = .ok (.putfield 57, 3) := by decide +kernel
theorem dX7_judge_5 : decode cX7_judge 5 = .ok (.aload_n 0, 1) := by decide +kernel
theorem dX7_judge_6 : decode cX7_judge 6 = .ok (.iload_n 1, 1) := by decide +kernel
theorem dX7_judge_7 : decode cX7_judge 7 = .ok (.iload_n 2, 1) := by decide +kernel
theorem dX7_judge_8 : decode cX7_judge 8 = .ok (.invokevirtual 197, 3) := by decide +kernel
theorem kX7_197 : zLk RX7 197 yX7_wrongTwo := Or.inl (gt_of 999 (by decide +kernel) rfl)
theorem vX7_wrongTwo : zMi yX7_wrongTwo := ⟨gt_of 1001 (by decide +kernel) rfl, gt_of 34 (by decide +kernel) rfl⟩
theorem dX7_judge_11 : decode cX7_judge 11 = .ok (.ifCond .ge 10, 3) := by decide +kernel
theorem dX7_judge_21 : decode cX7_judge 21 = .ok (.aload_n 0, 1) := by decide +kernel
theorem dX7_judge_22 : decode cX7_judge 22 = .ok (.getfield 35, 3) := by decide +kernel
theorem dX7_judge_25 : decode cX7_judge 25 = .ok (.iload_n 1, 1) := by decide +kernel
theorem dX7_judge_26 : decode cX7_judge 26 = .ok (.iaload, 1) := by decide +kernel
theorem dX7_judge_27 : decode cX7_judge 27 = .ok (.iconst 1, 1) := by decide +kernel
theorem dX7_judge_28 : decode cX7_judge 28 = .ok (.if_icmp .ne 13, 3) := by decide +kernel
theorem dX7_judge_41 : decode cX7_judge 41 = .ok (.bipush (-12), 2) := by decide +kernel
theorem dX7_judge_43 : decode cX7_judge 43 = .ok (.ireturn, 1) := by decide +kernel
theorem dX7_judge_31 : decode cX7_judge 31 = .ok (.aload_n 0, 1) := by decide +kernel
theorem dX7_judge_32 : decode cX7_judge 32 = .ok (.getfield 35, 3) := by decide +kernel
theorem dX7_judge_35 : decode cX7_judge 35 = .ok (.iload_n 2, 1) := by decide +kernel
theorem dX7_judge_36 : decode cX7_judge 36 = .ok (.iaload, 1) := by decide +kernel
theorem dX7_judge_37 : decode cX7_judge 37 = .ok (.iconst 2, 1) := by decide +kernel
theorem dX7_judge_38 : decode cX7_judge 38 = .ok (.if_icmp .eq 6, 3) := by decide +kernel
theorem dX7_judge_44 : decode cX7_judge 44 = .ok (.aload_n 0, 1) := by decide +kernel
theorem dX7_judge_45 : decode cX7_judge 45 = .ok (.iload_n 1, 1) := by decide +kernel
theorem dX7_judge_46 : decode cX7_judge 46 = .ok (.invokevirtual 145, 3) := by decide +kernel
theorem dX7_judge_49 : decode cX7_judge 49 = .ok (.aload_n 0, 1) := by decide +kernel
theorem dX7_judge_50 : decode cX7_judge 50 = .ok (.invokevirtual 221, 3) := by decide +kernel
theorem dX7_judge_53 : decode cX7_judge 53 = .ok (.bipush (-4), 2) := by decide +kernel
theorem dX7_judge_55 : decode cX7_judge 55 = .ok (.istore_n 3, 1) := by decide +kernel
theorem dX7_judge_56 : decode cX7_judge 56 = .ok (.iconst 0, 1) := by decide +kernel
theorem dX7_judge_57 : decode cX7_judge 57 = .ok (.istore 4, 2) := by decide +kernel
theorem dX7_judge_59 : decode cX7_judge 59 = .ok (.iload 4, 2) := by decide +kernel
theorem dX7_judge_61 : decode cX7_judge 61 = .ok (.aload_n 0, 1) := by decide +kernel
theorem dX7_judge_62 : decode cX7_judge 62 = .ok (.getfield 47, 3) := by decide +kernel
theorem dX7_judge_65 : decode cX7_judge 65 = .ok (.iload_n 2, 1) := by decide +kernel
theorem dX7_judge_66 : decode cX7_judge 66 = .ok (.iaload, 1) := by decide +kernel
theorem dX7_judge_67 : decode cX7_judge 67 = .ok (.if_icmp .ge 61, 3) := by decide +kernel
theorem dX7_judge_128 : decode cX7_judge 128 = .ok (.aload_n 0, 1) := by decide +kernel
theorem dX7_judge_129 : decode cX7_judge 129 = .ok (.invokevirtual 224, 3) := by decide +kernel
theorem dX7_judge_132 : decode cX7_judge 132 = .ok (.iload_n 3, 1) := by decide +kernel
theorem dX7_judge_133 : decode cX7_judge 133 = .ok (.ireturn, 1) := by decide +kernel
theorem dX7_judge_70 : decode cX7_judge 70 = .ok (.iload_n 3, 1) := by decide +kernel
theorem dX7_judge_71 : decode cX7_judge 71 = .ok (.ifCond .ge 57, 3) := by decide +kernel
theorem dX7_judge_74 : decode cX7_judge 74 = .ok (.aload_n 0, 1) := by decide +kernel
theorem dX7_judge_75 : decode cX7_judge 75 = .ok (.invokevirtual 183, 3) := by decide +kernel
theorem dX7_judge_78 : decode cX7_judge 78 = .ok (.aload_n 0, 1) := by decide +kernel
theorem dX7_judge_79 : decode cX7_judge 79 = .ok (.getfield 50, 3) := by decide +kernel
theorem dX7_judge_82 : decode cX7_judge 82 = .ok (.bipush 100, 2) := by decide +kernel
theorem dX7_judge_84 : decode cX7_judge 84 = .ok (.iload_n 2, 1) := by decide +kernel
theorem dX7_judge_85 : decode cX7_judge 85 = .ok (.imul, 1) := by decide +kernel
theorem dX7_judge_86 : decode cX7_judge 86 = .ok (.iload 4, 2) := by decide +kernel
theorem dX7_judge_88 : decode cX7_judge 88 = .ok (.iadd, 1) := by decide +kernel
theorem dX7_judge_89 : decode cX7_judge 89 = .ok (.laload, 1) := by decide +kernel
theorem dX7_judge_90 : decode cX7_judge 90 = .ok (.lstore 5, 2) := by decide +kernel
theorem dX7_judge_92 : decode cX7_judge 92 = .ok (.lload 5, 2) := by decide +kernel
theorem dX7_judge_94 : decode cX7_judge 94 = .ok (.aload_n 0, 1) := by decide +kernel
theorem dX7_judge_95 : decode cX7_judge 95 = .ok (.iload_n 2, 1) := by decide +kernel
theorem dX7_judge_96 : decode cX7_judge 96 = .ok (.invokevirtual 206, 3) := by decide +kernel
theorem dX7_judge_99 : decode cX7_judge 99 = .ok (.lcmp, 1) := by decide +kernel
theorem dX7_judge_100 : decode cX7_judge 100 = .ok (.ifCond .eq 14, 3) := by decide +kernel
theorem dX7_judge_114 : decode cX7_judge 114 = .ok (.bipush (-4), 2) := by decide +kernel
theorem dX7_judge_116 : decode cX7_judge 116 = .ok (.goto 5, 3) := by decide +kernel
theorem dX7_judge_121 : decode cX7_judge 121 = .ok (.istore_n 3, 1) := by decide +kernel
theorem dX7_judge_122 : decode cX7_judge 122 = .ok (.iinc 4 1, 3) := by decide +kernel
theorem dX7_judge_125 : decode cX7_judge 125 = .ok (.goto (-66), 3) := by decide +kernel
theorem dX7_judge_103 : decode cX7_judge 103 = .ok (.lload 5, 2) := by decide +kernel
theorem dX7_judge_105 : decode cX7_judge 105 = .ok (.aload_n 0, 1) := by decide +kernel
theorem dX7_judge_106 : decode cX7_judge 106 = .ok (.getfield 154, 3) := by decide +kernel
theorem dX7_judge_109 : decode cX7_judge 109 = .ok (.i2l, 1) := by decide +kernel
theorem dX7_judge_110 : decode cX7_judge 110 = .ok (.lcmp, 1) := by decide +kernel
theorem dX7_judge_111 : decode cX7_judge 111 = .ok (.ifCond .ne 8, 3) := by decide +kernel
theorem dX7_judge_119 : decode cX7_judge 119 = .ok (.iload 4, 2) := by decide +kernel
theorem dX7_judge_14 : decode cX7_judge 14 = .ok (.aload_n 0, 1) := by decide +kernel
theorem dX7_judge_15 : decode cX7_judge 15 = .ok (.iload_n 1, 1) := by decide +kernel
theorem dX7_judge_16 : decode cX7_judge 16 = .ok (.iload_n 2, 1) := by decide +kernel
theorem dX7_judge_17 : decode cX7_judge 17 = .ok (.invokevirtual 197, 3) := by decide +kernel
theorem dX7_judge_20 : decode cX7_judge 20 = .ok (.ireturn, 1) := by decide +kernel
set_option maxRecDepth 100000 in
theorem c_X7_judge (l : Launch) (D : va_G) (cy : Nat → Nat) (n : Nat) (ad : Nat → Nat) (F : Nat → va_E) (sz : Nat) (th0 pic : Int32) (sc ps : Scn) (sh : Nat → Shf) (hn : 68 ≤ n) (hX : RM ad cy F th0 pic sc ps sh) (hG : gX sc ps sh) (d e0 : Int32) : Met l yX7_judge (zw yX7_judge cX7_judge 7 (some .int)) (rmL 2) (zPc D cy n ad F sz [.ref (ad 56), .int d, .int e0]) (va_Qi (fun r F1 => r = zr True (sFirst (sStR sh d) (sRowR sh e0)) (sJudge (sh (iN d)).2.1 sc (sh (iN e0))) ∧ RM ad cy F1 0 pic sc ps sh ∧ frM F F1) (zB D n ad) (zA n ad sz)) 0 0 (zA n ad sz) := by
  refine zmet (by decide +kernel) (Nat.le_of_ble_eq_true rfl) (fun p e s m args below meth c ls hC hsz hZ hA hr hlocks hnm hl => ?_)
  have hC : zC p m c cX7_judge 7 s args RX7 D cy := hC
  have hx := hC.1.1
  have hb := hC.1.2.1
  have hl : lv_has ls 7 [(0, .ref (ad 56)), (1, .int d), (2, .int e0)] := hl
  obtain ⟨bs, en, u, st, kk, dw, ho, sv, ia, tk, told, pl, nu, im, hw, kd, fg, so, mn, rw0, bt, hM, h57, h58, h59, h60, h61, h62, h63, h64, h65, h66, h67, hR⟩ := hX
  have hRS := hR.2.2
  have hHW := rX_hw hR
  refine lv_aload_n hx hb dX7_judge_0 rfl (lv_at hl 0 rfl) ?_
  refine lv_iconst (v := 0) hx hb dX7_judge_1 (by decide) ?_
  refine zput (E := oModel ad sc.1 sc.2.1 sc.2.2.2.1 sc.2.2.2.2 0 bs en u st kk dw ho sv pic ia tk) hC hZ pX7_57 (zlt hn rfl) hM rfl rfl rfl (Nat.le_of_ble_eq_true rfl) dX7_judge_2 (fun F_1 hF_2 H locs hZ => ?_)
  have h_3 := zeq hF_2
  refine lv_aload_n hx hb dX7_judge_5 rfl (lv_at hl 0 rfl) ?_
  refine lv_iload_n hx hb dX7_judge_6 rfl (lv_at hl 1 rfl) ?_
  refine lv_iload_n hx hb dX7_judge_7 rfl (lv_at hl 2 rfl) ?_
  refine zgoi hZ hA (zrunV (As := [.int d, .int e0]) (rest := []) (k := 56) hC hZ (c_X7_wrongTwo l D cy n ad F_1 H.size sc.1 sc.2.1 sc.2.2.2.1 sc.2.2.2.2 0 bs en u st kk dw ho sv pic ia tk hn h_3 hw (zne hF_2 (by decide) h61) d e0) mX7_wrongTwo vX7_wrongTwo kX7_197 (zRj_of rfl) (zlt hn rfl) h_3 rfl rfl hl.1 rfl (Nat.le_of_ble_eq_true rfl) dX7_judge_8 ⟨Nat.le_refl _, Nat.le_refl _⟩) (fun r_5 F_4 hp_6 H locs hZ => ?_)
  obtain ⟨rfl, rfl⟩ := hp_6
  refine lv_if_ge (tgt := 21) hx hb dX7_judge_11 (by decide) (fun c_11 => ?_) (fun c_11 => ?_)
  · refine lv_aload_n hx hb dX7_judge_21 rfl (lv_at hl 0 rfl) ?_
    refine zget hC hZ fX7_35 (zlt hn rfl) h_3 rfl dX7_judge_22 ?_
    refine lv_iload_n hx hb dX7_judge_25 rfl (lv_at hl 1 rfl) ?_
    have h2g := mTwo_ge (hw := hw) (d := d) (e := e0) (Int32.not_lt.mpr c_11)
    have hd := bSh_i h2g.1.1
    have hd_e0 := bSh_i h2g.1.2
    refine ziald hC hZ (zlt hn rfl) (zne hF_2 (by decide) h61) hd.1 hd.2 (by decide) dX7_judge_26 ?_
    refine lv_iconst (v := 1) hx hb dX7_judge_27 (by decide) ?_
    refine lv_icmp_ne (tgt := 41) hx hb dX7_judge_28 (by decide) (fun c_28 => ?_) (fun c_28 => ?_)
    · refine lv_bipush (v := (-12)) hx hb dX7_judge_41 (by decide) ?_
      have hrf : (-12 : Int32) = sFirst (sStR sh d) (sRowR sh e0) := two_12 (a := 1) (c := 2) hHW h2g (Or.inl c_28)
      have hq : ((-12) : Int32) = zr True (sFirst (sStR sh d) (sRowR sh e0)) (sJudge (sh (iN d)).2.1 sc (sh (iN e0))) := by exact hrf.trans (zr_rf trivial (by rw [← hrf]; decide)).symm
      have hfm_7 : frM F F_1 := (frM_up frM_rf hF_2 (by decide) (by decide))
      exact zireti hC hZ hr hlocks ⟨hq, ⟨bs, en, u, st, kk, dw, ho, sv, ia, tk, told, pl, nu, im, hw, kd, fg, so, mn, rw0, bt, h_3, (zne hF_2 (by decide) h57), (zne hF_2 (by decide) h58), (zne hF_2 (by decide) h59), (zne hF_2 (by decide) h60), (zne hF_2 (by decide) h61), (zne hF_2 (by decide) h62), (zne hF_2 (by decide) h63), (zne hF_2 (by decide) h64), (zne hF_2 (by decide) h65), (zne hF_2 (by decide) h66), (zne hF_2 (by decide) h67), hR⟩, hfm_7⟩ dX7_judge_43
    · refine lv_aload_n hx hb dX7_judge_31 rfl (lv_at hl 0 rfl) ?_
      refine zget hC hZ fX7_35 (zlt hn rfl) h_3 rfl dX7_judge_32 ?_
      refine lv_iload_n hx hb dX7_judge_35 rfl (lv_at hl 2 rfl) ?_
      refine ziald hC hZ (zlt hn rfl) (zne hF_2 (by decide) h61) hd_e0.1 hd_e0.2 (by decide) dX7_judge_36 ?_
      refine lv_iconst (v := 2) hx hb dX7_judge_37 (by decide) ?_
      refine lv_icmp_eq (tgt := 44) hx hb dX7_judge_38 (by decide) (fun c_38 => ?_) (fun c_38 => ?_)
      · have hz2 : sFirst (sStR sh d) (sRowR sh e0) = 0 := two_0 (a := 1) (c := 2) hHW h2g c_28 c_38
        have hz := sFirst_0 (sStR_le sh d) (sRowR_le sh e0) hz2
        have hs := sStR_0 hz.1
        have hse := sRowR_0 hz.2
        have ht : (sh (iN d)).2.1 = (kd (iN d), fg (iN d)) := (hRS _ hd.2).2.1 hs.2
        have hgt : gT (kd (iN d), fg (iN d)) := by rw [← ht]; exact (hG.2.2 _ hd.2).1 hs.2
        have hro := (hRS _ hd_e0.2).2.2 hse.2
        refine lv_aload_n hx hb dX7_judge_44 rfl (lv_at hl 0 rfl) ?_
        refine lv_iload_n hx hb dX7_judge_45 rfl (lv_at hl 1 rfl) ?_
        refine zgov hZ hA (zrunV (As := [.int d]) (rest := []) (k := 56) hC hZ (c_X7_tellOn l D cy n ad F_1 H.size sc.1 sc.2.1 sc.2.2.2.1 sc.2.2.2.2 0 bs en u st kk dw ho sv pic ia tk hn h_3 kd (zne hF_2 (by decide) h62) fg (zne hF_2 (by decide) h63) d hd) mX7_tellOn vX7_tellOn kX7_145 (zRj_of rfl) (zlt hn rfl) h_3 rfl rfl hl.1 rfl (Nat.le_of_ble_eq_true rfl) dX7_judge_46 ⟨Nat.le_refl _, Nat.le_refl _⟩) (fun F_8 hp_10 H locs hZ => ?_)
        have h_11 := zeq hp_10
        refine lv_aload_n hx hb dX7_judge_49 rfl (lv_at hl 0 rfl) ?_
        refine zgov hZ hA (zrunV (As := []) (rest := []) (k := 56) hC hZ (c_X7_open l D cy n ad F_8 H.size sc.1 sc.2.1 sc.2.2.2.1 sc.2.2.2.2 0 bs en u st (sKick (kd (iN d), fg (iN d)) sc.1) (sDraw (kd (iN d), fg (iN d))) (sHold (kd (iN d), fg (iN d))) sv pic ia tk hn h_11) mX7_open vX7_open kX7_221 (zRj_of rfl) (zlt hn rfl) h_11 rfl rfl hl.1 rfl (Nat.le_of_ble_eq_true rfl) dX7_judge_50 ⟨Nat.le_refl _, Nat.le_refl _⟩) (fun F_12 hp_14 H locs hZ => ?_)
        have h_15 := zeq hp_14
        refine lv_bipush (v := (-4)) hx hb dX7_judge_53 (by decide) ?_
        refine lv_istore_n (lv' := [(3, .int (-4)), (0, .ref (ad 56)), (1, .int d), (2, .int e0)]) hx hb dX7_judge_55 rfl hl (by decide) rfl (fun ls hl => ?_)
        refine lv_iconst (v := 0) hx hb dX7_judge_56 (by decide) ?_
        refine lv_istore (lv' := [(4, .int 0), (3, .int (-4)), (0, .ref (ad 56)), (1, .int d), (2, .int e0)]) hx hb dX7_judge_57 hl (by decide) rfl (fun ls hl => ?_)
        have hz9 : mn (iN e0) = nI (iN (sh (iN e0)).2.2.2.1) ∧ iN (sh (iN e0)).2.2.2.1 ≤ 100 := by rw [hro.2.1]; exact iN_b (hG.2.2 _ hd_e0.2).2.1 (hG.2.2 _ hd_e0.2).2.2.1
        refine zlp (X := Nat × Int32) 59 (fun _ => []) (fun x ls F1 => lv_has ls 7 [(4, .int (nI x.1)), (3, .int x.2), (0, .ref (ad 56)), (1, .int d), (2, .int e0)] ∧ F1 = va_up F_12 56 (oModel ad sc.1 sc.2.1 sc.2.2.2.1 (sIt (sF (kd (iN d), fg (iN d)) sc) x.1 sCC) 0 bs en u st (sKick (kd (iN d), fg (iN d)) sc.1) (sDraw (kd (iN d), fg (iN d))) (sHold (kd (iN d), fg (iN d))) sc.2.2.2.2 pic ia tk) ∧ (x.1 ≤ iN (sh (iN e0)).2.2.2.1) ∧ ((x.2 = -4 ∧ zfind (sJudP (kd (iN d), fg (iN d)) sc (sh (iN e0))) (iN (sh (iN e0)).2.2.2.1 - x.1) x.1 = sJudge (kd (iN d), fg (iN d)) sc (sh (iN e0))) ∨ (¬ x.2 < 0 ∧ x.2 = sJudge (kd (iN d), fg (iN d)) sc (sh (iN e0))))) (fun x => iN (sh (iN e0)).2.2.2.1 - x.1) ?_ (0, -4) hZ ⟨hl, (zself h_15), (Nat.zero_le _), (Or.inl ⟨rfl, rfl⟩)⟩
        intro x ih59 ls F3_59 H locs hZ hφ
        obtain ⟨i, fd⟩ := x
        obtain ⟨hl, hF3_59, hi, hT⟩ := hφ
        have hl : lv_has ls 7 [(4, .int (nI i)), (3, .int fd), (0, .ref (ad 56)), (1, .int d), (2, .int e0)] := hl
        have hF3_59 : F3_59 = va_up F_12 56 (oModel ad sc.1 sc.2.1 sc.2.2.2.1 (sIt (sF (kd (iN d), fg (iN d)) sc) i sCC) 0 bs en u st (sKick (kd (iN d), fg (iN d)) sc.1) (sDraw (kd (iN d), fg (iN d))) (sHold (kd (iN d), fg (iN d))) sc.2.2.2.2 pic ia tk) := hF3_59
        have hi : i ≤ iN (sh (iN e0)).2.2.2.1 := hi
        have hT : (fd = -4 ∧ zfind (sJudP (kd (iN d), fg (iN d)) sc (sh (iN e0))) (iN (sh (iN e0)).2.2.2.1 - i) i = sJudge (kd (iN d), fg (iN d)) sc (sh (iN e0))) ∨ (¬ fd < 0 ∧ fd = sJudge (kd (iN d), fg (iN d)) sc (sh (iN e0))) := hT
        have h_16 := zeq hF3_59
        refine lv_iload hx hb dX7_judge_59 (lv_at hl 0 rfl) ?_
        refine lv_aload_n hx hb dX7_judge_61 rfl (lv_at hl 2 rfl) ?_
        refine zget hC hZ fX7_47 (zlt hn rfl) h_16 rfl dX7_judge_62 ?_
        refine lv_iload_n hx hb dX7_judge_65 rfl (lv_at hl 4 rfl) ?_
        refine ziald hC hZ (zlt hn rfl) (zne hF3_59 (by decide) (zne hp_14 (by decide) (zne hp_10 (by decide) (zne hF_2 (by decide) h65)))) hd_e0.1 hd_e0.2 (by decide) dX7_judge_66 ?_
        refine lv_icmp_ge (tgt := 128) hx hb dX7_judge_67 (by decide) (fun c_67 => ?_) (fun c_67 => ?_)
        · refine lv_aload_n hx hb dX7_judge_128 rfl (lv_at hl 2 rfl) ?_
          refine zgov hZ hA (zrunV (As := []) (rest := []) (k := 56) hC hZ (c_X7_close l D cy n ad F3_59 H.size sc.1 sc.2.1 sc.2.2.2.1 (sIt (sF (kd (iN d), fg (iN d)) sc) i sCC) 0 bs en u st (sKick (kd (iN d), fg (iN d)) sc.1) (sDraw (kd (iN d), fg (iN d))) (sHold (kd (iN d), fg (iN d))) sc.2.2.2.2 pic ia tk hn h_16) mX7_close vX7_close kX7_224 (zRj_of rfl) (zlt hn rfl) h_16 rfl rfl hl.1 rfl (Nat.le_of_ble_eq_true rfl) dX7_judge_129 ⟨Nat.le_refl _, Nat.le_refl _⟩) (fun F_17 hp_19 H locs hZ => ?_)
          have h_20 := zeq hp_19
          have h_21 := zne hp_19 (by decide) (zne hF3_59 (by decide) (zne hp_14 (by decide) (zne hp_10 (by decide) (zne hF_2 (by decide) h57))))
          have h_22 := zne hp_19 (by decide) (zne hF3_59 (by decide) (zne hp_14 (by decide) (zne hp_10 (by decide) (zne hF_2 (by decide) h58))))
          have h_23 := zne hp_19 (by decide) (zne hF3_59 (by decide) (zne hp_14 (by decide) (zne hp_10 (by decide) (zne hF_2 (by decide) h59))))
          have h_24 := zne hp_19 (by decide) (zne hF3_59 (by decide) (zne hp_14 (by decide) (zne hp_10 (by decide) (zne hF_2 (by decide) h60))))
          have h_25 := zne hp_19 (by decide) (zne hF3_59 (by decide) (zne hp_14 (by decide) (zne hp_10 (by decide) (zne hF_2 (by decide) h61))))
          have h_26 := zne hp_19 (by decide) (zne hF3_59 (by decide) (zne hp_14 (by decide) (zne hp_10 (by decide) (zne hF_2 (by decide) h62))))
          have h_27 := zne hp_19 (by decide) (zne hF3_59 (by decide) (zne hp_14 (by decide) (zne hp_10 (by decide) (zne hF_2 (by decide) h63))))
          have h_28 := zne hp_19 (by decide) (zne hF3_59 (by decide) (zne hp_14 (by decide) (zne hp_10 (by decide) (zne hF_2 (by decide) h64))))
          have h_29 := zne hp_19 (by decide) (zne hF3_59 (by decide) (zne hp_14 (by decide) (zne hp_10 (by decide) (zne hF_2 (by decide) h65))))
          have h_30 := zne hp_19 (by decide) (zne hF3_59 (by decide) (zne hp_14 (by decide) (zne hp_10 (by decide) (zne hF_2 (by decide) h66))))
          have h_31 := zne hp_19 (by decide) (zne hF3_59 (by decide) (zne hp_14 (by decide) (zne hp_10 (by decide) (zne hF_2 (by decide) h67))))
          refine lv_iload_n hx hb dX7_judge_132 rfl (lv_at hl 1 rfl) ?_
          have hfd : fd = sJudge (kd (iN d), fg (iN d)) sc (sh (iN e0)) := by
            have hiq : i = iN (sh (iN e0)).2.2.2.1 := zge hz9.1 (by omega) hi c_67
            rcases hT with h | h
            · rw [h.1, ← h.2, hiq, Nat.sub_self]; rfl
            · exact h.2
          have hv : (fd : Int32) = sJudge (sh (iN d)).2.1 sc (sh (iN e0)) := by rw [ht]; exact hfd
          have hq : (fd : Int32) = zr True (sFirst (sStR sh d) (sRowR sh e0)) (sJudge (sh (iN d)).2.1 sc (sh (iN e0))) := by exact hv.trans (zr_ok trivial hz2).symm
          have hfm_32 : frM F F_17 := (frM_up (frM_up (frM_up (frM_up (frM_up frM_rf hF_2 (by decide) (by decide)) hp_10 (by decide) (by decide)) hp_14 (by decide) (by decide)) hF3_59 (by decide) (by decide)) hp_19 (by decide) (by decide))
          exact zireti hC hZ hr hlocks ⟨hq, ⟨bs, en, u, st, (sKick (kd (iN d), fg (iN d)) sc.1), (sDraw (kd (iN d), fg (iN d))), (sHold (kd (iN d), fg (iN d))), sc.2.2.2.2, ia, tk, told, pl, nu, im, hw, kd, fg, so, mn, rw0, bt, h_20, h_21, h_22, h_23, h_24, h_25, h_26, h_27, h_28, h_29, h_30, h_31, hR⟩, hfm_32⟩ dX7_judge_133
        · refine lv_iload_n hx hb dX7_judge_70 rfl (lv_at hl 1 rfl) ?_
          refine lv_if_ge (tgt := 128) hx hb dX7_judge_71 (by decide) (fun c_71 => ?_) (fun c_71 => ?_)
          · refine lv_aload_n hx hb dX7_judge_128 rfl (lv_at hl 2 rfl) ?_
            refine zgov hZ hA (zrunV (As := []) (rest := []) (k := 56) hC hZ (c_X7_close l D cy n ad F3_59 H.size sc.1 sc.2.1 sc.2.2.2.1 (sIt (sF (kd (iN d), fg (iN d)) sc) i sCC) 0 bs en u st (sKick (kd (iN d), fg (iN d)) sc.1) (sDraw (kd (iN d), fg (iN d))) (sHold (kd (iN d), fg (iN d))) sc.2.2.2.2 pic ia tk hn h_16) mX7_close vX7_close kX7_224 (zRj_of rfl) (zlt hn rfl) h_16 rfl rfl hl.1 rfl (Nat.le_of_ble_eq_true rfl) dX7_judge_129 ⟨Nat.le_refl _, Nat.le_refl _⟩) (fun F_33 hp_35 H locs hZ => ?_)
            have h_36 := zeq hp_35
            have h_37 := zne hp_35 (by decide) (zne hF3_59 (by decide) (zne hp_14 (by decide) (zne hp_10 (by decide) (zne hF_2 (by decide) h57))))
            have h_38 := zne hp_35 (by decide) (zne hF3_59 (by decide) (zne hp_14 (by decide) (zne hp_10 (by decide) (zne hF_2 (by decide) h58))))
            have h_39 := zne hp_35 (by decide) (zne hF3_59 (by decide) (zne hp_14 (by decide) (zne hp_10 (by decide) (zne hF_2 (by decide) h59))))
            have h_40 := zne hp_35 (by decide) (zne hF3_59 (by decide) (zne hp_14 (by decide) (zne hp_10 (by decide) (zne hF_2 (by decide) h60))))
            have h_41 := zne hp_35 (by decide) (zne hF3_59 (by decide) (zne hp_14 (by decide) (zne hp_10 (by decide) (zne hF_2 (by decide) h61))))
            have h_42 := zne hp_35 (by decide) (zne hF3_59 (by decide) (zne hp_14 (by decide) (zne hp_10 (by decide) (zne hF_2 (by decide) h62))))
            have h_43 := zne hp_35 (by decide) (zne hF3_59 (by decide) (zne hp_14 (by decide) (zne hp_10 (by decide) (zne hF_2 (by decide) h63))))
            have h_44 := zne hp_35 (by decide) (zne hF3_59 (by decide) (zne hp_14 (by decide) (zne hp_10 (by decide) (zne hF_2 (by decide) h64))))
            have h_45 := zne hp_35 (by decide) (zne hF3_59 (by decide) (zne hp_14 (by decide) (zne hp_10 (by decide) (zne hF_2 (by decide) h65))))
            have h_46 := zne hp_35 (by decide) (zne hF3_59 (by decide) (zne hp_14 (by decide) (zne hp_10 (by decide) (zne hF_2 (by decide) h66))))
            have h_47 := zne hp_35 (by decide) (zne hF3_59 (by decide) (zne hp_14 (by decide) (zne hp_10 (by decide) (zne hF_2 (by decide) h67))))
            refine lv_iload_n hx hb dX7_judge_132 rfl (lv_at hl 1 rfl) ?_
            have hfd : fd = sJudge (kd (iN d), fg (iN d)) sc (sh (iN e0)) := by
              rcases hT with h | h
              · rw [h.1] at c_71; exact absurd c_71 (by decide)
              · exact h.2
            have hv : (fd : Int32) = sJudge (sh (iN d)).2.1 sc (sh (iN e0)) := by rw [ht]; exact hfd
            have hq : (fd : Int32) = zr True (sFirst (sStR sh d) (sRowR sh e0)) (sJudge (sh (iN d)).2.1 sc (sh (iN e0))) := by exact hv.trans (zr_ok trivial hz2).symm
            have hfm_48 : frM F F_33 := (frM_up (frM_up (frM_up (frM_up (frM_up frM_rf hF_2 (by decide) (by decide)) hp_10 (by decide) (by decide)) hp_14 (by decide) (by decide)) hF3_59 (by decide) (by decide)) hp_35 (by decide) (by decide))
            exact zireti hC hZ hr hlocks ⟨hq, ⟨bs, en, u, st, (sKick (kd (iN d), fg (iN d)) sc.1), (sDraw (kd (iN d), fg (iN d))), (sHold (kd (iN d), fg (iN d))), sc.2.2.2.2, ia, tk, told, pl, nu, im, hw, kd, fg, so, mn, rw0, bt, h_36, h_37, h_38, h_39, h_40, h_41, h_42, h_43, h_44, h_45, h_46, h_47, hR⟩, hfm_48⟩ dX7_judge_133
          · refine lv_aload_n hx hb dX7_judge_74 rfl (lv_at hl 2 rfl) ?_
            refine zgov hZ hA (zrunV (As := []) (rest := []) (k := 56) hC hZ (c_X7_tickOn l D cy n ad F3_59 H.size sc.1 sc.2.1 sc.2.2.2.1 (sIt (sF (kd (iN d), fg (iN d)) sc) i sCC) 0 bs en u st (sKick (kd (iN d), fg (iN d)) sc.1) (sDraw (kd (iN d), fg (iN d))) (sHold (kd (iN d), fg (iN d))) sc.2.2.2.2 pic ia tk hn h_16 (sIt_gC (gK_sc hgt hG.1) (gC_0 hG.1.2.1) i)) mX7_tickOn vX7_tickOn kX7_183 (zRj_of rfl) (zlt hn rfl) h_16 rfl rfl hl.1 rfl (Nat.le_of_ble_eq_true rfl) dX7_judge_75 ⟨Nat.le_refl _, Nat.le_refl _⟩) (fun F_49 hp_51 H locs hZ => ?_)
            have h_52 := zeq hp_51
            have h_53 := zne hp_51 (by decide) (zne hF3_59 (by decide) (zne hp_14 (by decide) (zne hp_10 (by decide) (zne hF_2 (by decide) h57))))
            have h_54 := zne hp_51 (by decide) (zne hF3_59 (by decide) (zne hp_14 (by decide) (zne hp_10 (by decide) (zne hF_2 (by decide) h58))))
            have h_55 := zne hp_51 (by decide) (zne hF3_59 (by decide) (zne hp_14 (by decide) (zne hp_10 (by decide) (zne hF_2 (by decide) h59))))
            have h_56 := zne hp_51 (by decide) (zne hF3_59 (by decide) (zne hp_14 (by decide) (zne hp_10 (by decide) (zne hF_2 (by decide) h60))))
            have h_57 := zne hp_51 (by decide) (zne hF3_59 (by decide) (zne hp_14 (by decide) (zne hp_10 (by decide) (zne hF_2 (by decide) h61))))
            have h_58 := zne hp_51 (by decide) (zne hF3_59 (by decide) (zne hp_14 (by decide) (zne hp_10 (by decide) (zne hF_2 (by decide) h62))))
            have h_59 := zne hp_51 (by decide) (zne hF3_59 (by decide) (zne hp_14 (by decide) (zne hp_10 (by decide) (zne hF_2 (by decide) h63))))
            have h_60 := zne hp_51 (by decide) (zne hF3_59 (by decide) (zne hp_14 (by decide) (zne hp_10 (by decide) (zne hF_2 (by decide) h64))))
            have h_61 := zne hp_51 (by decide) (zne hF3_59 (by decide) (zne hp_14 (by decide) (zne hp_10 (by decide) (zne hF_2 (by decide) h65))))
            have h_62 := zne hp_51 (by decide) (zne hF3_59 (by decide) (zne hp_14 (by decide) (zne hp_10 (by decide) (zne hF_2 (by decide) h66))))
            have h_63 := zne hp_51 (by decide) (zne hF3_59 (by decide) (zne hp_14 (by decide) (zne hp_10 (by decide) (zne hF_2 (by decide) h67))))
            refine lv_aload_n hx hb dX7_judge_78 rfl (lv_at hl 2 rfl) ?_
            refine zget hC hZ fX7_50 (zlt hn rfl) h_52 rfl dX7_judge_79 ?_
            refine lv_bipush (v := 100) hx hb dX7_judge_82 (by decide) ?_
            refine lv_iload_n hx hb dX7_judge_84 rfl (lv_at hl 4 rfl) ?_
            refine lv_imul hx hb dX7_judge_85 ?_
            refine lv_iload hx hb dX7_judge_86 (lv_at hl 0 rfl) ?_
            refine lv_iadd hx hb dX7_judge_88 ?_
            have hlt := zlt2 hz9.1 (by omega) c_67
            refine zlald hC hZ (zlt hn rfl) h_62 (ix100 hd_e0.1 i) (by omega) (by decide) dX7_judge_89 ?_
            refine lv_lstore (lv' := [(5, .long (rw0 (100 * iN e0 + i))), (4, .int (nI i)), (3, .int fd), (0, .ref (ad 56)), (1, .int d), (2, .int e0)]) hx hb dX7_judge_90 hl (by decide) rfl (fun ls hl => ?_)
            refine lv_lload hx hb dX7_judge_92 (lv_at hl 0 rfl) ?_
            refine lv_aload_n hx hb dX7_judge_94 rfl (lv_at hl 3 rfl) ?_
            refine lv_iload_n hx hb dX7_judge_95 rfl (lv_at hl 5 rfl) ?_
            refine zgol hZ hA (zrunV (As := [.int e0]) (rest := [.long (rw0 (100 * iN e0 + i))]) (k := 56) hC hZ (c_X7_skippedIn l D cy n ad F_49 H.size sc.1 sc.2.1 sc.2.2.2.1 (sStep (sKick (kd (iN d), fg (iN d)) sc.1) (100 - (sKick (kd (iN d), fg (iN d)) sc.1) - (sDraw (kd (iN d), fg (iN d))) + (sHold (kd (iN d), fg (iN d)))) sc.1.2.2.2 sc.2.1 (sIt (sF (kd (iN d), fg (iN d)) sc) i sCC)) 0 bs en u st (sKick (kd (iN d), fg (iN d)) sc.1) (sDraw (kd (iN d), fg (iN d))) (sHold (kd (iN d), fg (iN d))) sc.2.2.2.2 pic ia tk hn h_52 so h_60 e0 hd_e0) mX7_skippedIn vX7_skippedIn kX7_206 (zRj_of rfl) (zlt hn rfl) h_52 rfl rfl hl.1 rfl (Nat.le_of_ble_eq_true rfl) dX7_judge_96 ⟨Nat.le_refl _, Nat.le_refl _⟩) (fun r_65 F_64 hp_66 H locs hZ => ?_)
            obtain ⟨rfl, rfl⟩ := hp_66
            refine W.lcmp hx hb dX7_judge_99 ?_
            refine lv_if_eq (tgt := 114) hx hb dX7_judge_100 (by decide) (fun c_100 => ?_) (fun c_100 => ?_)
            · refine lv_bipush (v := (-4)) hx hb dX7_judge_114 (by decide) ?_
              refine lv_goto (tgt := 121) hx hb dX7_judge_116 (by decide) ?_
              refine lv_istore_n (lv' := [(3, .int (-4)), (5, .long (rw0 (100 * iN e0 + i))), (4, .int (nI i)), (0, .ref (ad 56)), (1, .int d), (2, .int e0)]) hx hb dX7_judge_121 rfl hl (by decide) rfl (fun ls hl => ?_)
              refine lv_iinc (v := nI (i + 1)) (lv' := [(4, .int (nI (i + 1))), (3, .int (-4)), (5, .long (rw0 (100 * iN e0 + i))), (0, .ref (ad 56)), (1, .int d), (2, .int e0)]) hx hb dX7_judge_122 hl (k := 2) rfl (nI_1 i) (by decide) rfl (fun ls hl => ?_)
              refine lv_goto (tgt := 59) hx hb dX7_judge_125 (by decide) ?_
              have hT1 : fd = -4 ∧ zfind (sJudP (kd (iN d), fg (iN d)) sc (sh (iN e0))) (iN (sh (iN e0)).2.2.2.1 - i) i = sJudge (kd (iN d), fg (iN d)) sc (sh (iN e0)) := hT.resolve_right (fun h => h.1 (Int32.not_le.mp c_71))
              have hat : sAt (sh (iN e0)).2.2.2.1 (sh (iN e0)).2.2.2.2 (nI i) = (sh (iN e0)).2.2.2.2 i := sAt_i (m := iN (sh (iN e0)).2.2.2.1) (hro.2.1.symm.trans hz9.1) hz9.2 hlt
              have hse9 : rw0 (100 * iN e0 + i) = (sAt (sh (iN e0)).2.2.2.1 (sh (iN e0)).2.2.2.2 (nI i)).toInt64 := by rw [hat]; exact hro.2.2 i (by omega)
              rw [hse9, hro.1] at c_100
              have he_67 : F_49 = va_up F_12 56 (oModel ad sc.1 sc.2.1 sc.2.2.2.1 (sStep (sKick (kd (iN d), fg (iN d)) sc.1) (100 - (sKick (kd (iN d), fg (iN d)) sc.1) - (sDraw (kd (iN d), fg (iN d))) + (sHold (kd (iN d), fg (iN d)))) sc.1.2.2.2 sc.2.1 (sIt (sF (kd (iN d), fg (iN d)) sc) i sCC)) 0 bs en u st (sKick (kd (iN d), fg (iN d)) sc.1) (sDraw (kd (iN d), fg (iN d))) (sHold (kd (iN d), fg (iN d))) sc.2.2.2.2 pic ia tk) := by rw [hp_51, hF3_59]; simp only [bx_uu]
              exact ih59 ((i + 1), (-4)) ls _ H locs (by show iN (sh (iN e0)).2.2.2.1 - (i + 1) < iN (sh (iN e0)).2.2.2.1 - i; omega) hZ ⟨(lv_sub hl [0, 1, 3, 4, 5] rfl), he_67, hlt, (Or.inl ⟨rfl, (zfind_next (f := iN (sh (iN e0)).2.2.2.1 - (i + 1)) (by omega) (fun h => (fun h => h.1 (l64eq.mp ((lg_cmp_eq _ _).mp c_100))) (of_decide_eq_true h))).symm.trans hT1.2⟩)⟩
            · refine lv_lload hx hb dX7_judge_103 (lv_at hl 0 rfl) ?_
              refine lv_aload_n hx hb dX7_judge_105 rfl (lv_at hl 3 rfl) ?_
              refine zget hC hZ fX7_154 (zlt hn rfl) h_52 rfl dX7_judge_106 ?_
              refine lv_i2l (v := (sStep (sKick (kd (iN d), fg (iN d)) sc.1) (100 - (sKick (kd (iN d), fg (iN d)) sc.1) - (sDraw (kd (iN d), fg (iN d))) + (sHold (kd (iN d), fg (iN d)))) sc.1.2.2.2 sc.2.1 (sIt (sF (kd (iN d), fg (iN d)) sc) i sCC)).2.1.toInt64) hx hb dX7_judge_109 (by rfl) ?_
              refine W.lcmp hx hb dX7_judge_110 ?_
              refine lv_if_ne (tgt := 119) hx hb dX7_judge_111 (by decide) (fun c_111 => ?_) (fun c_111 => ?_)
              · refine lv_iload hx hb dX7_judge_119 (lv_at hl 1 rfl) ?_
                refine lv_istore_n (lv' := [(3, .int (nI i)), (5, .long (rw0 (100 * iN e0 + i))), (4, .int (nI i)), (0, .ref (ad 56)), (1, .int d), (2, .int e0)]) hx hb dX7_judge_121 rfl hl (by decide) rfl (fun ls hl => ?_)
                refine lv_iinc (v := nI (i + 1)) (lv' := [(4, .int (nI (i + 1))), (3, .int (nI i)), (5, .long (rw0 (100 * iN e0 + i))), (0, .ref (ad 56)), (1, .int d), (2, .int e0)]) hx hb dX7_judge_122 hl (k := 2) rfl (nI_1 i) (by decide) rfl (fun ls hl => ?_)
                refine lv_goto (tgt := 59) hx hb dX7_judge_125 (by decide) ?_
                have hT1 : fd = -4 ∧ zfind (sJudP (kd (iN d), fg (iN d)) sc (sh (iN e0))) (iN (sh (iN e0)).2.2.2.1 - i) i = sJudge (kd (iN d), fg (iN d)) sc (sh (iN e0)) := hT.resolve_right (fun h => h.1 (Int32.not_le.mp c_71))
                have hat : sAt (sh (iN e0)).2.2.2.1 (sh (iN e0)).2.2.2.2 (nI i) = (sh (iN e0)).2.2.2.2 i := sAt_i (m := iN (sh (iN e0)).2.2.2.1) (hro.2.1.symm.trans hz9.1) hz9.2 hlt
                have hse9 : rw0 (100 * iN e0 + i) = (sAt (sh (iN e0)).2.2.2.1 (sh (iN e0)).2.2.2.2 (nI i)).toInt64 := by rw [hat]; exact hro.2.2 i (by omega)
                rw [hse9, hro.1] at c_100
                rw [hse9] at c_111
                have he_68 : F_49 = va_up F_12 56 (oModel ad sc.1 sc.2.1 sc.2.2.2.1 (sStep (sKick (kd (iN d), fg (iN d)) sc.1) (100 - (sKick (kd (iN d), fg (iN d)) sc.1) - (sDraw (kd (iN d), fg (iN d))) + (sHold (kd (iN d), fg (iN d)))) sc.1.2.2.2 sc.2.1 (sIt (sF (kd (iN d), fg (iN d)) sc) i sCC)) 0 bs en u st (sKick (kd (iN d), fg (iN d)) sc.1) (sDraw (kd (iN d), fg (iN d))) (sHold (kd (iN d), fg (iN d))) sc.2.2.2.2 pic ia tk) := by rw [hp_51, hF3_59]; simp only [bx_uu]
                exact ih59 ((i + 1), nI i) ls _ H locs (by show iN (sh (iN e0)).2.2.2.1 - (i + 1) < iN (sh (iN e0)).2.2.2.1 - i; omega) hZ ⟨(lv_sub hl [0, 1, 3, 4, 5] rfl), he_68, hlt, (Or.inr ⟨nI_pos (by omega), (zfind_hit (f := iN (sh (iN e0)).2.2.2.1 - (i + 1)) (by omega) (decide_eq_true ⟨fun h => c_100 ((lg_cmp_eq _ _).mpr (l64eq.mpr h)), fun h => c_111 ((lg_cmp_eq _ _).mpr (l64eq.mpr h))⟩)).symm.trans hT1.2⟩)⟩
              · refine lv_bipush (v := (-4)) hx hb dX7_judge_114 (by decide) ?_
                refine lv_goto (tgt := 121) hx hb dX7_judge_116 (by decide) ?_
                refine lv_istore_n (lv' := [(3, .int (-4)), (5, .long (rw0 (100 * iN e0 + i))), (4, .int (nI i)), (0, .ref (ad 56)), (1, .int d), (2, .int e0)]) hx hb dX7_judge_121 rfl hl (by decide) rfl (fun ls hl => ?_)
                refine lv_iinc (v := nI (i + 1)) (lv' := [(4, .int (nI (i + 1))), (3, .int (-4)), (5, .long (rw0 (100 * iN e0 + i))), (0, .ref (ad 56)), (1, .int d), (2, .int e0)]) hx hb dX7_judge_122 hl (k := 2) rfl (nI_1 i) (by decide) rfl (fun ls hl => ?_)
                refine lv_goto (tgt := 59) hx hb dX7_judge_125 (by decide) ?_
                have hT1 : fd = -4 ∧ zfind (sJudP (kd (iN d), fg (iN d)) sc (sh (iN e0))) (iN (sh (iN e0)).2.2.2.1 - i) i = sJudge (kd (iN d), fg (iN d)) sc (sh (iN e0)) := hT.resolve_right (fun h => h.1 (Int32.not_le.mp c_71))
                have hat : sAt (sh (iN e0)).2.2.2.1 (sh (iN e0)).2.2.2.2 (nI i) = (sh (iN e0)).2.2.2.2 i := sAt_i (m := iN (sh (iN e0)).2.2.2.1) (hro.2.1.symm.trans hz9.1) hz9.2 hlt
                have hse9 : rw0 (100 * iN e0 + i) = (sAt (sh (iN e0)).2.2.2.1 (sh (iN e0)).2.2.2.2 (nI i)).toInt64 := by rw [hat]; exact hro.2.2 i (by omega)
                rw [hse9, hro.1] at c_100
                rw [hse9] at c_111
                have he_69 : F_49 = va_up F_12 56 (oModel ad sc.1 sc.2.1 sc.2.2.2.1 (sStep (sKick (kd (iN d), fg (iN d)) sc.1) (100 - (sKick (kd (iN d), fg (iN d)) sc.1) - (sDraw (kd (iN d), fg (iN d))) + (sHold (kd (iN d), fg (iN d)))) sc.1.2.2.2 sc.2.1 (sIt (sF (kd (iN d), fg (iN d)) sc) i sCC)) 0 bs en u st (sKick (kd (iN d), fg (iN d)) sc.1) (sDraw (kd (iN d), fg (iN d))) (sHold (kd (iN d), fg (iN d))) sc.2.2.2.2 pic ia tk) := by rw [hp_51, hF3_59]; simp only [bx_uu]
                exact ih59 ((i + 1), (-4)) ls _ H locs (by show iN (sh (iN e0)).2.2.2.1 - (i + 1) < iN (sh (iN e0)).2.2.2.1 - i; omega) hZ ⟨(lv_sub hl [0, 1, 3, 4, 5] rfl), he_69, hlt, (Or.inl ⟨rfl, (zfind_next (f := iN (sh (iN e0)).2.2.2.1 - (i + 1)) (by omega) (fun h => (fun h => h.2 (l64eq.mp ((lg_cmp_eq _ _).mp c_111))) (of_decide_eq_true h))).symm.trans hT1.2⟩)⟩
      · refine lv_bipush (v := (-12)) hx hb dX7_judge_41 (by decide) ?_
        have hrf : (-12 : Int32) = sFirst (sStR sh d) (sRowR sh e0) := two_12 (a := 1) (c := 2) hHW h2g (Or.inr c_38)
        have hq : ((-12) : Int32) = zr True (sFirst (sStR sh d) (sRowR sh e0)) (sJudge (sh (iN d)).2.1 sc (sh (iN e0))) := by exact hrf.trans (zr_rf trivial (by rw [← hrf]; decide)).symm
        have hfm_70 : frM F F_1 := (frM_up frM_rf hF_2 (by decide) (by decide))
        exact zireti hC hZ hr hlocks ⟨hq, ⟨bs, en, u, st, kk, dw, ho, sv, ia, tk, told, pl, nu, im, hw, kd, fg, so, mn, rw0, bt, h_3, (zne hF_2 (by decide) h57), (zne hF_2 (by decide) h58), (zne hF_2 (by decide) h59), (zne hF_2 (by decide) h60), (zne hF_2 (by decide) h61), (zne hF_2 (by decide) h62), (zne hF_2 (by decide) h63), (zne hF_2 (by decide) h64), (zne hF_2 (by decide) h65), (zne hF_2 (by decide) h66), (zne hF_2 (by decide) h67), hR⟩, hfm_70⟩ dX7_judge_43
  · refine lv_aload_n hx hb dX7_judge_14 rfl (lv_at hl 0 rfl) ?_
    refine lv_iload_n hx hb dX7_judge_15 rfl (lv_at hl 1 rfl) ?_
    refine lv_iload_n hx hb dX7_judge_16 rfl (lv_at hl 2 rfl) ?_
    refine zgoi hZ hA (zrunV (As := [.int d, .int e0]) (rest := []) (k := 56) hC hZ (c_X7_wrongTwo l D cy n ad F_1 H.size sc.1 sc.2.1 sc.2.2.2.1 sc.2.2.2.2 0 bs en u st kk dw ho sv pic ia tk hn h_3 hw (zne hF_2 (by decide) h61) d e0) mX7_wrongTwo vX7_wrongTwo kX7_197 (zRj_of rfl) (zlt hn rfl) h_3 rfl rfl hl.1 rfl (Nat.le_of_ble_eq_true rfl) dX7_judge_17 ⟨Nat.le_refl _, Nat.le_refl _⟩) (fun r_72 F_71 hp_73 H locs hZ => ?_)
    obtain ⟨rfl, rfl⟩ := hp_73
    have hrf : mTwo hw d e0 = sFirst (sStR sh d) (sRowR sh e0) := mTwo_neg (a := 1) (c := 2) hHW (Int32.not_le.mp c_11)
    have hrn : ¬ sFirst (sStR sh d) (sRowR sh e0) = 0 := by rw [← hrf]; exact neg_n0 (Int32.not_le.mp c_11)
    have hq : ((mTwo hw d e0) : Int32) = zr True (sFirst (sStR sh d) (sRowR sh e0)) (sJudge (sh (iN d)).2.1 sc (sh (iN e0))) := by exact hrf.trans (zr_rf trivial hrn).symm
    have hfm_74 : frM F F_1 := (frM_up frM_rf hF_2 (by decide) (by decide))
    exact zireti hC hZ hr hlocks ⟨hq, ⟨bs, en, u, st, kk, dw, ho, sv, ia, tk, told, pl, nu, im, hw, kd, fg, so, mn, rw0, bt, h_3, (zne hF_2 (by decide) h57), (zne hF_2 (by decide) h58), (zne hF_2 (by decide) h59), (zne hF_2 (by decide) h60), (zne hF_2 (by decide) h61), (zne hF_2 (by decide) h62), (zne hF_2 (by decide) h63), (zne hF_2 (by decide) h64), (zne hF_2 (by decide) h65), (zne hF_2 (by decide) h66), (zne hF_2 (by decide) h67), hR⟩, hfm_74⟩ dX7_judge_20

theorem mTwo_11 {hw : Nat → Int32} {d e : Int32} (h : mTwo hw d e < 0) (h1 : ¬ mTwo hw d e = -1) : mTwo hw d e = -11 := by
  unfold mTwo at h h1 ⊢
  by_cases c : bSh d ∧ bSh e
  · rw [if_pos c] at h ⊢
    by_cases c2 : hw (iN d) = 0 ∨ hw (iN e) = 0
    · rw [if_pos c2]
    · rw [if_neg c2] at h; exact absurd h (by decide)
  · rw [if_neg c] at h1; exact absurd rfl h1
theorem mX7_parts : zMd yX7_parts cX7_parts 10 (some .int) 3 := ⟨by decide +kernel, gt_of 998 (by decide +kernel) rfl, gt_of 52 (by decide +kernel) rfl, by decide⟩
theorem dX7_parts_0 : decode cX7_parts 0 = .ok (.aload_n 0, 1) := by decide +kernel
theorem dX7_parts_1 : decode cX7_parts 1 = .ok (.iconst 0, 1) := by decide +kernel
theorem dX7_parts_2 : decode cX7_parts 2 = .ok (.putfield 57, 3) := by decide +kernel
theorem dX7_parts_5 : decode cX7_parts 5 = .ok (.iload_n 3, 1) := by decide +kernel
theorem dX7_parts_6 : decode cX7_parts 6 = .ok (.i2l, 1) := by decide +kernel
theorem dX7_parts_7 : decode cX7_parts 7 = .ok (.lconst 0, 1) := by decide +kernel
theorem dX7_parts_8 : decode cX7_parts 8 = .ok (.lconst 1, 1) := by decide +kernel
theorem dX7_parts_9 : decode cX7_parts 9 = .ok (.invokestatic 63, 3) := by decide +kernel
theorem dX7_parts_12 : decode cX7_parts 12 = .ok (.ifCond .eq 13, 3) := by decide +kernel
theorem dX7_parts_15 : decode cX7_parts 15 = .ok (.aload_n 0, 1) := by decide +kernel
theorem dX7_parts_16 : decode cX7_parts 16 = .ok (.iload_n 1, 1) := by decide +kernel
theorem dX7_parts_17 : decode cX7_parts 17 = .ok (.iload_n 2, 1) := by decide +kernel
theorem dX7_parts_18 : decode cX7_parts 18 = .ok (.invokevirtual 197, 3) := by decide +kernel
theorem dX7_parts_21 : decode cX7_parts 21 = .ok (.iconst (-1), 1) := by decide +kernel
theorem dX7_parts_22 : decode cX7_parts 22 = .ok (.if_icmp .ne 5, 3) := by decide +kernel
theorem dX7_parts_27 : decode cX7_parts 27 = .ok (.aload_n 0, 1) := by decide +kernel
theorem dX7_parts_28 : decode cX7_parts 28 = .ok (.iload_n 1, 1) := by decide +kernel
theorem dX7_parts_29 : decode cX7_parts 29 = .ok (.iload_n 2, 1) := by decide +kernel
theorem dX7_parts_30 : decode cX7_parts 30 = .ok (.invokevirtual 197, 3) := by decide +kernel
theorem dX7_parts_33 : decode cX7_parts 33 = .ok (.ifCond .ge 6, 3) := by decide +kernel
theorem dX7_parts_39 : decode cX7_parts 39 = .ok (.aload_n 0, 1) := by decide +kernel
theorem dX7_parts_40 : decode cX7_parts 40 = .ok (.getfield 35, 3) := by decide +kernel
theorem dX7_parts_43 : decode cX7_parts 43 = .ok (.iload_n 1, 1) := by decide +kernel
theorem dX7_parts_44 : decode cX7_parts 44 = .ok (.iaload, 1) := by decide +kernel
theorem dX7_parts_45 : decode cX7_parts 45 = .ok (.iconst 1, 1) := by decide +kernel
theorem dX7_parts_46 : decode cX7_parts 46 = .ok (.if_icmp .ne 13, 3) := by decide +kernel
theorem dX7_parts_59 : decode cX7_parts 59 = .ok (.bipush (-12), 2) := by decide +kernel
theorem dX7_parts_61 : decode cX7_parts 61 = .ok (.ireturn, 1) := by decide +kernel
theorem dX7_parts_49 : decode cX7_parts 49 = .ok (.aload_n 0, 1) := by decide +kernel
theorem dX7_parts_50 : decode cX7_parts 50 = .ok (.getfield 35, 3) := by decide +kernel
theorem dX7_parts_53 : decode cX7_parts 53 = .ok (.iload_n 2, 1) := by decide +kernel
theorem dX7_parts_54 : decode cX7_parts 54 = .ok (.iaload, 1) := by decide +kernel
theorem dX7_parts_55 : decode cX7_parts 55 = .ok (.iconst 1, 1) := by decide +kernel
theorem dX7_parts_56 : decode cX7_parts 56 = .ok (.if_icmp .eq 6, 3) := by decide +kernel
theorem dX7_parts_62 : decode cX7_parts 62 = .ok (.bipush (-4), 2) := by decide +kernel
theorem dX7_parts_64 : decode cX7_parts 64 = .ok (.istore 4, 2) := by decide +kernel
theorem dX7_parts_66 : decode cX7_parts 66 = .ok (.bipush (-4), 2) := by decide +kernel
theorem dX7_parts_68 : decode cX7_parts 68 = .ok (.istore 5, 2) := by decide +kernel
theorem dX7_parts_70 : decode cX7_parts 70 = .ok (.iconst 0, 1) := by decide +kernel
theorem dX7_parts_71 : decode cX7_parts 71 = .ok (.istore 6, 2) := by decide +kernel
theorem dX7_parts_73 : decode cX7_parts 73 = .ok (.iload 6, 2) := by decide +kernel
theorem dX7_parts_75 : decode cX7_parts 75 = .ok (.aload_n 0, 1) := by decide +kernel
theorem dX7_parts_76 : decode cX7_parts 76 = .ok (.getfield 120, 3) := by decide +kernel
theorem dX7_parts_79 : decode cX7_parts 79 = .ok (.if_icmp .ge 96, 3) := by decide +kernel
theorem dX7_parts_175 : decode cX7_parts 175 = .ok (.iload_n 3, 1) := by decide +kernel
theorem dX7_parts_176 : decode cX7_parts 176 = .ok (.ifCond .ne 8, 3) := by decide +kernel
theorem dX7_parts_184 : decode cX7_parts 184 = .ok (.iload 5, 2) := by decide +kernel
theorem dX7_parts_186 : decode cX7_parts 186 = .ok (.ireturn, 1) := by decide +kernel
theorem dX7_parts_179 : decode cX7_parts 179 = .ok (.iload 4, 2) := by decide +kernel
theorem dX7_parts_181 : decode cX7_parts 181 = .ok (.goto 5, 3) := by decide +kernel
theorem dX7_parts_82 : decode cX7_parts 82 = .ok (.aload_n 0, 1) := by decide +kernel
theorem dX7_parts_83 : decode cX7_parts 83 = .ok (.aload_n 0, 1) := by decide +kernel
theorem dX7_parts_84 : decode cX7_parts 84 = .ok (.getfield 38, 3) := by decide +kernel
theorem dX7_parts_87 : decode cX7_parts 87 = .ok (.iload_n 1, 1) := by decide +kernel
theorem dX7_parts_88 : decode cX7_parts 88 = .ok (.iaload, 1) := by decide +kernel
theorem dX7_parts_89 : decode cX7_parts 89 = .ok (.aload_n 0, 1) := by decide +kernel
theorem dX7_parts_90 : decode cX7_parts 90 = .ok (.getfield 41, 3) := by decide +kernel
theorem dX7_parts_93 : decode cX7_parts 93 = .ok (.iload_n 1, 1) := by decide +kernel
theorem dX7_parts_94 : decode cX7_parts 94 = .ok (.iaload, 1) := by decide +kernel
theorem dX7_parts_95 : decode cX7_parts 95 = .ok (.iload 6, 2) := by decide +kernel
theorem dX7_parts_97 : decode cX7_parts 97 = .ok (.invokevirtual 193, 3) := by decide +kernel
theorem dX7_parts_100 : decode cX7_parts 100 = .ok (.istore 7, 2) := by decide +kernel
theorem dX7_parts_102 : decode cX7_parts 102 = .ok (.aload_n 0, 1) := by decide +kernel
theorem dX7_parts_103 : decode cX7_parts 103 = .ok (.aload_n 0, 1) := by decide +kernel
theorem dX7_parts_104 : decode cX7_parts 104 = .ok (.getfield 38, 3) := by decide +kernel
theorem dX7_parts_107 : decode cX7_parts 107 = .ok (.iload_n 2, 1) := by decide +kernel
theorem dX7_parts_108 : decode cX7_parts 108 = .ok (.iaload, 1) := by decide +kernel
theorem dX7_parts_109 : decode cX7_parts 109 = .ok (.aload_n 0, 1) := by decide +kernel
theorem dX7_parts_110 : decode cX7_parts 110 = .ok (.getfield 41, 3) := by decide +kernel
theorem dX7_parts_113 : decode cX7_parts 113 = .ok (.iload_n 2, 1) := by decide +kernel
theorem dX7_parts_114 : decode cX7_parts 114 = .ok (.iaload, 1) := by decide +kernel
theorem dX7_parts_115 : decode cX7_parts 115 = .ok (.iload 6, 2) := by decide +kernel
theorem dX7_parts_117 : decode cX7_parts 117 = .ok (.invokevirtual 193, 3) := by decide +kernel
theorem dX7_parts_120 : decode cX7_parts 120 = .ok (.istore 8, 2) := by decide +kernel
theorem dX7_parts_122 : decode cX7_parts 122 = .ok (.iload 7, 2) := by decide +kernel
theorem dX7_parts_124 : decode cX7_parts 124 = .ok (.iload 8, 2) := by decide +kernel
theorem dX7_parts_126 : decode cX7_parts 126 = .ok (.if_icmp .le 11, 3) := by decide +kernel
theorem dX7_parts_137 : decode cX7_parts 137 = .ok (.iload 8, 2) := by decide +kernel
theorem dX7_parts_139 : decode cX7_parts 139 = .ok (.iload 7, 2) := by decide +kernel
theorem dX7_parts_141 : decode cX7_parts 141 = .ok (.isub, 1) := by decide +kernel
theorem dX7_parts_142 : decode cX7_parts 142 = .ok (.istore 9, 2) := by decide +kernel
theorem dX7_parts_144 : decode cX7_parts 144 = .ok (.iload 7, 2) := by decide +kernel
theorem dX7_parts_146 : decode cX7_parts 146 = .ok (.ifCond .lt 23, 3) := by decide +kernel
theorem dX7_parts_169 : decode cX7_parts 169 = .ok (.iinc 6 1, 3) := by decide +kernel
theorem dX7_parts_172 : decode cX7_parts 172 = .ok (.goto (-99), 3) := by decide +kernel
theorem dX7_parts_149 : decode cX7_parts 149 = .ok (.iload 8, 2) := by decide +kernel
theorem dX7_parts_151 : decode cX7_parts 151 = .ok (.ifCond .lt 18, 3) := by decide +kernel
theorem dX7_parts_154 : decode cX7_parts 154 = .ok (.iload 9, 2) := by decide +kernel
theorem dX7_parts_156 : decode cX7_parts 156 = .ok (.iload 5, 2) := by decide +kernel
theorem dX7_parts_158 : decode cX7_parts 158 = .ok (.if_icmp .le 11, 3) := by decide +kernel
theorem dX7_parts_161 : decode cX7_parts 161 = .ok (.iload 6, 2) := by decide +kernel
theorem dX7_parts_163 : decode cX7_parts 163 = .ok (.istore 4, 2) := by decide +kernel
theorem dX7_parts_165 : decode cX7_parts 165 = .ok (.iload 9, 2) := by decide +kernel
theorem dX7_parts_167 : decode cX7_parts 167 = .ok (.istore 5, 2) := by decide +kernel
theorem dX7_parts_129 : decode cX7_parts 129 = .ok (.iload 7, 2) := by decide +kernel
theorem dX7_parts_131 : decode cX7_parts 131 = .ok (.iload 8, 2) := by decide +kernel
theorem dX7_parts_133 : decode cX7_parts 133 = .ok (.isub, 1) := by decide +kernel
theorem dX7_parts_134 : decode cX7_parts 134 = .ok (.goto 8, 3) := by decide +kernel
theorem dX7_parts_36 : decode cX7_parts 36 = .ok (.bipush (-11), 2) := by decide +kernel
theorem dX7_parts_38 : decode cX7_parts 38 = .ok (.ireturn, 1) := by decide +kernel
theorem dX7_parts_25 : decode cX7_parts 25 = .ok (.iconst (-1), 1) := by decide +kernel
theorem dX7_parts_26 : decode cX7_parts 26 = .ok (.ireturn, 1) := by decide +kernel
set_option maxRecDepth 100000 in
theorem c_X7_parts (l : Launch) (D : va_G) (cy : Nat → Nat) (n : Nat) (ad : Nat → Nat) (F : Nat → va_E) (sz : Nat) (th0 pic : Int32) (sc ps : Scn) (sh : Nat → Shf) (hn : 68 ≤ n) (hX : RM ad cy F th0 pic sc ps sh) (hG : gX sc ps sh) (d e0 what : Int32) : Met l yX7_parts (zw yX7_parts cX7_parts 10 (some .int)) (rmL 3) (zPc D cy n ad F sz [.ref (ad 56), .int d, .int e0, .int what]) (va_Qi (fun r F1 => r = zr (bIn what 0 1) (sFirst (sStR sh d) (sStR sh e0)) (sParts (sh (iN d)).2.1 (sh (iN e0)).2.1 sc what) ∧ RM ad cy F1 0 pic sc ps sh ∧ frM F F1) (zB D n ad) (zA n ad sz)) 0 0 (zA n ad sz) := by
  refine zmet (by decide +kernel) (Nat.le_of_ble_eq_true rfl) (fun p e s m args below meth c ls hC hsz hZ hA hr hlocks hnm hl => ?_)
  have hC : zC p m c cX7_parts 10 s args RX7 D cy := hC
  have hx := hC.1.1
  have hb := hC.1.2.1
  have hl : lv_has ls 10 [(0, .ref (ad 56)), (1, .int d), (2, .int e0), (3, .int what)] := hl
  obtain ⟨bs, en, u, st, kk, dw, ho, sv, ia, tk, told, pl, nu, im, hw, kd, fg, so, mn, rw0, bt, hM, h57, h58, h59, h60, h61, h62, h63, h64, h65, h66, h67, hR⟩ := hX
  have hRS := hR.2.2
  have hHW := rX_hw hR
  refine lv_aload_n hx hb dX7_parts_0 rfl (lv_at hl 0 rfl) ?_
  refine lv_iconst (v := 0) hx hb dX7_parts_1 (by decide) ?_
  refine zput (E := oModel ad sc.1 sc.2.1 sc.2.2.2.1 sc.2.2.2.2 0 bs en u st kk dw ho sv pic ia tk) hC hZ pX7_57 (zlt hn rfl) hM rfl rfl rfl (Nat.le_of_ble_eq_true rfl) dX7_parts_2 (fun F_1 hF_2 H locs hZ => ?_)
  have h_3 := zeq hF_2
  refine lv_iload_n hx hb dX7_parts_5 rfl (lv_at hl 3 rfl) ?_
  refine lv_i2l (v := (what).toInt64) hx hb dX7_parts_6 (by rfl) ?_
  refine lv_lconst (v := 0) hx hb dX7_parts_7 (by decide) ?_
  refine lv_lconst (v := 1) hx hb dX7_parts_8 (by decide) ?_
  refine zgoi hZ hA (zrunS (As := [.long ((what).toInt64), .long 0, .long 1]) (rest := []) hC hZ (c_X7_in l D cy n ad F_1 H.size what 0 1 0 1 (by decide) (by decide)) mX7_in sX7_in kX7_63 (zRj_of rfl) rfl hl.1 rfl (Nat.le_of_ble_eq_true rfl) dX7_parts_9 ⟨Nat.le_refl _, Nat.le_refl _⟩) (fun r_5 F_4 hp_6 H locs hZ => ?_)
  obtain ⟨hp_6, rfl⟩ := hp_6
  by_cases b_7 : bIn what 0 1
  · rw [if_pos b_7] at hp_6
    subst hp_6
    refine lv_if_eq (tgt := 25) hx hb dX7_parts_12 (by decide) (fun h => absurd (show (1 : Int32) = 0 from h) (by decide)) (fun _ => ?_)
    refine lv_aload_n hx hb dX7_parts_15 rfl (lv_at hl 0 rfl) ?_
    refine lv_iload_n hx hb dX7_parts_16 rfl (lv_at hl 1 rfl) ?_
    refine lv_iload_n hx hb dX7_parts_17 rfl (lv_at hl 2 rfl) ?_
    refine zgoi hZ hA (zrunV (As := [.int d, .int e0]) (rest := []) (k := 56) hC hZ (c_X7_wrongTwo l D cy n ad F_1 H.size sc.1 sc.2.1 sc.2.2.2.1 sc.2.2.2.2 0 bs en u st kk dw ho sv pic ia tk hn h_3 hw (zne hF_2 (by decide) h61) d e0) mX7_wrongTwo vX7_wrongTwo kX7_197 (zRj_of rfl) (zlt hn rfl) h_3 rfl rfl hl.1 rfl (Nat.le_of_ble_eq_true rfl) dX7_parts_18 ⟨Nat.le_refl _, Nat.le_refl _⟩) (fun r_9 F_8 hp_10 H locs hZ => ?_)
    obtain ⟨rfl, rfl⟩ := hp_10
    refine lv_iconst (v := (-1)) hx hb dX7_parts_21 (by decide) ?_
    refine lv_icmp_ne (tgt := 27) hx hb dX7_parts_22 (by decide) (fun c_22 => ?_) (fun c_22 => ?_)
    · refine lv_aload_n hx hb dX7_parts_27 rfl (lv_at hl 0 rfl) ?_
      refine lv_iload_n hx hb dX7_parts_28 rfl (lv_at hl 1 rfl) ?_
      refine lv_iload_n hx hb dX7_parts_29 rfl (lv_at hl 2 rfl) ?_
      refine zgoi hZ hA (zrunV (As := [.int d, .int e0]) (rest := []) (k := 56) hC hZ (c_X7_wrongTwo l D cy n ad F_1 H.size sc.1 sc.2.1 sc.2.2.2.1 sc.2.2.2.2 0 bs en u st kk dw ho sv pic ia tk hn h_3 hw (zne hF_2 (by decide) h61) d e0) mX7_wrongTwo vX7_wrongTwo kX7_197 (zRj_of rfl) (zlt hn rfl) h_3 rfl rfl hl.1 rfl (Nat.le_of_ble_eq_true rfl) dX7_parts_30 ⟨Nat.le_refl _, Nat.le_refl _⟩) (fun r_12 F_11 hp_13 H locs hZ => ?_)
      obtain ⟨rfl, rfl⟩ := hp_13
      refine lv_if_ge (tgt := 39) hx hb dX7_parts_33 (by decide) (fun c_33 => ?_) (fun c_33 => ?_)
      · refine lv_aload_n hx hb dX7_parts_39 rfl (lv_at hl 0 rfl) ?_
        refine zget hC hZ fX7_35 (zlt hn rfl) h_3 rfl dX7_parts_40 ?_
        refine lv_iload_n hx hb dX7_parts_43 rfl (lv_at hl 1 rfl) ?_
        have h2g := mTwo_ge (hw := hw) (d := d) (e := e0) (Int32.not_lt.mpr c_33)
        have hd := bSh_i h2g.1.1
        have hd_e0 := bSh_i h2g.1.2
        refine ziald hC hZ (zlt hn rfl) (zne hF_2 (by decide) h61) hd.1 hd.2 (by decide) dX7_parts_44 ?_
        refine lv_iconst (v := 1) hx hb dX7_parts_45 (by decide) ?_
        refine lv_icmp_ne (tgt := 59) hx hb dX7_parts_46 (by decide) (fun c_46 => ?_) (fun c_46 => ?_)
        · refine lv_bipush (v := (-12)) hx hb dX7_parts_59 (by decide) ?_
          have hrf : (-12 : Int32) = sFirst (sStR sh d) (sStR sh e0) := two_12 (a := 1) (c := 1) hHW h2g (Or.inl c_46)
          have hq : ((-12) : Int32) = zr (bIn what 0 1) (sFirst (sStR sh d) (sStR sh e0)) (sParts (sh (iN d)).2.1 (sh (iN e0)).2.1 sc what) := by exact hrf.trans (zr_rf b_7 (by rw [← hrf]; decide)).symm
          have hfm_14 : frM F F_1 := (frM_up frM_rf hF_2 (by decide) (by decide))
          exact zireti hC hZ hr hlocks ⟨hq, ⟨bs, en, u, st, kk, dw, ho, sv, ia, tk, told, pl, nu, im, hw, kd, fg, so, mn, rw0, bt, h_3, (zne hF_2 (by decide) h57), (zne hF_2 (by decide) h58), (zne hF_2 (by decide) h59), (zne hF_2 (by decide) h60), (zne hF_2 (by decide) h61), (zne hF_2 (by decide) h62), (zne hF_2 (by decide) h63), (zne hF_2 (by decide) h64), (zne hF_2 (by decide) h65), (zne hF_2 (by decide) h66), (zne hF_2 (by decide) h67), hR⟩, hfm_14⟩ dX7_parts_61
        · refine lv_aload_n hx hb dX7_parts_49 rfl (lv_at hl 0 rfl) ?_
          refine zget hC hZ fX7_35 (zlt hn rfl) h_3 rfl dX7_parts_50 ?_
          refine lv_iload_n hx hb dX7_parts_53 rfl (lv_at hl 2 rfl) ?_
          refine ziald hC hZ (zlt hn rfl) (zne hF_2 (by decide) h61) hd_e0.1 hd_e0.2 (by decide) dX7_parts_54 ?_
          refine lv_iconst (v := 1) hx hb dX7_parts_55 (by decide) ?_
          refine lv_icmp_eq (tgt := 62) hx hb dX7_parts_56 (by decide) (fun c_56 => ?_) (fun c_56 => ?_)
          · have hz2 : sFirst (sStR sh d) (sStR sh e0) = 0 := two_0 (a := 1) (c := 1) hHW h2g c_46 c_56
            have hz := sFirst_0 (sStR_le sh d) (sStR_le sh e0) hz2
            have hs := sStR_0 hz.1
            have hse := sStR_0 hz.2
            have ht : (sh (iN d)).2.1 = (kd (iN d), fg (iN d)) := (hRS _ hd.2).2.1 hs.2
            have hgt : gT (kd (iN d), fg (iN d)) := by rw [← ht]; exact (hG.2.2 _ hd.2).1 hs.2
            have hte : (sh (iN e0)).2.1 = (kd (iN e0), fg (iN e0)) := (hRS _ hd_e0.2).2.1 hse.2
            have hgte : gT (kd (iN e0), fg (iN e0)) := by rw [← hte]; exact (hG.2.2 _ hd_e0.2).1 hse.2
            refine lv_bipush (v := (-4)) hx hb dX7_parts_62 (by decide) ?_
            refine lv_istore (lv' := [(4, .int (-4)), (0, .ref (ad 56)), (1, .int d), (2, .int e0), (3, .int what)]) hx hb dX7_parts_64 hl (by decide) rfl (fun ls hl => ?_)
            refine lv_bipush (v := (-4)) hx hb dX7_parts_66 (by decide) ?_
            refine lv_istore (lv' := [(5, .int (-4)), (4, .int (-4)), (0, .ref (ad 56)), (1, .int d), (2, .int e0), (3, .int what)]) hx hb dX7_parts_68 hl (by decide) rfl (fun ls hl => ?_)
            refine lv_iconst (v := 0) hx hb dX7_parts_70 (by decide) ?_
            refine lv_istore (lv' := [(6, .int 0), (5, .int (-4)), (4, .int (-4)), (0, .ref (ad 56)), (1, .int d), (2, .int e0), (3, .int what)]) hx hb dX7_parts_71 hl (by decide) rfl (fun ls hl => ?_)
            have htc := tc_n hG.1
            refine zlp (X := Nat × (Int32 × Int32) × Int32 × Int32 × Int32) 73 (fun _ => []) (fun x ls F1 => lv_has ls 10 [(6, .int (nI x.1)), (5, .int x.2.1.1), (4, .int x.2.1.2), (0, .ref (ad 56)), (1, .int d), (2, .int e0), (3, .int what)] ∧ F1 = va_up F_1 56 (oModel ad sc.1 sc.2.1 sc.2.2.2.1 sc.2.2.2.2 0 bs en u st x.2.2.1 x.2.2.2.1 x.2.2.2.2 sv pic ia tk) ∧ (x.1 ≤ iN sc.2.2.2.1) ∧ (x.2.1 = zfold (sPartF (kd (iN d), fg (iN d)) (kd (iN e0), fg (iN e0)) sc.2.2.1) x.1 (-4, -4))) (fun x => iN sc.2.2.2.1 - x.1) ?_ (0, (-4, -4), kk, dw, ho) hZ ⟨hl, (zself h_3), (Nat.zero_le _), rfl⟩
            intro x ih73 ls F3_73 H locs hZ hφ
            obtain ⟨i, pp, k1, d1, o1⟩ := x
            obtain ⟨hl, hF3_73, hi, hp⟩ := hφ
            have hl : lv_has ls 10 [(6, .int (nI i)), (5, .int pp.1), (4, .int pp.2), (0, .ref (ad 56)), (1, .int d), (2, .int e0), (3, .int what)] := hl
            have hF3_73 : F3_73 = va_up F_1 56 (oModel ad sc.1 sc.2.1 sc.2.2.2.1 sc.2.2.2.2 0 bs en u st k1 d1 o1 sv pic ia tk) := hF3_73
            have hi : i ≤ iN sc.2.2.2.1 := hi
            have hp : pp = zfold (sPartF (kd (iN d), fg (iN d)) (kd (iN e0), fg (iN e0)) sc.2.2.1) i (-4, -4) := hp
            have h_15 := zeq hF3_73
            refine lv_iload hx hb dX7_parts_73 (lv_at hl 0 rfl) ?_
            refine lv_aload_n hx hb dX7_parts_75 rfl (lv_at hl 3 rfl) ?_
            refine zget hC hZ fX7_120 (zlt hn rfl) h_15 rfl dX7_parts_76 ?_
            refine lv_icmp_ge (tgt := 175) hx hb dX7_parts_79 (by decide) (fun c_79 => ?_) (fun c_79 => ?_)
            · refine lv_iload_n hx hb dX7_parts_175 rfl (lv_at hl 6 rfl) ?_
              refine lv_if_ne (tgt := 184) hx hb dX7_parts_176 (by decide) (fun c_176 => ?_) (fun c_176 => ?_)
              · refine lv_iload hx hb dX7_parts_184 (lv_at hl 1 rfl) ?_
                have hiq : i = iN sc.2.2.2.1 := zge htc.1 (by omega) hi c_79
                have hv : (pp.1 : Int32) = sParts (sh (iN d)).2.1 (sh (iN e0)).2.1 sc what := by rw [ht, hte]; unfold sParts; rw [← hiq, ← hp]; exact (if_neg c_176).symm
                have hq : (pp.1 : Int32) = zr (bIn what 0 1) (sFirst (sStR sh d) (sStR sh e0)) (sParts (sh (iN d)).2.1 (sh (iN e0)).2.1 sc what) := by exact hv.trans (zr_ok b_7 hz2).symm
                have hfm_16 : frM F F3_73 := (frM_up (frM_up frM_rf hF_2 (by decide) (by decide)) hF3_73 (by decide) (by decide))
                exact zireti hC hZ hr hlocks ⟨hq, ⟨bs, en, u, st, k1, d1, o1, sv, ia, tk, told, pl, nu, im, hw, kd, fg, so, mn, rw0, bt, h_15, (zne hF3_73 (by decide) (zne hF_2 (by decide) h57)), (zne hF3_73 (by decide) (zne hF_2 (by decide) h58)), (zne hF3_73 (by decide) (zne hF_2 (by decide) h59)), (zne hF3_73 (by decide) (zne hF_2 (by decide) h60)), (zne hF3_73 (by decide) (zne hF_2 (by decide) h61)), (zne hF3_73 (by decide) (zne hF_2 (by decide) h62)), (zne hF3_73 (by decide) (zne hF_2 (by decide) h63)), (zne hF3_73 (by decide) (zne hF_2 (by decide) h64)), (zne hF3_73 (by decide) (zne hF_2 (by decide) h65)), (zne hF3_73 (by decide) (zne hF_2 (by decide) h66)), (zne hF3_73 (by decide) (zne hF_2 (by decide) h67)), hR⟩, hfm_16⟩ dX7_parts_186
              · refine lv_iload hx hb dX7_parts_179 (lv_at hl 2 rfl) ?_
                refine lv_goto (tgt := 186) hx hb dX7_parts_181 (by decide) ?_
                have hiq : i = iN sc.2.2.2.1 := zge htc.1 (by omega) hi c_79
                have hv : (pp.2 : Int32) = sParts (sh (iN d)).2.1 (sh (iN e0)).2.1 sc what := by rw [ht, hte]; unfold sParts; rw [← hiq, ← hp]; exact (if_pos c_176).symm
                have hq : (pp.2 : Int32) = zr (bIn what 0 1) (sFirst (sStR sh d) (sStR sh e0)) (sParts (sh (iN d)).2.1 (sh (iN e0)).2.1 sc what) := by exact hv.trans (zr_ok b_7 hz2).symm
                have hfm_17 : frM F F3_73 := (frM_up (frM_up frM_rf hF_2 (by decide) (by decide)) hF3_73 (by decide) (by decide))
                exact zireti hC hZ hr hlocks ⟨hq, ⟨bs, en, u, st, k1, d1, o1, sv, ia, tk, told, pl, nu, im, hw, kd, fg, so, mn, rw0, bt, h_15, (zne hF3_73 (by decide) (zne hF_2 (by decide) h57)), (zne hF3_73 (by decide) (zne hF_2 (by decide) h58)), (zne hF3_73 (by decide) (zne hF_2 (by decide) h59)), (zne hF3_73 (by decide) (zne hF_2 (by decide) h60)), (zne hF3_73 (by decide) (zne hF_2 (by decide) h61)), (zne hF3_73 (by decide) (zne hF_2 (by decide) h62)), (zne hF3_73 (by decide) (zne hF_2 (by decide) h63)), (zne hF3_73 (by decide) (zne hF_2 (by decide) h64)), (zne hF3_73 (by decide) (zne hF_2 (by decide) h65)), (zne hF3_73 (by decide) (zne hF_2 (by decide) h66)), (zne hF3_73 (by decide) (zne hF_2 (by decide) h67)), hR⟩, hfm_17⟩ dX7_parts_186
            · refine lv_aload_n hx hb dX7_parts_82 rfl (lv_at hl 3 rfl) ?_
              refine lv_aload_n hx hb dX7_parts_83 rfl (lv_at hl 3 rfl) ?_
              refine zget hC hZ fX7_38 (zlt hn rfl) h_15 rfl dX7_parts_84 ?_
              refine lv_iload_n hx hb dX7_parts_87 rfl (lv_at hl 4 rfl) ?_
              refine ziald hC hZ (zlt hn rfl) (zne hF3_73 (by decide) (zne hF_2 (by decide) h62)) hd.1 hd.2 (by decide) dX7_parts_88 ?_
              refine lv_aload_n hx hb dX7_parts_89 rfl (lv_at hl 3 rfl) ?_
              refine zget hC hZ fX7_41 (zlt hn rfl) h_15 rfl dX7_parts_90 ?_
              refine lv_iload_n hx hb dX7_parts_93 rfl (lv_at hl 4 rfl) ?_
              refine ziald hC hZ (zlt hn rfl) (zne hF3_73 (by decide) (zne hF_2 (by decide) h63)) hd.1 hd.2 (by decide) dX7_parts_94 ?_
              refine lv_iload hx hb dX7_parts_95 (lv_at hl 0 rfl) ?_
              have hlt := zlt2 htc.1 (by omega) c_79
              have hgs := hG.1.2.2.2.1 i (by omega)
              refine zgoi hZ hA (zrunV (As := [.int (kd (iN d)), .int (fg (iN d)), .int (nI i)]) (rest := []) (k := 56) hC hZ (c_X7_aheadOf l D cy n ad F3_73 H.size sc.1 sc.2.1 sc.2.2.2.1 sc.2.2.2.2 0 bs en u st k1 d1 o1 sv pic ia tk hn h_15 told (zne hF3_73 (by decide) (zne hF_2 (by decide) h57)) ((kd (iN d)), (fg (iN d))) i (sc.2.2.1 i) (by omega) (hR.1 _ hlt) hgt hgs) mX7_aheadOf vX7_aheadOf kX7_193 (zRj_of rfl) (zlt hn rfl) h_15 rfl rfl hl.1 rfl (Nat.le_of_ble_eq_true rfl) dX7_parts_97 ⟨Nat.le_refl _, Nat.le_refl _⟩) (fun r_19 F_18 hp_20 H locs hZ => ?_)
              obtain ⟨rfl, hp_21⟩ := hp_20
              have h_22 := zeq hp_21
              refine lv_istore (lv' := [(7, .int (sArchAt ((kd (iN d)), (fg (iN d))) (sc.2.2.1 i) 0)), (6, .int (nI i)), (5, .int pp.1), (4, .int pp.2), (0, .ref (ad 56)), (1, .int d), (2, .int e0), (3, .int what)]) hx hb dX7_parts_100 hl (by decide) rfl (fun ls hl => ?_)
              refine lv_aload_n hx hb dX7_parts_102 rfl (lv_at hl 4 rfl) ?_
              refine lv_aload_n hx hb dX7_parts_103 rfl (lv_at hl 4 rfl) ?_
              refine zget hC hZ fX7_38 (zlt hn rfl) h_22 rfl dX7_parts_104 ?_
              refine lv_iload_n hx hb dX7_parts_107 rfl (lv_at hl 6 rfl) ?_
              refine ziald hC hZ (zlt hn rfl) (zne hp_21 (by decide) (zne hF3_73 (by decide) (zne hF_2 (by decide) h62))) hd_e0.1 hd_e0.2 (by decide) dX7_parts_108 ?_
              refine lv_aload_n hx hb dX7_parts_109 rfl (lv_at hl 4 rfl) ?_
              refine zget hC hZ fX7_41 (zlt hn rfl) h_22 rfl dX7_parts_110 ?_
              refine lv_iload_n hx hb dX7_parts_113 rfl (lv_at hl 6 rfl) ?_
              refine ziald hC hZ (zlt hn rfl) (zne hp_21 (by decide) (zne hF3_73 (by decide) (zne hF_2 (by decide) h63))) hd_e0.1 hd_e0.2 (by decide) dX7_parts_114 ?_
              refine lv_iload hx hb dX7_parts_115 (lv_at hl 1 rfl) ?_
              refine zgoi hZ hA (zrunV (As := [.int (kd (iN e0)), .int (fg (iN e0)), .int (nI i)]) (rest := []) (k := 56) hC hZ (c_X7_aheadOf l D cy n ad F_18 H.size sc.1 sc.2.1 sc.2.2.2.1 sc.2.2.2.2 0 bs en u st (sKick ((kd (iN d)), (fg (iN d))) (sc.2.2.1 i)) (sDraw ((kd (iN d)), (fg (iN d)))) (sHold ((kd (iN d)), (fg (iN d)))) sv pic ia tk hn h_22 told (zne hp_21 (by decide) (zne hF3_73 (by decide) (zne hF_2 (by decide) h57))) ((kd (iN e0)), (fg (iN e0))) i (sc.2.2.1 i) (by omega) (hR.1 _ hlt) hgte hgs) mX7_aheadOf vX7_aheadOf kX7_193 (zRj_of rfl) (zlt hn rfl) h_22 rfl rfl hl.1 rfl (Nat.le_of_ble_eq_true rfl) dX7_parts_117 ⟨Nat.le_refl _, Nat.le_refl _⟩) (fun r_24 F_23 hp_25 H locs hZ => ?_)
              obtain ⟨rfl, hp_26⟩ := hp_25
              have h_27 := zeq hp_26
              refine lv_istore (lv' := [(8, .int (sArchAt ((kd (iN e0)), (fg (iN e0))) (sc.2.2.1 i) 0)), (7, .int (sArchAt ((kd (iN d)), (fg (iN d))) (sc.2.2.1 i) 0)), (6, .int (nI i)), (5, .int pp.1), (4, .int pp.2), (0, .ref (ad 56)), (1, .int d), (2, .int e0), (3, .int what)]) hx hb dX7_parts_120 hl (by decide) rfl (fun ls hl => ?_)
              refine lv_iload hx hb dX7_parts_122 (lv_at hl 1 rfl) ?_
              refine lv_iload hx hb dX7_parts_124 (lv_at hl 0 rfl) ?_
              refine lv_icmp_le (tgt := 137) hx hb dX7_parts_126 (by decide) (fun c_126 => ?_) (fun c_126 => ?_)
              · refine lv_iload hx hb dX7_parts_137 (lv_at hl 0 rfl) ?_
                refine lv_iload hx hb dX7_parts_139 (lv_at hl 1 rfl) ?_
                refine lv_isub hx hb dX7_parts_141 ?_
                refine lv_istore (lv' := [(9, .int ((sArchAt ((kd (iN e0)), (fg (iN e0))) (sc.2.2.1 i) 0) - (sArchAt ((kd (iN d)), (fg (iN d))) (sc.2.2.1 i) 0))), (8, .int (sArchAt ((kd (iN e0)), (fg (iN e0))) (sc.2.2.1 i) 0)), (7, .int (sArchAt ((kd (iN d)), (fg (iN d))) (sc.2.2.1 i) 0)), (6, .int (nI i)), (5, .int pp.1), (4, .int pp.2), (0, .ref (ad 56)), (1, .int d), (2, .int e0), (3, .int what)]) hx hb dX7_parts_142 hl (by decide) rfl (fun ls hl => ?_)
                refine lv_iload hx hb dX7_parts_144 (lv_at hl 2 rfl) ?_
                refine lv_if_lt (tgt := 169) hx hb dX7_parts_146 (by decide) (fun c_146 => ?_) (fun c_146 => ?_)
                · refine lv_iinc (v := nI (i + 1)) (lv' := [(6, .int (nI (i + 1))), (9, .int ((sArchAt ((kd (iN e0)), (fg (iN e0))) (sc.2.2.1 i) 0) - (sArchAt ((kd (iN d)), (fg (iN d))) (sc.2.2.1 i) 0))), (8, .int (sArchAt ((kd (iN e0)), (fg (iN e0))) (sc.2.2.1 i) 0)), (7, .int (sArchAt ((kd (iN d)), (fg (iN d))) (sc.2.2.1 i) 0)), (5, .int pp.1), (4, .int pp.2), (0, .ref (ad 56)), (1, .int d), (2, .int e0), (3, .int what)]) hx hb dX7_parts_169 hl (k := 3) rfl (nI_1 i) (by decide) rfl (fun ls hl => ?_)
                  refine lv_goto (tgt := 73) hx hb dX7_parts_172 (by decide) ?_
                  have ha1 := sArch0 hgt hgs
                  have ha2 := sArch0 hgte hgs
                  have hab := mAbs ha1 ha2
                  have hul := sUnl_ge hgt hgte hgs
                  exact absurd c_146 (Int32.not_lt.mpr (sArch0_le hgt hgs))
                · refine lv_iload hx hb dX7_parts_149 (lv_at hl 1 rfl) ?_
                  refine lv_if_lt (tgt := 169) hx hb dX7_parts_151 (by decide) (fun c_151 => ?_) (fun c_151 => ?_)
                  · refine lv_iinc (v := nI (i + 1)) (lv' := [(6, .int (nI (i + 1))), (9, .int ((sArchAt ((kd (iN e0)), (fg (iN e0))) (sc.2.2.1 i) 0) - (sArchAt ((kd (iN d)), (fg (iN d))) (sc.2.2.1 i) 0))), (8, .int (sArchAt ((kd (iN e0)), (fg (iN e0))) (sc.2.2.1 i) 0)), (7, .int (sArchAt ((kd (iN d)), (fg (iN d))) (sc.2.2.1 i) 0)), (5, .int pp.1), (4, .int pp.2), (0, .ref (ad 56)), (1, .int d), (2, .int e0), (3, .int what)]) hx hb dX7_parts_169 hl (k := 3) rfl (nI_1 i) (by decide) rfl (fun ls hl => ?_)
                    refine lv_goto (tgt := 73) hx hb dX7_parts_172 (by decide) ?_
                    have ha1 := sArch0 hgt hgs
                    have ha2 := sArch0 hgte hgs
                    have hab := mAbs ha1 ha2
                    have hul := sUnl_ge hgt hgte hgs
                    exact absurd c_151 (Int32.not_lt.mpr (sArch0_le hgte hgs))
                  · refine lv_iload hx hb dX7_parts_154 (lv_at hl 0 rfl) ?_
                    refine lv_iload hx hb dX7_parts_156 (lv_at hl 4 rfl) ?_
                    refine lv_icmp_le (tgt := 169) hx hb dX7_parts_158 (by decide) (fun c_158 => ?_) (fun c_158 => ?_)
                    · refine lv_iinc (v := nI (i + 1)) (lv' := [(6, .int (nI (i + 1))), (9, .int ((sArchAt ((kd (iN e0)), (fg (iN e0))) (sc.2.2.1 i) 0) - (sArchAt ((kd (iN d)), (fg (iN d))) (sc.2.2.1 i) 0))), (8, .int (sArchAt ((kd (iN e0)), (fg (iN e0))) (sc.2.2.1 i) 0)), (7, .int (sArchAt ((kd (iN d)), (fg (iN d))) (sc.2.2.1 i) 0)), (5, .int pp.1), (4, .int pp.2), (0, .ref (ad 56)), (1, .int d), (2, .int e0), (3, .int what)]) hx hb dX7_parts_169 hl (k := 3) rfl (nI_1 i) (by decide) rfl (fun ls hl => ?_)
                      refine lv_goto (tgt := 73) hx hb dX7_parts_172 (by decide) ?_
                      have ha1 := sArch0 hgt hgs
                      have ha2 := sArch0 hgte hgs
                      have hab := mAbs ha1 ha2
                      have hul := sUnl_ge hgt hgte hgs
                      have he9 := (hab.2 (Int32.not_lt.mpr c_126)).trans hul.symm
                      rw [he9] at c_158
                      have he_28 : F_23 = va_up F_1 56 (oModel ad sc.1 sc.2.1 sc.2.2.2.1 sc.2.2.2.2 0 bs en u st (sKick ((kd (iN e0)), (fg (iN e0))) (sc.2.2.1 i)) (sDraw ((kd (iN e0)), (fg (iN e0)))) (sHold ((kd (iN e0)), (fg (iN e0)))) sv pic ia tk) := by rw [hp_26, hp_21, hF3_73]; simp only [bx_uu]
                      exact ih73 ((i + 1), pp, (sKick ((kd (iN e0)), (fg (iN e0))) (sc.2.2.1 i)), (sDraw ((kd (iN e0)), (fg (iN e0)))), (sHold ((kd (iN e0)), (fg (iN e0))))) ls _ H locs (by show iN sc.2.2.2.1 - (i + 1) < iN sc.2.2.2.1 - i; omega) hZ ⟨(lv_sub hl [0, 4, 5, 6, 7, 8, 9] rfl), he_28, hlt, (by show pp = (sPartF (kd (iN d), fg (iN d)) (kd (iN e0), fg (iN e0)) sc.2.2.1) i (zfold (sPartF (kd (iN d), fg (iN d)) (kd (iN e0), fg (iN e0)) sc.2.2.1) i (-4, -4)); rw [← hp]; exact (if_neg (Int32.not_lt.mpr c_158)).symm)⟩
                    · refine lv_iload hx hb dX7_parts_161 (lv_at hl 3 rfl) ?_
                      refine lv_istore (lv' := [(4, .int (nI i)), (9, .int ((sArchAt ((kd (iN e0)), (fg (iN e0))) (sc.2.2.1 i) 0) - (sArchAt ((kd (iN d)), (fg (iN d))) (sc.2.2.1 i) 0))), (8, .int (sArchAt ((kd (iN e0)), (fg (iN e0))) (sc.2.2.1 i) 0)), (7, .int (sArchAt ((kd (iN d)), (fg (iN d))) (sc.2.2.1 i) 0)), (6, .int (nI i)), (5, .int pp.1), (0, .ref (ad 56)), (1, .int d), (2, .int e0), (3, .int what)]) hx hb dX7_parts_163 hl (by decide) rfl (fun ls hl => ?_)
                      refine lv_iload hx hb dX7_parts_165 (lv_at hl 1 rfl) ?_
                      refine lv_istore (lv' := [(5, .int ((sArchAt ((kd (iN e0)), (fg (iN e0))) (sc.2.2.1 i) 0) - (sArchAt ((kd (iN d)), (fg (iN d))) (sc.2.2.1 i) 0))), (4, .int (nI i)), (9, .int ((sArchAt ((kd (iN e0)), (fg (iN e0))) (sc.2.2.1 i) 0) - (sArchAt ((kd (iN d)), (fg (iN d))) (sc.2.2.1 i) 0))), (8, .int (sArchAt ((kd (iN e0)), (fg (iN e0))) (sc.2.2.1 i) 0)), (7, .int (sArchAt ((kd (iN d)), (fg (iN d))) (sc.2.2.1 i) 0)), (6, .int (nI i)), (0, .ref (ad 56)), (1, .int d), (2, .int e0), (3, .int what)]) hx hb dX7_parts_167 hl (by decide) rfl (fun ls hl => ?_)
                      refine lv_iinc (v := nI (i + 1)) (lv' := [(6, .int (nI (i + 1))), (5, .int ((sArchAt ((kd (iN e0)), (fg (iN e0))) (sc.2.2.1 i) 0) - (sArchAt ((kd (iN d)), (fg (iN d))) (sc.2.2.1 i) 0))), (4, .int (nI i)), (9, .int ((sArchAt ((kd (iN e0)), (fg (iN e0))) (sc.2.2.1 i) 0) - (sArchAt ((kd (iN d)), (fg (iN d))) (sc.2.2.1 i) 0))), (8, .int (sArchAt ((kd (iN e0)), (fg (iN e0))) (sc.2.2.1 i) 0)), (7, .int (sArchAt ((kd (iN d)), (fg (iN d))) (sc.2.2.1 i) 0)), (0, .ref (ad 56)), (1, .int d), (2, .int e0), (3, .int what)]) hx hb dX7_parts_169 hl (k := 5) rfl (nI_1 i) (by decide) rfl (fun ls hl => ?_)
                      refine lv_goto (tgt := 73) hx hb dX7_parts_172 (by decide) ?_
                      have ha1 := sArch0 hgt hgs
                      have ha2 := sArch0 hgte hgs
                      have hab := mAbs ha1 ha2
                      have hul := sUnl_ge hgt hgte hgs
                      have he9 := (hab.2 (Int32.not_lt.mpr c_126)).trans hul.symm
                      rw [he9] at c_158
                      have he_29 : F_23 = va_up F_1 56 (oModel ad sc.1 sc.2.1 sc.2.2.2.1 sc.2.2.2.2 0 bs en u st (sKick ((kd (iN e0)), (fg (iN e0))) (sc.2.2.1 i)) (sDraw ((kd (iN e0)), (fg (iN e0)))) (sHold ((kd (iN e0)), (fg (iN e0)))) sv pic ia tk) := by rw [hp_26, hp_21, hF3_73]; simp only [bx_uu]
                      exact ih73 ((i + 1), (((sArchAt ((kd (iN e0)), (fg (iN e0))) (sc.2.2.1 i) 0) - (sArchAt ((kd (iN d)), (fg (iN d))) (sc.2.2.1 i) 0)), nI i), (sKick ((kd (iN e0)), (fg (iN e0))) (sc.2.2.1 i)), (sDraw ((kd (iN e0)), (fg (iN e0)))), (sHold ((kd (iN e0)), (fg (iN e0))))) ls _ H locs (by show iN sc.2.2.2.1 - (i + 1) < iN sc.2.2.2.1 - i; omega) hZ ⟨(lv_sub hl [0, 1, 2, 6, 7, 8, 9] rfl), he_29, hlt, (by show (((sArchAt ((kd (iN e0)), (fg (iN e0))) (sc.2.2.1 i) 0) - (sArchAt ((kd (iN d)), (fg (iN d))) (sc.2.2.1 i) 0)), nI i) = (sPartF (kd (iN d), fg (iN d)) (kd (iN e0), fg (iN e0)) sc.2.2.1) i (zfold (sPartF (kd (iN d), fg (iN d)) (kd (iN e0), fg (iN e0)) sc.2.2.1) i (-4, -4)); rw [← hp, he9]; exact (if_pos (Int32.not_le.mp c_158)).symm)⟩
              · refine lv_iload hx hb dX7_parts_129 (lv_at hl 1 rfl) ?_
                refine lv_iload hx hb dX7_parts_131 (lv_at hl 0 rfl) ?_
                refine lv_isub hx hb dX7_parts_133 ?_
                refine lv_goto (tgt := 142) hx hb dX7_parts_134 (by decide) ?_
                refine lv_istore (lv' := [(9, .int ((sArchAt ((kd (iN d)), (fg (iN d))) (sc.2.2.1 i) 0) - (sArchAt ((kd (iN e0)), (fg (iN e0))) (sc.2.2.1 i) 0))), (8, .int (sArchAt ((kd (iN e0)), (fg (iN e0))) (sc.2.2.1 i) 0)), (7, .int (sArchAt ((kd (iN d)), (fg (iN d))) (sc.2.2.1 i) 0)), (6, .int (nI i)), (5, .int pp.1), (4, .int pp.2), (0, .ref (ad 56)), (1, .int d), (2, .int e0), (3, .int what)]) hx hb dX7_parts_142 hl (by decide) rfl (fun ls hl => ?_)
                refine lv_iload hx hb dX7_parts_144 (lv_at hl 2 rfl) ?_
                refine lv_if_lt (tgt := 169) hx hb dX7_parts_146 (by decide) (fun c_146 => ?_) (fun c_146 => ?_)
                · refine lv_iinc (v := nI (i + 1)) (lv' := [(6, .int (nI (i + 1))), (9, .int ((sArchAt ((kd (iN d)), (fg (iN d))) (sc.2.2.1 i) 0) - (sArchAt ((kd (iN e0)), (fg (iN e0))) (sc.2.2.1 i) 0))), (8, .int (sArchAt ((kd (iN e0)), (fg (iN e0))) (sc.2.2.1 i) 0)), (7, .int (sArchAt ((kd (iN d)), (fg (iN d))) (sc.2.2.1 i) 0)), (5, .int pp.1), (4, .int pp.2), (0, .ref (ad 56)), (1, .int d), (2, .int e0), (3, .int what)]) hx hb dX7_parts_169 hl (k := 3) rfl (nI_1 i) (by decide) rfl (fun ls hl => ?_)
                  refine lv_goto (tgt := 73) hx hb dX7_parts_172 (by decide) ?_
                  have ha1 := sArch0 hgt hgs
                  have ha2 := sArch0 hgte hgs
                  have hab := mAbs ha1 ha2
                  have hul := sUnl_ge hgt hgte hgs
                  exact absurd c_146 (Int32.not_lt.mpr (sArch0_le hgt hgs))
                · refine lv_iload hx hb dX7_parts_149 (lv_at hl 1 rfl) ?_
                  refine lv_if_lt (tgt := 169) hx hb dX7_parts_151 (by decide) (fun c_151 => ?_) (fun c_151 => ?_)
                  · refine lv_iinc (v := nI (i + 1)) (lv' := [(6, .int (nI (i + 1))), (9, .int ((sArchAt ((kd (iN d)), (fg (iN d))) (sc.2.2.1 i) 0) - (sArchAt ((kd (iN e0)), (fg (iN e0))) (sc.2.2.1 i) 0))), (8, .int (sArchAt ((kd (iN e0)), (fg (iN e0))) (sc.2.2.1 i) 0)), (7, .int (sArchAt ((kd (iN d)), (fg (iN d))) (sc.2.2.1 i) 0)), (5, .int pp.1), (4, .int pp.2), (0, .ref (ad 56)), (1, .int d), (2, .int e0), (3, .int what)]) hx hb dX7_parts_169 hl (k := 3) rfl (nI_1 i) (by decide) rfl (fun ls hl => ?_)
                    refine lv_goto (tgt := 73) hx hb dX7_parts_172 (by decide) ?_
                    have ha1 := sArch0 hgt hgs
                    have ha2 := sArch0 hgte hgs
                    have hab := mAbs ha1 ha2
                    have hul := sUnl_ge hgt hgte hgs
                    exact absurd c_151 (Int32.not_lt.mpr (sArch0_le hgte hgs))
                  · refine lv_iload hx hb dX7_parts_154 (lv_at hl 0 rfl) ?_
                    refine lv_iload hx hb dX7_parts_156 (lv_at hl 4 rfl) ?_
                    refine lv_icmp_le (tgt := 169) hx hb dX7_parts_158 (by decide) (fun c_158 => ?_) (fun c_158 => ?_)
                    · refine lv_iinc (v := nI (i + 1)) (lv' := [(6, .int (nI (i + 1))), (9, .int ((sArchAt ((kd (iN d)), (fg (iN d))) (sc.2.2.1 i) 0) - (sArchAt ((kd (iN e0)), (fg (iN e0))) (sc.2.2.1 i) 0))), (8, .int (sArchAt ((kd (iN e0)), (fg (iN e0))) (sc.2.2.1 i) 0)), (7, .int (sArchAt ((kd (iN d)), (fg (iN d))) (sc.2.2.1 i) 0)), (5, .int pp.1), (4, .int pp.2), (0, .ref (ad 56)), (1, .int d), (2, .int e0), (3, .int what)]) hx hb dX7_parts_169 hl (k := 3) rfl (nI_1 i) (by decide) rfl (fun ls hl => ?_)
                      refine lv_goto (tgt := 73) hx hb dX7_parts_172 (by decide) ?_
                      have ha1 := sArch0 hgt hgs
                      have ha2 := sArch0 hgte hgs
                      have hab := mAbs ha1 ha2
                      have hul := sUnl_ge hgt hgte hgs
                      have he9 := (hab.1 (Int32.not_le.mp c_126)).trans hul.symm
                      rw [he9] at c_158
                      have he_30 : F_23 = va_up F_1 56 (oModel ad sc.1 sc.2.1 sc.2.2.2.1 sc.2.2.2.2 0 bs en u st (sKick ((kd (iN e0)), (fg (iN e0))) (sc.2.2.1 i)) (sDraw ((kd (iN e0)), (fg (iN e0)))) (sHold ((kd (iN e0)), (fg (iN e0)))) sv pic ia tk) := by rw [hp_26, hp_21, hF3_73]; simp only [bx_uu]
                      exact ih73 ((i + 1), pp, (sKick ((kd (iN e0)), (fg (iN e0))) (sc.2.2.1 i)), (sDraw ((kd (iN e0)), (fg (iN e0)))), (sHold ((kd (iN e0)), (fg (iN e0))))) ls _ H locs (by show iN sc.2.2.2.1 - (i + 1) < iN sc.2.2.2.1 - i; omega) hZ ⟨(lv_sub hl [0, 4, 5, 6, 7, 8, 9] rfl), he_30, hlt, (by show pp = (sPartF (kd (iN d), fg (iN d)) (kd (iN e0), fg (iN e0)) sc.2.2.1) i (zfold (sPartF (kd (iN d), fg (iN d)) (kd (iN e0), fg (iN e0)) sc.2.2.1) i (-4, -4)); rw [← hp]; exact (if_neg (Int32.not_lt.mpr c_158)).symm)⟩
                    · refine lv_iload hx hb dX7_parts_161 (lv_at hl 3 rfl) ?_
                      refine lv_istore (lv' := [(4, .int (nI i)), (9, .int ((sArchAt ((kd (iN d)), (fg (iN d))) (sc.2.2.1 i) 0) - (sArchAt ((kd (iN e0)), (fg (iN e0))) (sc.2.2.1 i) 0))), (8, .int (sArchAt ((kd (iN e0)), (fg (iN e0))) (sc.2.2.1 i) 0)), (7, .int (sArchAt ((kd (iN d)), (fg (iN d))) (sc.2.2.1 i) 0)), (6, .int (nI i)), (5, .int pp.1), (0, .ref (ad 56)), (1, .int d), (2, .int e0), (3, .int what)]) hx hb dX7_parts_163 hl (by decide) rfl (fun ls hl => ?_)
                      refine lv_iload hx hb dX7_parts_165 (lv_at hl 1 rfl) ?_
                      refine lv_istore (lv' := [(5, .int ((sArchAt ((kd (iN d)), (fg (iN d))) (sc.2.2.1 i) 0) - (sArchAt ((kd (iN e0)), (fg (iN e0))) (sc.2.2.1 i) 0))), (4, .int (nI i)), (9, .int ((sArchAt ((kd (iN d)), (fg (iN d))) (sc.2.2.1 i) 0) - (sArchAt ((kd (iN e0)), (fg (iN e0))) (sc.2.2.1 i) 0))), (8, .int (sArchAt ((kd (iN e0)), (fg (iN e0))) (sc.2.2.1 i) 0)), (7, .int (sArchAt ((kd (iN d)), (fg (iN d))) (sc.2.2.1 i) 0)), (6, .int (nI i)), (0, .ref (ad 56)), (1, .int d), (2, .int e0), (3, .int what)]) hx hb dX7_parts_167 hl (by decide) rfl (fun ls hl => ?_)
                      refine lv_iinc (v := nI (i + 1)) (lv' := [(6, .int (nI (i + 1))), (5, .int ((sArchAt ((kd (iN d)), (fg (iN d))) (sc.2.2.1 i) 0) - (sArchAt ((kd (iN e0)), (fg (iN e0))) (sc.2.2.1 i) 0))), (4, .int (nI i)), (9, .int ((sArchAt ((kd (iN d)), (fg (iN d))) (sc.2.2.1 i) 0) - (sArchAt ((kd (iN e0)), (fg (iN e0))) (sc.2.2.1 i) 0))), (8, .int (sArchAt ((kd (iN e0)), (fg (iN e0))) (sc.2.2.1 i) 0)), (7, .int (sArchAt ((kd (iN d)), (fg (iN d))) (sc.2.2.1 i) 0)), (0, .ref (ad 56)), (1, .int d), (2, .int e0), (3, .int what)]) hx hb dX7_parts_169 hl (k := 5) rfl (nI_1 i) (by decide) rfl (fun ls hl => ?_)
                      refine lv_goto (tgt := 73) hx hb dX7_parts_172 (by decide) ?_
                      have ha1 := sArch0 hgt hgs
                      have ha2 := sArch0 hgte hgs
                      have hab := mAbs ha1 ha2
                      have hul := sUnl_ge hgt hgte hgs
                      have he9 := (hab.1 (Int32.not_le.mp c_126)).trans hul.symm
                      rw [he9] at c_158
                      have he_31 : F_23 = va_up F_1 56 (oModel ad sc.1 sc.2.1 sc.2.2.2.1 sc.2.2.2.2 0 bs en u st (sKick ((kd (iN e0)), (fg (iN e0))) (sc.2.2.1 i)) (sDraw ((kd (iN e0)), (fg (iN e0)))) (sHold ((kd (iN e0)), (fg (iN e0)))) sv pic ia tk) := by rw [hp_26, hp_21, hF3_73]; simp only [bx_uu]
                      exact ih73 ((i + 1), (((sArchAt ((kd (iN d)), (fg (iN d))) (sc.2.2.1 i) 0) - (sArchAt ((kd (iN e0)), (fg (iN e0))) (sc.2.2.1 i) 0)), nI i), (sKick ((kd (iN e0)), (fg (iN e0))) (sc.2.2.1 i)), (sDraw ((kd (iN e0)), (fg (iN e0)))), (sHold ((kd (iN e0)), (fg (iN e0))))) ls _ H locs (by show iN sc.2.2.2.1 - (i + 1) < iN sc.2.2.2.1 - i; omega) hZ ⟨(lv_sub hl [0, 1, 2, 6, 7, 8, 9] rfl), he_31, hlt, (by show (((sArchAt ((kd (iN d)), (fg (iN d))) (sc.2.2.1 i) 0) - (sArchAt ((kd (iN e0)), (fg (iN e0))) (sc.2.2.1 i) 0)), nI i) = (sPartF (kd (iN d), fg (iN d)) (kd (iN e0), fg (iN e0)) sc.2.2.1) i (zfold (sPartF (kd (iN d), fg (iN d)) (kd (iN e0), fg (iN e0)) sc.2.2.1) i (-4, -4)); rw [← hp, he9]; exact (if_pos (Int32.not_le.mp c_158)).symm)⟩
          · refine lv_bipush (v := (-12)) hx hb dX7_parts_59 (by decide) ?_
            have hrf : (-12 : Int32) = sFirst (sStR sh d) (sStR sh e0) := two_12 (a := 1) (c := 1) hHW h2g (Or.inr c_56)
            have hq : ((-12) : Int32) = zr (bIn what 0 1) (sFirst (sStR sh d) (sStR sh e0)) (sParts (sh (iN d)).2.1 (sh (iN e0)).2.1 sc what) := by exact hrf.trans (zr_rf b_7 (by rw [← hrf]; decide)).symm
            have hfm_32 : frM F F_1 := (frM_up frM_rf hF_2 (by decide) (by decide))
            exact zireti hC hZ hr hlocks ⟨hq, ⟨bs, en, u, st, kk, dw, ho, sv, ia, tk, told, pl, nu, im, hw, kd, fg, so, mn, rw0, bt, h_3, (zne hF_2 (by decide) h57), (zne hF_2 (by decide) h58), (zne hF_2 (by decide) h59), (zne hF_2 (by decide) h60), (zne hF_2 (by decide) h61), (zne hF_2 (by decide) h62), (zne hF_2 (by decide) h63), (zne hF_2 (by decide) h64), (zne hF_2 (by decide) h65), (zne hF_2 (by decide) h66), (zne hF_2 (by decide) h67), hR⟩, hfm_32⟩ dX7_parts_61
      · refine lv_bipush (v := (-11)) hx hb dX7_parts_36 (by decide) ?_
        have hrf : mTwo hw d e0 = sFirst (sStR sh d) (sStR sh e0) := mTwo_neg (a := 1) (c := 1) hHW (Int32.not_le.mp c_33)
        have hrn : ¬ sFirst (sStR sh d) (sStR sh e0) = 0 := by rw [← hrf]; exact neg_n0 (Int32.not_le.mp c_33)
        have hq : ((-11) : Int32) = zr (bIn what 0 1) (sFirst (sStR sh d) (sStR sh e0)) (sParts (sh (iN d)).2.1 (sh (iN e0)).2.1 sc what) := by exact ((mTwo_11 (Int32.not_le.mp c_33) c_22).symm.trans hrf).trans (zr_rf b_7 hrn).symm
        have hfm_33 : frM F F_1 := (frM_up frM_rf hF_2 (by decide) (by decide))
        exact zireti hC hZ hr hlocks ⟨hq, ⟨bs, en, u, st, kk, dw, ho, sv, ia, tk, told, pl, nu, im, hw, kd, fg, so, mn, rw0, bt, h_3, (zne hF_2 (by decide) h57), (zne hF_2 (by decide) h58), (zne hF_2 (by decide) h59), (zne hF_2 (by decide) h60), (zne hF_2 (by decide) h61), (zne hF_2 (by decide) h62), (zne hF_2 (by decide) h63), (zne hF_2 (by decide) h64), (zne hF_2 (by decide) h65), (zne hF_2 (by decide) h66), (zne hF_2 (by decide) h67), hR⟩, hfm_33⟩ dX7_parts_38
    · refine lv_iconst (v := (-1)) hx hb dX7_parts_25 (by decide) ?_
      have hrf : mTwo hw d e0 = sFirst (sStR sh d) (sStR sh e0) := mTwo_neg (a := 1) (c := 1) hHW (show mTwo hw d e0 < 0 by rw [c_22]; decide)
      have hrn : ¬ sFirst (sStR sh d) (sStR sh e0) = 0 := by rw [← hrf]; exact neg_n0 (show mTwo hw d e0 < 0 by rw [c_22]; decide)
      have hq : ((-1) : Int32) = zr (bIn what 0 1) (sFirst (sStR sh d) (sStR sh e0)) (sParts (sh (iN d)).2.1 (sh (iN e0)).2.1 sc what) := by exact (c_22.symm.trans hrf).trans (zr_rf b_7 hrn).symm
      have hfm_34 : frM F F_1 := (frM_up frM_rf hF_2 (by decide) (by decide))
      exact zireti hC hZ hr hlocks ⟨hq, ⟨bs, en, u, st, kk, dw, ho, sv, ia, tk, told, pl, nu, im, hw, kd, fg, so, mn, rw0, bt, h_3, (zne hF_2 (by decide) h57), (zne hF_2 (by decide) h58), (zne hF_2 (by decide) h59), (zne hF_2 (by decide) h60), (zne hF_2 (by decide) h61), (zne hF_2 (by decide) h62), (zne hF_2 (by decide) h63), (zne hF_2 (by decide) h64), (zne hF_2 (by decide) h65), (zne hF_2 (by decide) h66), (zne hF_2 (by decide) h67), hR⟩, hfm_34⟩ dX7_parts_26
  · rw [if_neg b_7] at hp_6
    subst hp_6
    refine lv_if_eq (tgt := 25) hx hb dX7_parts_12 (by decide) (fun _ => ?_) (fun h => absurd (show (0 : Int32) = 0 by decide) h)
    refine lv_iconst (v := (-1)) hx hb dX7_parts_25 (by decide) ?_
    have hq : ((-1) : Int32) = zr (bIn what 0 1) (sFirst (sStR sh d) (sStR sh e0)) (sParts (sh (iN d)).2.1 (sh (iN e0)).2.1 sc what) := by exact (zr_no b_7).symm
    have hfm_35 : frM F F_1 := (frM_up frM_rf hF_2 (by decide) (by decide))
    exact zireti hC hZ hr hlocks ⟨hq, ⟨bs, en, u, st, kk, dw, ho, sv, ia, tk, told, pl, nu, im, hw, kd, fg, so, mn, rw0, bt, h_3, (zne hF_2 (by decide) h57), (zne hF_2 (by decide) h58), (zne hF_2 (by decide) h59), (zne hF_2 (by decide) h60), (zne hF_2 (by decide) h61), (zne hF_2 (by decide) h62), (zne hF_2 (by decide) h63), (zne hF_2 (by decide) h64), (zne hF_2 (by decide) h65), (zne hF_2 (by decide) h66), (zne hF_2 (by decide) h67), hR⟩, hfm_35⟩ dX7_parts_26
