theorem mX6_run : zMd yX6_run cX6_run 5 (some .int) 2 := ⟨by decide +kernel, gt_of 392 (by decide +kernel) rfl, gt_of 45 (by decide +kernel) rfl, by decide⟩
theorem dX6_run_0 : decode cX6_run 0 = .ok (.iload_n 1, 1) := by decide +kernel
theorem dX6_run_1 : decode cX6_run 1 = .ok (.invokestatic 65, 3) := by decide +kernel
theorem dX6_run_4 : decode cX6_run 4 = .ok (.ifCond .eq 14, 3) := by decide +kernel
theorem dX6_run_7 : decode cX6_run 7 = .ok (.iload_n 2, 1) := by decide +kernel
theorem dX6_run_8 : decode cX6_run 8 = .ok (.iconst 1, 1) := by decide +kernel
theorem dX6_run_9 : decode cX6_run 9 = .ok (.sipush 500, 3) := by decide +kernel
theorem dX6_run_12 : decode cX6_run 12 = .ok (.invokestatic 111, 3) := by decide +kernel
theorem dX6_run_15 : decode cX6_run 15 = .ok (.ifCond .ne 5, 3) := by decide +kernel
theorem dX6_run_20 : decode cX6_run 20 = .ok (.aload_n 0, 1) := by decide +kernel
theorem dX6_run_21 : decode cX6_run 21 = .ok (.getfield 10, 3) := by decide +kernel
theorem dX6_run_24 : decode cX6_run 24 = .ok (.getfield 83, 3) := by decide +kernel
theorem dX6_run_27 : decode cX6_run 27 = .ok (.getfield 174, 3) := by decide +kernel
theorem dX6_run_30 : decode cX6_run 30 = .ok (.iload_n 2, 1) := by decide +kernel
theorem dX6_run_31 : decode cX6_run 31 = .ok (.iadd, 1) := by decide +kernel
theorem dX6_run_32 : decode cX6_run 32 = .ok (.sipush 9999, 3) := by decide +kernel
theorem dX6_run_35 : decode cX6_run 35 = .ok (.if_icmp .le 6, 3) := by decide +kernel
theorem dX6_run_41 : decode cX6_run 41 = .ok (.aload_n 0, 1) := by decide +kernel
theorem dX6_run_42 : decode cX6_run 42 = .ok (.iload_n 1, 1) := by decide +kernel
theorem dX6_run_43 : decode cX6_run 43 = .ok (.invokevirtual 157, 3) := by decide +kernel
theorem dX6_run_46 : decode cX6_run 46 = .ok (.istore_n 3, 1) := by decide +kernel
theorem dX6_run_47 : decode cX6_run 47 = .ok (.iload_n 3, 1) := by decide +kernel
theorem dX6_run_48 : decode cX6_run 48 = .ok (.ifCond .eq 5, 3) := by decide +kernel
theorem dX6_run_53 : decode cX6_run 53 = .ok (.iconst 0, 1) := by decide +kernel
theorem dX6_run_54 : decode cX6_run 54 = .ok (.istore 4, 2) := by decide +kernel
theorem dX6_run_56 : decode cX6_run 56 = .ok (.iload 4, 2) := by decide +kernel
theorem dX6_run_58 : decode cX6_run 58 = .ok (.iload_n 2, 1) := by decide +kernel
theorem dX6_run_59 : decode cX6_run 59 = .ok (.if_icmp .ge 32, 3) := by decide +kernel
theorem dX6_run_91 : decode cX6_run 91 = .ok (.aload_n 0, 1) := by decide +kernel
theorem dX6_run_92 : decode cX6_run 92 = .ok (.getfield 10, 3) := by decide +kernel
theorem dX6_run_95 : decode cX6_run 95 = .ok (.getfield 83, 3) := by decide +kernel
theorem dX6_run_98 : decode cX6_run 98 = .ok (.getfield 174, 3) := by decide +kernel
theorem dX6_run_101 : decode cX6_run 101 = .ok (.ireturn, 1) := by decide +kernel
theorem dX6_run_62 : decode cX6_run 62 = .ok (.aload_n 0, 1) := by decide +kernel
theorem dX6_run_63 : decode cX6_run 63 = .ok (.getfield 10, 3) := by decide +kernel
theorem dX6_run_66 : decode cX6_run 66 = .ok (.aload_n 0, 1) := by decide +kernel
theorem dX6_run_67 : decode cX6_run 67 = .ok (.getfield 10, 3) := by decide +kernel
theorem dX6_run_70 : decode cX6_run 70 = .ok (.getfield 83, 3) := by decide +kernel
theorem dX6_run_73 : decode cX6_run 73 = .ok (.aload_n 0, 1) := by decide +kernel
theorem dX6_run_74 : decode cX6_run 74 = .ok (.getfield 25, 3) := by decide +kernel
theorem dX6_run_77 : decode cX6_run 77 = .ok (.iload_n 1, 1) := by decide +kernel
theorem dX6_run_78 : decode cX6_run 78 = .ok (.aaload, 1) := by decide +kernel
theorem dX6_run_79 : decode cX6_run 79 = .ok (.getfield 160, 3) := by decide +kernel
theorem dX6_run_82 : decode cX6_run 82 = .ok (.invokevirtual 177, 3) := by decide +kernel
theorem kX6_177 : zLk RX6 177 yX2_step := Or.inl (gt_of 393 (by decide +kernel) rfl)
theorem vX2_step : zMi yX2_step := ⟨gt_of 394 (by decide +kernel) rfl, gt_of 395 (by decide +kernel) rfl⟩
theorem dX6_run_85 : decode cX6_run 85 = .ok (.iinc 4 1, 3) := by decide +kernel
theorem dX6_run_88 : decode cX6_run 88 = .ok (.goto (-32), 3) := by decide +kernel
theorem dX6_run_51 : decode cX6_run 51 = .ok (.iload_n 3, 1) := by decide +kernel
theorem dX6_run_52 : decode cX6_run 52 = .ok (.ireturn, 1) := by decide +kernel
theorem dX6_run_38 : decode cX6_run 38 = .ok (.bipush (-2), 2) := by decide +kernel
theorem dX6_run_40 : decode cX6_run 40 = .ok (.ireturn, 1) := by decide +kernel
theorem dX6_run_18 : decode cX6_run 18 = .ok (.iconst (-1), 1) := by decide +kernel
theorem dX6_run_19 : decode cX6_run 19 = .ok (.ireturn, 1) := by decide +kernel
set_option maxRecDepth 100000 in
theorem c_X6_run (l : Launch) (D : va_G) (cy : Nat → Nat) (n : Nat) (ad : Nat → Nat) (F : Nat → va_E) (sz : Nat) (pic : Int32) (sc ps : Scn) (sh : Nat → Shf) (rd : Rdr) (dr : Stg) (fa : Tal) (mi : Crs) (hn : 56 ≤ n) (hX : RX ad cy F pic sc ps sh rd dr fa mi) (d q : Int32) : Met l yX6_run (zw yX6_run cX6_run 5 (some .int)) (rmL 4) (zPc D cy n ad F sz [.ref (ad 0), .int d, .int q]) (va_Qi (fun r F1 => r = sRun sc sh d q ∧ RX ad cy F1 pic (sRunS sc sh d q) ps sh rd dr fa mi ∧ fr56 F F1) (zB D n ad) (zA n ad sz)) 0 0 (zA n ad sz) := by
  refine zmet (by decide +kernel) (Nat.le_of_ble_eq_true rfl) (fun p e s m args below meth c ls hC hsz hZ hA hr hlocks hnm hl => ?_)
  have hC : zC p m c cX6_run 5 s args RX6 D cy := hC
  have hx := hC.1.1
  have hb := hC.1.2.1
  have hl : lv_has ls 5 [(0, .ref (ad 0)), (1, .int d), (2, .int q)] := hl
  refine lv_iload_n hx hb dX6_run_0 rfl (lv_at hl 1 rfl) ?_
  refine zgoi hZ hA (zrunS (As := [.int d]) (rest := []) hC hZ (c_X6_isShelf l D cy n ad F s.heap.size d) mX6_isShelf sX6_isShelf kX6_65 (zRj_of rfl) rfl hl.1 rfl (Nat.le_of_ble_eq_true rfl) dX6_run_1 ⟨Nat.le_refl _, Nat.le_refl _⟩) (fun r_2 F_1 hp_3 H locs hZ => ?_)
  obtain ⟨hp_3, rfl⟩ := hp_3
  by_cases b_4 : bSh d
  · rw [if_pos b_4] at hp_3
    subst hp_3
    refine lv_if_eq (tgt := 18) hx hb dX6_run_4 (by decide) (fun h => absurd (show (1 : Int32) = 0 from h) (by decide)) (fun _ => ?_)
    refine lv_iload_n hx hb dX6_run_7 rfl (lv_at hl 2 rfl) ?_
    refine lv_iconst (v := 1) hx hb dX6_run_8 (by decide) ?_
    refine lv_sipush (v := 500) hx hb dX6_run_9 (by decide) ?_
    refine zgoi hZ hA (zrunS (As := [.int q, .int 1, .int 500]) (rest := []) hC hZ (c_X6_isWithin l D cy n ad F H.size q 1 500) mX6_isWithin sX6_isWithin kX6_111 (zRj_of rfl) rfl hl.1 rfl (Nat.le_of_ble_eq_true rfl) dX6_run_12 ⟨Nat.le_refl _, Nat.le_refl _⟩) (fun r_6 F_5 hp_7 H locs hZ => ?_)
    obtain ⟨hp_7, rfl⟩ := hp_7
    by_cases b_8 : bIn q 1 500
    · rw [if_pos b_8] at hp_7
      subst hp_7
      refine lv_if_ne (tgt := 20) hx hb dX6_run_15 (by decide) (fun _ => ?_) (fun h => absurd (show (1 : Int32) = 0 from h) (by decide))
      refine lv_aload_n hx hb dX6_run_20 rfl (lv_at hl 0 rfl) ?_
      refine zget hC hZ fX6_10 (zlt hn rfl) hX.1 rfl dX6_run_21 ?_
      refine zget hC hZ fX6_83 (zlt hn rfl) hX.2.1.1 rfl dX6_run_24 ?_
      refine zget hC hZ fX6_174 (zlt hn rfl) hX.2.1.2.2.2.1 rfl dX6_run_27 ?_
      refine lv_iload_n hx hb dX6_run_30 rfl (lv_at hl 2 rfl) ?_
      refine lv_iadd hx hb dX6_run_31 ?_
      refine lv_sipush (v := 9999) hx hb dX6_run_32 (by decide) ?_
      refine lv_icmp_le (tgt := 41) hx hb dX6_run_35 (by decide) (fun c_35 => ?_) (fun c_35 => ?_)
      · refine lv_aload_n hx hb dX6_run_41 rfl (lv_at hl 0 rfl) ?_
        refine lv_iload_n hx hb dX6_run_42 rfl (lv_at hl 1 rfl) ?_
        refine zgoi hZ hA (zrunV (As := [.int d]) (rest := []) (k := 0) hC hZ (c_X6_storyRefusal l D cy n ad F H.size pic sc ps sh rd dr fa mi hn hX d) mX6_storyRefusal vX6_storyRefusal kX6_157 (zRj_of rfl) (zlt hn rfl) hX.1 rfl rfl hl.1 rfl (Nat.le_of_ble_eq_true rfl) dX6_run_43 ⟨Nat.le_refl _, Nat.le_refl _⟩) (fun r_10 F_9 hp_11 H locs hZ => ?_)
        obtain ⟨rfl, rfl⟩ := hp_11
        refine lv_istore_n (lv' := [(3, .int (sStR sh d)), (0, .ref (ad 0)), (1, .int d), (2, .int q)]) hx hb dX6_run_46 rfl hl (by decide) rfl (fun ls hl => ?_)
        refine lv_iload_n hx hb dX6_run_47 rfl (lv_at hl 0 rfl) ?_
        refine lv_if_eq (tgt := 53) hx hb dX6_run_48 (by decide) (fun c_48 => ?_) (fun c_48 => ?_)
        · refine lv_iconst (v := 0) hx hb dX6_run_53 (by decide) ?_
          refine lv_istore (lv' := [(4, .int 0), (3, .int (sStR sh d)), (0, .ref (ad 0)), (1, .int d), (2, .int q)]) hx hb dX6_run_54 hl (by decide) rfl (fun ls hl => ?_)
          have hq5 := bIn_n (N := 500) b_8 (by decide) rfl
          have hs_12 := sStR_0 c_48
          refine zlp (X := Nat) 56 (fun _ => []) (fun x ls F1 => lv_has ls 5 [(4, .int (nI x)), (3, .int (sStR sh d)), (0, .ref (ad 0)), (1, .int d), (2, .int q)] ∧ RX ad cy F1 pic (sc.1, sc.2.1, sc.2.2.1, sc.2.2.2.1, sIt (sF (sh (iN d)).2.1 sc) x sc.2.2.2.2) ps sh rd dr fa mi ∧ fr56 F F1 ∧ (x ≤ iN q)) (fun x => iN q - x) ?_ 0 hZ ⟨hl, hX, fr56_rf, (Nat.zero_le _)⟩
          intro i ih56 ls F3_56 H locs hZ hφ
          obtain ⟨hl, hXl, hfl56, hi⟩ := hφ
          have hl : lv_has ls 5 [(4, .int (nI i)), (3, .int (sStR sh d)), (0, .ref (ad 0)), (1, .int d), (2, .int q)] := hl
          have hX56 : RX ad cy F3_56 pic (sc.1, sc.2.1, sc.2.2.1, sc.2.2.2.1, sIt (sF (sh (iN d)).2.1 sc) i sc.2.2.2.2) ps sh rd dr fa mi := hXl
          have hi : i ≤ iN q := hi
          refine lv_iload hx hb dX6_run_56 (lv_at hl 0 rfl) ?_
          refine lv_iload_n hx hb dX6_run_58 rfl (lv_at hl 4 rfl) ?_
          refine lv_icmp_ge (tgt := 91) hx hb dX6_run_59 (by decide) (fun c_59 => ?_) (fun c_59 => ?_)
          · refine lv_aload_n hx hb dX6_run_91 rfl (lv_at hl 2 rfl) ?_
            refine zget hC hZ fX6_10 (zlt hn rfl) hX56.1 rfl dX6_run_92 ?_
            refine zget hC hZ fX6_83 (zlt hn rfl) hX56.2.1.1 rfl dX6_run_95 ?_
            refine zget hC hZ fX6_174 (zlt hn rfl) hX56.2.1.2.2.2.1 rfl dX6_run_98 ?_
            have hb9 : bRun d q := ⟨b_4, b_8⟩
            have hiq : i = iN q := zge hq5.1 (by omega) hi c_59
            have hq1 : sRunS sc sh d q = (sc.1, sc.2.1, sc.2.2.1, sc.2.2.2.1, sIt (sF (sh (iN d)).2.1 sc) i sc.2.2.2.2) := by unfold sRunS sRunC; rw [if_pos ⟨hb9, c_35, c_48⟩, ← hiq]
            have hq0 : (sIt (sF (sh (iN d)).2.1 sc) i sc.2.2.2.2).1 = sRun sc sh d q := by unfold sRun sRunC; rw [if_pos hb9, if_pos c_35, if_pos c_48, ← hiq]
            exact zireti hC hZ hr hlocks ⟨hq0, by rw [hq1]; exact hX56, hfl56⟩ dX6_run_101
          · refine lv_aload_n hx hb dX6_run_62 rfl (lv_at hl 2 rfl) ?_
            refine zget hC hZ fX6_10 (zlt hn rfl) hX56.1 rfl dX6_run_63 ?_
            refine lv_aload_n hx hb dX6_run_66 rfl (lv_at hl 2 rfl) ?_
            refine zget hC hZ fX6_10 (zlt hn rfl) hX56.1 rfl dX6_run_67 ?_
            refine zget hC hZ fX6_83 (zlt hn rfl) hX56.2.1.1 rfl dX6_run_70 ?_
            refine lv_aload_n hx hb dX6_run_73 rfl (lv_at hl 2 rfl) ?_
            refine zget hC hZ fX6_25 (zlt hn rfl) hX56.1 rfl dX6_run_74 ?_
            refine lv_iload_n hx hb dX6_run_77 rfl (lv_at hl 3 rfl) ?_
            refine zaald hC hZ (zlt hn rfl) hX56.2.2.2.1 (C := RX4) rfl hs_12.1.1 hs_12.1.2 (by decide) rfl dX6_run_78 ?_
            refine zget hC hZ fX6_160 (by have := hs_12.1.2; omega) (hX56.2.2.2.2.1 (iN d) hs_12.1.2).1 rfl dX6_run_79 ?_
            refine zgov hZ hA (zrunV (As := [.ref (ad 4), .ref (ad (26 + 3 * (iN d) + 1))]) (rest := []) (k := 1) hC hZ (c_X2_step l D cy n ad F3_56 H.size 1 (sc.1, sc.2.1, sc.2.2.1, sc.2.2.2.1, sIt (sF (sh (iN d)).2.1 sc) i sc.2.2.2.2) (by omega) hX56.2.1 4 (sIt (sF (sh (iN d)).2.1 sc) i sc.2.2.2.2) (zlt hn rfl) hX56.2.1.2.2.2.1 (26 + 3 * (iN d) + 1) (sh (iN d)).2.1 (by have := hs_12.1.2; omega) (hX56.2.2.2.2.1 (iN d) hs_12.1.2).2.1) mX2_step vX2_step kX6_177 (zRj_of rfl) (zlt hn rfl) hX56.2.1.1 rfl rfl hl.1 rfl (Nat.le_of_ble_eq_true rfl) dX6_run_82 ⟨Nat.le_refl _, Nat.le_refl _⟩) (fun F_13 hp_15 H locs hZ => ?_)
            have hX_16 := rx_course hX56 hp_15
            have hf_17 := fr56_up hfl56 hp_15 (by decide)
            have hX_16 : RX ad cy F_13 pic (sc.1, sc.2.1, sc.2.2.1, sc.2.2.2.1, (sStep (sKick (sh (iN d)).2.1 sc.1) (sLess (sh (iN d)).2.1 sc.1) sc.1.2.2.2 sc.2.1 (sIt (sF (sh (iN d)).2.1 sc) i sc.2.2.2.2))) ps sh rd dr fa mi := hX_16
            refine lv_iinc (v := nI (i + 1)) (lv' := [(4, .int (nI (i + 1))), (3, .int (sStR sh d)), (0, .ref (ad 0)), (1, .int d), (2, .int q)]) hx hb dX6_run_85 hl (k := 0) rfl (nI_1 i) (by decide) rfl (fun ls hl => ?_)
            refine lv_goto (tgt := 56) hx hb dX6_run_88 (by decide) ?_
            have hlt := zlt2 hq5.1 (by omega) c_59
            exact ih56 (i + 1) ls _ H locs (by show iN q - (i + 1) < iN q - i; omega) hZ ⟨hl, hX_16, hf_17, (by omega)⟩
        · refine lv_iload_n hx hb dX6_run_51 rfl (lv_at hl 0 rfl) ?_
          have hb9 : bRun d q := ⟨b_4, b_8⟩
          have hq0 : sStR sh d = sRun sc sh d q := by unfold sRun; rw [if_pos hb9, if_pos c_35, if_neg c_48]
          have hq1 : sRunS sc sh d q = sc := if_neg (fun h => c_48 h.2.2)
          exact zireti hC hZ hr hlocks ⟨hq0, by rw [hq1]; exact hX, fr56_rf⟩ dX6_run_52
      · refine lv_bipush (v := (-2)) hx hb dX6_run_38 (by decide) ?_
        have hb9 : bRun d q := ⟨b_4, b_8⟩
        have hq0 : (-2 : Int32) = sRun sc sh d q := by unfold sRun; rw [if_pos hb9, if_neg c_35]
        have hq1 : sRunS sc sh d q = sc := if_neg (fun h => c_35 h.2.1)
        exact zireti hC hZ hr hlocks ⟨hq0, by rw [hq1]; exact hX, fr56_rf⟩ dX6_run_40
    · rw [if_neg b_8] at hp_7
      subst hp_7
      refine lv_if_ne (tgt := 20) hx hb dX6_run_15 (by decide) (fun h => absurd (show (0 : Int32) = 0 by decide) h) (fun _ => ?_)
      refine lv_iconst (v := (-1)) hx hb dX6_run_18 (by decide) ?_
      have hb9 : ¬ bRun d q := fun h => b_8 h.2
      have hq0 : (-1 : Int32) = sRun sc sh d q := (if_neg hb9).symm
      have hq1 : sRunS sc sh d q = sc := if_neg (fun h => hb9 h.1)
      exact zireti hC hZ hr hlocks ⟨hq0, by rw [hq1]; exact hX, fr56_rf⟩ dX6_run_19
  · rw [if_neg b_4] at hp_3
    subst hp_3
    refine lv_if_eq (tgt := 18) hx hb dX6_run_4 (by decide) (fun _ => ?_) (fun h => absurd (show (0 : Int32) = 0 by decide) h)
    refine lv_iconst (v := (-1)) hx hb dX6_run_18 (by decide) ?_
    have hb9 : ¬ bRun d q := fun h => b_4 h.1
    have hq0 : (-1 : Int32) = sRun sc sh d q := (if_neg hb9).symm
    have hq1 : sRunS sc sh d q = sc := if_neg (fun h => hb9 h.1)
    exact zireti hC hZ hr hlocks ⟨hq0, by rw [hq1]; exact hX, fr56_rf⟩ dX6_run_19

theorem mX6_paceBehind : zMd yX6_paceBehind cX6_paceBehind 7 (some .int) 3 := ⟨by decide +kernel, gt_of 517 (by decide +kernel) rfl, gt_of 45 (by decide +kernel) rfl, by decide⟩
theorem dX6_paceBehind_0 : decode cX6_paceBehind 0 = .ok (.aload_n 1, 1) := by decide +kernel
theorem dX6_paceBehind_1 : decode cX6_paceBehind 1 = .ok (.aload_n 0, 1) := by decide +kernel
theorem dX6_paceBehind_2 : decode cX6_paceBehind 2 = .ok (.getfield 10, 3) := by decide +kernel
theorem dX6_paceBehind_5 : decode cX6_paceBehind 5 = .ok (.getfield 93, 3) := by decide +kernel
theorem dX6_paceBehind_8 : decode cX6_paceBehind 8 = .ok (.invokevirtual 163, 3) := by decide +kernel
theorem dX6_paceBehind_11 : decode cX6_paceBehind 11 = .ok (.istore 4, 2) := by decide +kernel
theorem dX6_paceBehind_13 : decode cX6_paceBehind 13 = .ok (.aload_n 1, 1) := by decide +kernel
theorem dX6_paceBehind_14 : decode cX6_paceBehind 14 = .ok (.aload_n 0, 1) := by decide +kernel
theorem dX6_paceBehind_15 : decode cX6_paceBehind 15 = .ok (.getfield 10, 3) := by decide +kernel
theorem dX6_paceBehind_18 : decode cX6_paceBehind 18 = .ok (.getfield 93, 3) := by decide +kernel
theorem dX6_paceBehind_21 : decode cX6_paceBehind 21 = .ok (.invokevirtual 196, 3) := by decide +kernel
theorem dX6_paceBehind_24 : decode cX6_paceBehind 24 = .ok (.iload_n 2, 1) := by decide +kernel
theorem dX6_paceBehind_25 : decode cX6_paceBehind 25 = .ok (.isub, 1) := by decide +kernel
theorem dX6_paceBehind_26 : decode cX6_paceBehind 26 = .ok (.istore 5, 2) := by decide +kernel
theorem dX6_paceBehind_28 : decode cX6_paceBehind 28 = .ok (.aload_n 0, 1) := by decide +kernel
theorem dX6_paceBehind_29 : decode cX6_paceBehind 29 = .ok (.getfield 57, 3) := by decide +kernel
theorem fX6_57 : zFld RX6 57 6 8 := ⟨RX6, TX6, 9, rfl, inX6, by decide, rfl, Or.inl (gt_of 236 (by decide +kernel) rfl)⟩
theorem dX6_paceBehind_32 : decode cX6_paceBehind 32 = .ok (.invokevirtual 181, 3) := by decide +kernel
theorem dX6_paceBehind_35 : decode cX6_paceBehind 35 = .ok (.iconst 0, 1) := by decide +kernel
theorem dX6_paceBehind_36 : decode cX6_paceBehind 36 = .ok (.istore 6, 2) := by decide +kernel
theorem dX6_paceBehind_38 : decode cX6_paceBehind 38 = .ok (.iload 6, 2) := by decide +kernel
theorem dX6_paceBehind_40 : decode cX6_paceBehind 40 = .ok (.iload_n 3, 1) := by decide +kernel
theorem dX6_paceBehind_41 : decode cX6_paceBehind 41 = .ok (.if_icmp .ge 37, 3) := by decide +kernel
theorem dX6_paceBehind_78 : decode cX6_paceBehind 78 = .ok (.aload_n 0, 1) := by decide +kernel
theorem dX6_paceBehind_79 : decode cX6_paceBehind 79 = .ok (.getfield 57, 3) := by decide +kernel
theorem dX6_paceBehind_82 : decode cX6_paceBehind 82 = .ok (.getfield 184, 3) := by decide +kernel
theorem dX6_paceBehind_85 : decode cX6_paceBehind 85 = .ok (.ireturn, 1) := by decide +kernel
theorem dX6_paceBehind_44 : decode cX6_paceBehind 44 = .ok (.aload_n 0, 1) := by decide +kernel
theorem dX6_paceBehind_45 : decode cX6_paceBehind 45 = .ok (.getfield 57, 3) := by decide +kernel
theorem dX6_paceBehind_48 : decode cX6_paceBehind 48 = .ok (.iload 4, 2) := by decide +kernel
theorem dX6_paceBehind_50 : decode cX6_paceBehind 50 = .ok (.iload 5, 2) := by decide +kernel
theorem dX6_paceBehind_52 : decode cX6_paceBehind 52 = .ok (.aload_n 0, 1) := by decide +kernel
theorem dX6_paceBehind_53 : decode cX6_paceBehind 53 = .ok (.getfield 10, 3) := by decide +kernel
theorem dX6_paceBehind_56 : decode cX6_paceBehind 56 = .ok (.getfield 93, 3) := by decide +kernel
theorem dX6_paceBehind_59 : decode cX6_paceBehind 59 = .ok (.getfield 108, 3) := by decide +kernel
theorem dX6_paceBehind_62 : decode cX6_paceBehind 62 = .ok (.aload_n 0, 1) := by decide +kernel
theorem dX6_paceBehind_63 : decode cX6_paceBehind 63 = .ok (.getfield 10, 3) := by decide +kernel
theorem dX6_paceBehind_66 : decode cX6_paceBehind 66 = .ok (.getfield 105, 3) := by decide +kernel
theorem dX6_paceBehind_69 : decode cX6_paceBehind 69 = .ok (.invokevirtual 250, 3) := by decide +kernel
theorem kX6_250 : zLk RX6 250 yX0_step := Or.inl (gt_of 518 (by decide +kernel) rfl)
theorem dX6_paceBehind_72 : decode cX6_paceBehind 72 = .ok (.iinc 6 1, 3) := by decide +kernel
theorem dX6_paceBehind_75 : decode cX6_paceBehind 75 = .ok (.goto (-37), 3) := by decide +kernel
set_option maxRecDepth 100000 in
theorem c_X6_paceBehind (l : Launch) (D : va_G) (cy : Nat → Nat) (n : Nat) (ad : Nat → Nat) (F : Nat → va_E) (sz : Nat) (pic : Int32) (sc ps : Scn) (sh : Nat → Shf) (rd : Rdr) (dr : Stg) (fa : Tal) (mi : Crs) (hn : 56 ≤ n) (hX : RX ad cy F pic sc ps sh rd dr fa mi) (k : Nat) (t : Tal) (hk : k < n) (hFk : F k = oTale t) (more q : Int32) (hq5 : q = nI (iN q) ∧ iN q ≤ 500) : Met l yX6_paceBehind (zw yX6_paceBehind cX6_paceBehind 7 (some .int)) (rmL 3) (zPc D cy n ad F sz [.ref (ad 0), .ref (ad k), .int more, .int q]) (va_Qi (fun r F1 => r = (sPB t sc more (iN q)).2.1 ∧ RX ad cy F1 pic sc ps sh rd dr fa (sPB t sc more (iN q)) ∧ fr56 F F1) (zB D n ad) (zA n ad sz)) 0 0 (zA n ad sz) := by
  refine zmet (by decide +kernel) (Nat.le_of_ble_eq_true rfl) (fun p e s m args below meth c ls hC hsz hZ hA hr hlocks hnm hl => ?_)
  have hC : zC p m c cX6_paceBehind 7 s args RX6 D cy := hC
  have hx := hC.1.1
  have hb := hC.1.2.1
  have hl : lv_has ls 7 [(0, .ref (ad 0)), (1, .ref (ad k)), (2, .int more), (3, .int q)] := hl
  refine lv_aload_n hx hb dX6_paceBehind_0 rfl (lv_at hl 1 rfl) ?_
  refine lv_aload_n hx hb dX6_paceBehind_1 rfl (lv_at hl 0 rfl) ?_
  refine zget hC hZ fX6_10 (zlt hn rfl) hX.1 rfl dX6_paceBehind_2 ?_
  refine zget hC hZ fX6_93 (zlt hn rfl) hX.2.1.1 rfl dX6_paceBehind_5 ?_
  refine zgoi hZ hA (zrunV (As := [.ref (ad 2)]) (rest := []) (k := k) hC hZ (c_X5_kick l D cy n ad F s.heap.size k t hk hFk 2 sc.1 (zlt hn rfl) hX.2.1.2.1) mX5_kick vX5_kick kX6_163 (zRj_of rfl) hk hFk rfl rfl hl.1 rfl (Nat.le_of_ble_eq_true rfl) dX6_paceBehind_8 ⟨Nat.le_refl _, Nat.le_refl _⟩) (fun r_2 F_1 hp_3 H locs hZ => ?_)
  obtain ⟨rfl, rfl⟩ := hp_3
  refine lv_istore (lv' := [(4, .int (sKick t sc.1)), (0, .ref (ad 0)), (1, .ref (ad k)), (2, .int more), (3, .int q)]) hx hb dX6_paceBehind_11 hl (by decide) rfl (fun ls hl => ?_)
  refine lv_aload_n hx hb dX6_paceBehind_13 rfl (lv_at hl 2 rfl) ?_
  refine lv_aload_n hx hb dX6_paceBehind_14 rfl (lv_at hl 1 rfl) ?_
  refine zget hC hZ fX6_10 (zlt hn rfl) hX.1 rfl dX6_paceBehind_15 ?_
  refine zget hC hZ fX6_93 (zlt hn rfl) hX.2.1.1 rfl dX6_paceBehind_18 ?_
  refine zgoi hZ hA (zrunV (As := [.ref (ad 2)]) (rest := []) (k := k) hC hZ (c_X5_less l D cy n ad F H.size k t hk hFk 2 sc.1 (zlt hn rfl) hX.2.1.2.1) mX5_less vX5_less kX6_196 (zRj_of rfl) hk hFk rfl rfl hl.1 rfl (Nat.le_of_ble_eq_true rfl) dX6_paceBehind_21 ⟨Nat.le_refl _, Nat.le_refl _⟩) (fun r_5 F_4 hp_6 H locs hZ => ?_)
  obtain ⟨rfl, rfl⟩ := hp_6
  refine lv_iload_n hx hb dX6_paceBehind_24 rfl (lv_at hl 3 rfl) ?_
  refine lv_isub hx hb dX6_paceBehind_25 ?_
  refine lv_istore (lv' := [(5, .int ((sLess t sc.1) - more)), (4, .int (sKick t sc.1)), (0, .ref (ad 0)), (1, .ref (ad k)), (2, .int more), (3, .int q)]) hx hb dX6_paceBehind_26 hl (by decide) rfl (fun ls hl => ?_)
  refine lv_aload_n hx hb dX6_paceBehind_28 rfl (lv_at hl 2 rfl) ?_
  refine zget hC hZ fX6_57 (zlt hn rfl) hX.1 rfl dX6_paceBehind_29 ?_
  refine zgov hZ hA (zrunV (As := []) (rest := []) (k := 55) hC hZ (c_X0_clear l D cy n ad F H.size 55 mi (zlt hn rfl) hX.2.2.2.2.2.2.2.2.2) mX0_clear vX0_clear kX6_181 (zRj_of rfl) (zlt hn rfl) hX.2.2.2.2.2.2.2.2.2 rfl rfl hl.1 rfl (Nat.le_of_ble_eq_true rfl) dX6_paceBehind_32 ⟨Nat.le_refl _, Nat.le_refl _⟩) (fun F_7 hp_9 H locs hZ => ?_)
  have hX_10 := rx_mind hX hp_9
  have hf_11 := fr56_up fr56_rf hp_9 (by decide)
  have hX_10 : RX ad cy F_7 pic sc ps sh rd dr fa (0, 0, 0, 0, 0) := hX_10
  refine lv_iconst (v := 0) hx hb dX6_paceBehind_35 (by decide) ?_
  refine lv_istore (lv' := [(6, .int 0), (5, .int ((sLess t sc.1) - more)), (4, .int (sKick t sc.1)), (0, .ref (ad 0)), (1, .ref (ad k)), (2, .int more), (3, .int q)]) hx hb dX6_paceBehind_36 hl (by decide) rfl (fun ls hl => ?_)
  refine zlp (X := Nat) 38 (fun _ => []) (fun x ls F1 => lv_has ls 7 [(6, .int (nI x)), (5, .int ((sLess t sc.1) - more)), (4, .int (sKick t sc.1)), (0, .ref (ad 0)), (1, .ref (ad k)), (2, .int more), (3, .int q)] ∧ RX ad cy F1 pic sc ps sh rd dr fa (sIt (sFM t sc more) x sCC) ∧ fr56 F F1 ∧ (x ≤ iN q)) (fun x => iN q - x) ?_ 0 hZ ⟨hl, hX_10, hf_11, (Nat.zero_le _)⟩
  intro i ih38 ls F3_38 H locs hZ hφ
  obtain ⟨hl, hXl, hfl38, hi⟩ := hφ
  have hl : lv_has ls 7 [(6, .int (nI i)), (5, .int ((sLess t sc.1) - more)), (4, .int (sKick t sc.1)), (0, .ref (ad 0)), (1, .ref (ad k)), (2, .int more), (3, .int q)] := hl
  have hX38 : RX ad cy F3_38 pic sc ps sh rd dr fa (sIt (sFM t sc more) i sCC) := hXl
  have hi : i ≤ iN q := hi
  refine lv_iload hx hb dX6_paceBehind_38 (lv_at hl 0 rfl) ?_
  refine lv_iload_n hx hb dX6_paceBehind_40 rfl (lv_at hl 6 rfl) ?_
  refine lv_icmp_ge (tgt := 78) hx hb dX6_paceBehind_41 (by decide) (fun c_41 => ?_) (fun c_41 => ?_)
  · refine lv_aload_n hx hb dX6_paceBehind_78 rfl (lv_at hl 3 rfl) ?_
    refine zget hC hZ fX6_57 (zlt hn rfl) hX38.1 rfl dX6_paceBehind_79 ?_
    refine zget hC hZ fX6_184 (zlt hn rfl) hX38.2.2.2.2.2.2.2.2.2 rfl dX6_paceBehind_82 ?_
    have hiq : i = iN q := zge hq5.1 (by omega) hi c_41
    have hq1 : sPB t sc more (iN q) = (sIt (sFM t sc more) i sCC) := by unfold sPB; rw [← hiq]
    exact zireti hC hZ hr hlocks ⟨by rw [hq1], by rw [hq1]; exact hX38, hfl38⟩ dX6_paceBehind_85
  · refine lv_aload_n hx hb dX6_paceBehind_44 rfl (lv_at hl 3 rfl) ?_
    refine zget hC hZ fX6_57 (zlt hn rfl) hX38.1 rfl dX6_paceBehind_45 ?_
    refine lv_iload hx hb dX6_paceBehind_48 (lv_at hl 2 rfl) ?_
    refine lv_iload hx hb dX6_paceBehind_50 (lv_at hl 1 rfl) ?_
    refine lv_aload_n hx hb dX6_paceBehind_52 rfl (lv_at hl 3 rfl) ?_
    refine zget hC hZ fX6_10 (zlt hn rfl) hX38.1 rfl dX6_paceBehind_53 ?_
    refine zget hC hZ fX6_93 (zlt hn rfl) hX38.2.1.1 rfl dX6_paceBehind_56 ?_
    refine zget hC hZ fX6_108 (zlt hn rfl) hX38.2.1.2.1 rfl dX6_paceBehind_59 ?_
    refine lv_aload_n hx hb dX6_paceBehind_62 rfl (lv_at hl 3 rfl) ?_
    refine zget hC hZ fX6_10 (zlt hn rfl) hX38.1 rfl dX6_paceBehind_63 ?_
    refine zget hC hZ fX6_105 (zlt hn rfl) hX38.2.1.1 rfl dX6_paceBehind_66 ?_
    refine zgov hZ hA (zrunV (As := [.int (sKick t sc.1), .int ((sLess t sc.1) - more), .int sc.1.2.2.2, .int sc.2.1]) (rest := []) (k := 55) hC hZ (c_X0_step l D cy n ad F3_38 H.size 55 (sIt (sFM t sc more) i sCC) (zlt hn rfl) hX38.2.2.2.2.2.2.2.2.2 (sKick t sc.1) ((sLess t sc.1) - more) sc.1.2.2.2 sc.2.1) mX0_step vX0_step kX6_250 (zRj_of rfl) (zlt hn rfl) hX38.2.2.2.2.2.2.2.2.2 rfl rfl hl.1 rfl (Nat.le_of_ble_eq_true rfl) dX6_paceBehind_69 ⟨Nat.le_refl _, Nat.le_refl _⟩) (fun F_12 hp_14 H locs hZ => ?_)
    have hX_15 := rx_mind hX38 hp_14
    have hf_16 := fr56_up hfl38 hp_14 (by decide)
    have hX_15 : RX ad cy F_12 pic sc ps sh rd dr fa (sStep (sKick t sc.1) ((sLess t sc.1) - more) sc.1.2.2.2 sc.2.1 (sIt (sFM t sc more) i sCC)) := hX_15
    refine lv_iinc (v := nI (i + 1)) (lv' := [(6, .int (nI (i + 1))), (5, .int ((sLess t sc.1) - more)), (4, .int (sKick t sc.1)), (0, .ref (ad 0)), (1, .ref (ad k)), (2, .int more), (3, .int q)]) hx hb dX6_paceBehind_72 hl (k := 0) rfl (nI_1 i) (by decide) rfl (fun ls hl => ?_)
    refine lv_goto (tgt := 38) hx hb dX6_paceBehind_75 (by decide) ?_
    have hlt := zlt2 hq5.1 (by omega) c_41
    exact ih38 (i + 1) ls _ H locs (by show iN q - (i + 1) < iN q - i; omega) hZ ⟨hl, hX_15, hf_16, (by omega)⟩

theorem mX6_without : zMd yX6_without cX6_without 4 (some .int) 2 := ⟨by decide +kernel, gt_of 509 (by decide +kernel) rfl, gt_of 45 (by decide +kernel) rfl, by decide⟩
theorem dX6_without_0 : decode cX6_without 0 = .ok (.iload_n 2, 1) := by decide +kernel
theorem dX6_without_1 : decode cX6_without 1 = .ok (.iconst 1, 1) := by decide +kernel
theorem dX6_without_2 : decode cX6_without 2 = .ok (.sipush 500, 3) := by decide +kernel
theorem dX6_without_5 : decode cX6_without 5 = .ok (.invokestatic 111, 3) := by decide +kernel
theorem dX6_without_8 : decode cX6_without 8 = .ok (.ifCond .eq 11, 3) := by decide +kernel
theorem dX6_without_11 : decode cX6_without 11 = .ok (.aload_n 0, 1) := by decide +kernel
theorem dX6_without_12 : decode cX6_without 12 = .ok (.iload_n 1, 1) := by decide +kernel
theorem dX6_without_13 : decode cX6_without 13 = .ok (.invokevirtual 157, 3) := by decide +kernel
theorem dX6_without_16 : decode cX6_without 16 = .ok (.goto 4, 3) := by decide +kernel
theorem dX6_without_20 : decode cX6_without 20 = .ok (.istore_n 3, 1) := by decide +kernel
theorem dX6_without_21 : decode cX6_without 21 = .ok (.iload_n 3, 1) := by decide +kernel
theorem dX6_without_22 : decode cX6_without 22 = .ok (.ifCond .eq 8, 3) := by decide +kernel
theorem dX6_without_30 : decode cX6_without 30 = .ok (.aload_n 0, 1) := by decide +kernel
theorem dX6_without_31 : decode cX6_without 31 = .ok (.aload_n 0, 1) := by decide +kernel
theorem dX6_without_32 : decode cX6_without 32 = .ok (.getfield 25, 3) := by decide +kernel
theorem dX6_without_35 : decode cX6_without 35 = .ok (.iload_n 1, 1) := by decide +kernel
theorem dX6_without_36 : decode cX6_without 36 = .ok (.aaload, 1) := by decide +kernel
theorem dX6_without_37 : decode cX6_without 37 = .ok (.getfield 160, 3) := by decide +kernel
theorem dX6_without_40 : decode cX6_without 40 = .ok (.iconst 0, 1) := by decide +kernel
theorem dX6_without_41 : decode cX6_without 41 = .ok (.iload_n 2, 1) := by decide +kernel
theorem dX6_without_42 : decode cX6_without 42 = .ok (.invokevirtual 246, 3) := by decide +kernel
theorem kX6_246 : zLk RX6 246 yX6_paceBehind := Or.inl (gt_of 514 (by decide +kernel) rfl)
theorem vX6_paceBehind : zMi yX6_paceBehind := ⟨gt_of 516 (by decide +kernel) rfl, gt_of 15 (by decide +kernel) rfl⟩
theorem dX6_without_45 : decode cX6_without 45 = .ok (.aload_n 0, 1) := by decide +kernel
theorem dX6_without_46 : decode cX6_without 46 = .ok (.aload_n 0, 1) := by decide +kernel
theorem dX6_without_47 : decode cX6_without 47 = .ok (.getfield 51, 3) := by decide +kernel
theorem fX6_51 : zFld RX6 51 6 7 := ⟨RX6, TX6, 9, rfl, inX6, by decide, rfl, Or.inl (gt_of 235 (by decide +kernel) rfl)⟩
theorem dX6_without_50 : decode cX6_without 50 = .ok (.iconst 0, 1) := by decide +kernel
theorem dX6_without_51 : decode cX6_without 51 = .ok (.iload_n 2, 1) := by decide +kernel
theorem dX6_without_52 : decode cX6_without 52 = .ok (.invokevirtual 246, 3) := by decide +kernel
theorem dX6_without_55 : decode cX6_without 55 = .ok (.isub, 1) := by decide +kernel
theorem dX6_without_56 : decode cX6_without 56 = .ok (.ireturn, 1) := by decide +kernel
theorem dX6_without_25 : decode cX6_without 25 = .ok (.iload_n 3, 1) := by decide +kernel
theorem dX6_without_26 : decode cX6_without 26 = .ok (.invokestatic 243, 3) := by decide +kernel
theorem dX6_without_29 : decode cX6_without 29 = .ok (.ireturn, 1) := by decide +kernel
theorem dX6_without_19 : decode cX6_without 19 = .ok (.iconst (-1), 1) := by decide +kernel
set_option maxRecDepth 100000 in
theorem c_X6_without (l : Launch) (D : va_G) (cy : Nat → Nat) (n : Nat) (ad : Nat → Nat) (F : Nat → va_E) (sz : Nat) (pic : Int32) (sc ps : Scn) (sh : Nat → Shf) (rd : Rdr) (dr : Stg) (fa : Tal) (mi : Crs) (hn : 56 ≤ n) (hX : RX ad cy F pic sc ps sh rd dr fa mi) (d q : Int32) : Met l yX6_without (zw yX6_without cX6_without 4 (some .int)) (rmL 4) (zPc D cy n ad F sz [.ref (ad 0), .int d, .int q]) (va_Qi (fun r F1 => r = zrA (bIn q 1 500) (sStR sh d) ((sPB (sh (iN d)).2.1 sc 0 (iN q)).2.1 - (sPB (0, 0) sc 0 (iN q)).2.1) ∧ ∃ mi1, RX ad cy F1 pic sc ps sh rd dr fa mi1 ∧ fr56 F F1) (zB D n ad) (zA n ad sz)) 0 0 (zA n ad sz) := by
  refine zmet (by decide +kernel) (Nat.le_of_ble_eq_true rfl) (fun p e s m args below meth c ls hC hsz hZ hA hr hlocks hnm hl => ?_)
  have hC : zC p m c cX6_without 4 s args RX6 D cy := hC
  have hx := hC.1.1
  have hb := hC.1.2.1
  have hl : lv_has ls 4 [(0, .ref (ad 0)), (1, .int d), (2, .int q)] := hl
  refine lv_iload_n hx hb dX6_without_0 rfl (lv_at hl 2 rfl) ?_
  refine lv_iconst (v := 1) hx hb dX6_without_1 (by decide) ?_
  refine lv_sipush (v := 500) hx hb dX6_without_2 (by decide) ?_
  refine zgoi hZ hA (zrunS (As := [.int q, .int 1, .int 500]) (rest := []) hC hZ (c_X6_isWithin l D cy n ad F s.heap.size q 1 500) mX6_isWithin sX6_isWithin kX6_111 (zRj_of rfl) rfl hl.1 rfl (Nat.le_of_ble_eq_true rfl) dX6_without_5 ⟨Nat.le_refl _, Nat.le_refl _⟩) (fun r_2 F_1 hp_3 H locs hZ => ?_)
  obtain ⟨hp_3, rfl⟩ := hp_3
  by_cases b_4 : bIn q 1 500
  · rw [if_pos b_4] at hp_3
    subst hp_3
    refine lv_if_eq (tgt := 19) hx hb dX6_without_8 (by decide) (fun h => absurd (show (1 : Int32) = 0 from h) (by decide)) (fun _ => ?_)
    refine lv_aload_n hx hb dX6_without_11 rfl (lv_at hl 0 rfl) ?_
    refine lv_iload_n hx hb dX6_without_12 rfl (lv_at hl 1 rfl) ?_
    refine zgoi hZ hA (zrunV (As := [.int d]) (rest := []) (k := 0) hC hZ (c_X6_storyRefusal l D cy n ad F H.size pic sc ps sh rd dr fa mi hn hX d) mX6_storyRefusal vX6_storyRefusal kX6_157 (zRj_of rfl) (zlt hn rfl) hX.1 rfl rfl hl.1 rfl (Nat.le_of_ble_eq_true rfl) dX6_without_13 ⟨Nat.le_refl _, Nat.le_refl _⟩) (fun r_6 F_5 hp_7 H locs hZ => ?_)
    obtain ⟨rfl, rfl⟩ := hp_7
    refine lv_goto (tgt := 20) hx hb dX6_without_16 (by decide) ?_
    refine lv_istore_n (lv' := [(3, .int (sStR sh d)), (0, .ref (ad 0)), (1, .int d), (2, .int q)]) hx hb dX6_without_20 rfl hl (by decide) rfl (fun ls hl => ?_)
    refine lv_iload_n hx hb dX6_without_21 rfl (lv_at hl 0 rfl) ?_
    refine lv_if_eq (tgt := 30) hx hb dX6_without_22 (by decide) (fun c_22 => ?_) (fun c_22 => ?_)
    · refine lv_aload_n hx hb dX6_without_30 rfl (lv_at hl 1 rfl) ?_
      refine lv_aload_n hx hb dX6_without_31 rfl (lv_at hl 1 rfl) ?_
      refine zget hC hZ fX6_25 (zlt hn rfl) hX.1 rfl dX6_without_32 ?_
      refine lv_iload_n hx hb dX6_without_35 rfl (lv_at hl 2 rfl) ?_
      have hs_8 := sStR_0 c_22
      refine zaald hC hZ (zlt hn rfl) hX.2.2.2.1 (C := RX4) rfl hs_8.1.1 hs_8.1.2 (by decide) rfl dX6_without_36 ?_
      refine zget hC hZ fX6_160 (by have := hs_8.1.2; omega) (hX.2.2.2.2.1 (iN d) hs_8.1.2).1 rfl dX6_without_37 ?_
      refine lv_iconst (v := 0) hx hb dX6_without_40 (by decide) ?_
      refine lv_iload_n hx hb dX6_without_41 rfl (lv_at hl 3 rfl) ?_
      have hq5 := bIn_n (N := 500) b_4 (by decide) rfl
      refine zgoi hZ hA (zrunV (As := [.ref (ad (26 + 3 * (iN d) + 1)), .int 0, .int q]) (rest := []) (k := 0) hC hZ (c_X6_paceBehind l D cy n ad F H.size pic sc ps sh rd dr fa mi hn hX (26 + 3 * (iN d) + 1) ((sh (iN d)).2.1) (by have := hs_8.1.2; omega) (hX.2.2.2.2.1 (iN d) hs_8.1.2).2.1 0 q hq5) mX6_paceBehind vX6_paceBehind kX6_246 (zRj_of rfl) (zlt hn rfl) hX.1 rfl rfl hl.1 rfl (Nat.le_of_ble_eq_true rfl) dX6_without_42 ⟨Nat.le_refl _, Nat.le_refl _⟩) (fun r_10 F_9 hp_11 H locs hZ => ?_)
      obtain ⟨pb_16, hpb_16⟩ : ∃ y, y = sPB ((sh (iN d)).2.1) sc 0 (iN q) := ⟨_, rfl⟩
      rw [← hpb_16] at hp_11
      obtain ⟨rfl, hX_13, hf_14⟩ := hp_11
      have hf_15 : fr56 F F_9 := fun q hq => (hf_14 q hq).trans (fr56_rf q hq)
      refine lv_aload_n hx hb dX6_without_45 rfl (lv_at hl 1 rfl) ?_
      refine lv_aload_n hx hb dX6_without_46 rfl (lv_at hl 1 rfl) ?_
      refine zget hC hZ fX6_51 (zlt hn rfl) hX_13.1 rfl dX6_without_47 ?_
      refine lv_iconst (v := 0) hx hb dX6_without_50 (by decide) ?_
      refine lv_iload_n hx hb dX6_without_51 rfl (lv_at hl 3 rfl) ?_
      refine zgoi hZ hA (zrunV (As := [.ref (ad 54), .int 0, .int q]) (rest := [.int pb_16.2.1]) (k := 0) hC hZ (c_X6_paceBehind l D cy n ad F_9 H.size pic sc ps sh rd dr fa pb_16 hn hX_13 54 (0, 0) (zlt hn rfl) hX_13.2.2.2.2.2.2.2.2.1 0 q hq5) mX6_paceBehind vX6_paceBehind kX6_246 (zRj_of rfl) (zlt hn rfl) hX_13.1 rfl rfl hl.1 rfl (Nat.le_of_ble_eq_true rfl) dX6_without_52 ⟨Nat.le_refl _, Nat.le_refl _⟩) (fun r_18 F_17 hp_19 H locs hZ => ?_)
      obtain ⟨pb_24, hpb_24⟩ : ∃ y, y = sPB (0, 0) sc 0 (iN q) := ⟨_, rfl⟩
      rw [← hpb_24] at hp_19
      obtain ⟨rfl, hX_21, hf_22⟩ := hp_19
      have hf_23 : fr56 F F_17 := fun q hq => (hf_22 q hq).trans (hf_15 q hq)
      refine lv_isub hx hb dX6_without_55 ?_
      have hq0 : (pb_16.2.1 - pb_24.2.1) = zrA (bIn q 1 500) (sStR sh d) ((sPB (sh (iN d)).2.1 sc 0 (iN q)).2.1 - (sPB (0, 0) sc 0 (iN q)).2.1) := by rw [zrA_ok b_4 c_22, ← hpb_16, ← hpb_24]
      exact zireti hC hZ hr hlocks ⟨hq0, pb_24, hX_21, hf_23⟩ dX6_without_56
    · refine lv_iload_n hx hb dX6_without_25 rfl (lv_at hl 0 rfl) ?_
      refine zgoi hZ hA (zrunS (As := [.int (sStR sh d)]) (rest := []) hC hZ (c_X6_putApart l D cy n ad F H.size (sStR sh d)) mX6_putApart sX6_putApart kX6_243 (zRj_of rfl) rfl hl.1 rfl (Nat.le_of_ble_eq_true rfl) dX6_without_26 ⟨Nat.le_refl _, Nat.le_refl _⟩) (fun r_26 F_25 hp_27 H locs hZ => ?_)
      obtain ⟨rfl, rfl⟩ := hp_27
      have hq0 : (-1000000000 + (sStR sh d)) = zrA (bIn q 1 500) (sStR sh d) ((sPB (sh (iN d)).2.1 sc 0 (iN q)).2.1 - (sPB (0, 0) sc 0 (iN q)).2.1) := (zrA_rf b_4 c_22).symm
      exact zireti hC hZ hr hlocks ⟨hq0, mi, hX, fr56_rf⟩ dX6_without_29
  · rw [if_neg b_4] at hp_3
    subst hp_3
    refine lv_if_eq (tgt := 19) hx hb dX6_without_8 (by decide) (fun _ => ?_) (fun h => absurd (show (0 : Int32) = 0 by decide) h)
    refine lv_iconst (v := (-1)) hx hb dX6_without_19 (by decide) ?_
    refine lv_istore_n (lv' := [(3, .int (-1)), (0, .ref (ad 0)), (1, .int d), (2, .int q)]) hx hb dX6_without_20 rfl hl (by decide) rfl (fun ls hl => ?_)
    refine lv_iload_n hx hb dX6_without_21 rfl (lv_at hl 0 rfl) ?_
    refine lv_if_eq (tgt := 30) hx hb dX6_without_22 (by decide) (fun h => absurd (show (-1 : Int32) = 0 from h) (by decide)) (fun _ => ?_)
    refine lv_iload_n hx hb dX6_without_25 rfl (lv_at hl 0 rfl) ?_
    refine zgoi hZ hA (zrunS (As := [.int (-1)]) (rest := []) hC hZ (c_X6_putApart l D cy n ad F H.size (-1)) mX6_putApart sX6_putApart kX6_243 (zRj_of rfl) rfl hl.1 rfl (Nat.le_of_ble_eq_true rfl) dX6_without_26 ⟨Nat.le_refl _, Nat.le_refl _⟩) (fun r_29 F_28 hp_30 H locs hZ => ?_)
    obtain ⟨rfl, rfl⟩ := hp_30
    have hq0 : (-1000000000 + (-1)) = zrA (bIn q 1 500) (sStR sh d) ((sPB (sh (iN d)).2.1 sc 0 (iN q)).2.1 - (sPB (0, 0) sc 0 (iN q)).2.1) := (zrA_no b_4).symm
    exact zireti hC hZ hr hlocks ⟨hq0, mi, hX, fr56_rf⟩ dX6_without_29

theorem mX6_floor : zMd yX6_floor cX6_floor 6 (some .int) 3 := ⟨by decide +kernel, gt_of 530 (by decide +kernel) rfl, gt_of 45 (by decide +kernel) rfl, by decide⟩
theorem dX6_floor_0 : decode cX6_floor 0 = .ok (.iload_n 2, 1) := by decide +kernel
theorem dX6_floor_1 : decode cX6_floor 1 = .ok (.iconst 0, 1) := by decide +kernel
theorem dX6_floor_2 : decode cX6_floor 2 = .ok (.bipush 40, 2) := by decide +kernel
theorem dX6_floor_4 : decode cX6_floor 4 = .ok (.invokestatic 111, 3) := by decide +kernel
theorem dX6_floor_7 : decode cX6_floor 7 = .ok (.ifCond .eq 18, 3) := by decide +kernel
theorem dX6_floor_10 : decode cX6_floor 10 = .ok (.iload_n 3, 1) := by decide +kernel
theorem dX6_floor_11 : decode cX6_floor 11 = .ok (.iconst 1, 1) := by decide +kernel
theorem dX6_floor_12 : decode cX6_floor 12 = .ok (.sipush 500, 3) := by decide +kernel
theorem dX6_floor_15 : decode cX6_floor 15 = .ok (.invokestatic 111, 3) := by decide +kernel
theorem dX6_floor_18 : decode cX6_floor 18 = .ok (.ifCond .eq 7, 3) := by decide +kernel
theorem dX6_floor_21 : decode cX6_floor 21 = .ok (.iconst 1, 1) := by decide +kernel
theorem dX6_floor_22 : decode cX6_floor 22 = .ok (.goto 4, 3) := by decide +kernel
theorem dX6_floor_26 : decode cX6_floor 26 = .ok (.istore 4, 2) := by decide +kernel
theorem dX6_floor_28 : decode cX6_floor 28 = .ok (.iload 4, 2) := by decide +kernel
theorem dX6_floor_30 : decode cX6_floor 30 = .ok (.ifCond .eq 11, 3) := by decide +kernel
theorem dX6_floor_33 : decode cX6_floor 33 = .ok (.aload_n 0, 1) := by decide +kernel
theorem dX6_floor_34 : decode cX6_floor 34 = .ok (.iload_n 1, 1) := by decide +kernel
theorem dX6_floor_35 : decode cX6_floor 35 = .ok (.invokevirtual 157, 3) := by decide +kernel
theorem dX6_floor_38 : decode cX6_floor 38 = .ok (.goto 4, 3) := by decide +kernel
theorem dX6_floor_42 : decode cX6_floor 42 = .ok (.istore 5, 2) := by decide +kernel
theorem dX6_floor_44 : decode cX6_floor 44 = .ok (.iload 5, 2) := by decide +kernel
theorem dX6_floor_46 : decode cX6_floor 46 = .ok (.ifCond .eq 9, 3) := by decide +kernel
theorem dX6_floor_55 : decode cX6_floor 55 = .ok (.aload_n 0, 1) := by decide +kernel
theorem dX6_floor_56 : decode cX6_floor 56 = .ok (.aload_n 0, 1) := by decide +kernel
theorem dX6_floor_57 : decode cX6_floor 57 = .ok (.getfield 25, 3) := by decide +kernel
theorem dX6_floor_60 : decode cX6_floor 60 = .ok (.iload_n 1, 1) := by decide +kernel
theorem dX6_floor_61 : decode cX6_floor 61 = .ok (.aaload, 1) := by decide +kernel
theorem dX6_floor_62 : decode cX6_floor 62 = .ok (.getfield 160, 3) := by decide +kernel
theorem dX6_floor_65 : decode cX6_floor 65 = .ok (.iload_n 2, 1) := by decide +kernel
theorem dX6_floor_66 : decode cX6_floor 66 = .ok (.iload_n 3, 1) := by decide +kernel
theorem dX6_floor_67 : decode cX6_floor 67 = .ok (.invokevirtual 246, 3) := by decide +kernel
theorem dX6_floor_70 : decode cX6_floor 70 = .ok (.aload_n 0, 1) := by decide +kernel
theorem dX6_floor_71 : decode cX6_floor 71 = .ok (.aload_n 0, 1) := by decide +kernel
theorem dX6_floor_72 : decode cX6_floor 72 = .ok (.getfield 25, 3) := by decide +kernel
theorem dX6_floor_75 : decode cX6_floor 75 = .ok (.iload_n 1, 1) := by decide +kernel
theorem dX6_floor_76 : decode cX6_floor 76 = .ok (.aaload, 1) := by decide +kernel
theorem dX6_floor_77 : decode cX6_floor 77 = .ok (.getfield 160, 3) := by decide +kernel
theorem dX6_floor_80 : decode cX6_floor 80 = .ok (.iconst 0, 1) := by decide +kernel
theorem dX6_floor_81 : decode cX6_floor 81 = .ok (.iload_n 3, 1) := by decide +kernel
theorem dX6_floor_82 : decode cX6_floor 82 = .ok (.invokevirtual 246, 3) := by decide +kernel
theorem dX6_floor_85 : decode cX6_floor 85 = .ok (.isub, 1) := by decide +kernel
theorem dX6_floor_86 : decode cX6_floor 86 = .ok (.ireturn, 1) := by decide +kernel
theorem dX6_floor_49 : decode cX6_floor 49 = .ok (.iload 5, 2) := by decide +kernel
theorem dX6_floor_51 : decode cX6_floor 51 = .ok (.invokestatic 243, 3) := by decide +kernel
theorem dX6_floor_54 : decode cX6_floor 54 = .ok (.ireturn, 1) := by decide +kernel
theorem dX6_floor_25 : decode cX6_floor 25 = .ok (.iconst 0, 1) := by decide +kernel
theorem dX6_floor_41 : decode cX6_floor 41 = .ok (.iconst (-1), 1) := by decide +kernel
set_option maxRecDepth 100000 in
theorem c_X6_floor (l : Launch) (D : va_G) (cy : Nat → Nat) (n : Nat) (ad : Nat → Nat) (F : Nat → va_E) (sz : Nat) (pic : Int32) (sc ps : Scn) (sh : Nat → Shf) (rd : Rdr) (dr : Stg) (fa : Tal) (mi : Crs) (hn : 56 ≤ n) (hX : RX ad cy F pic sc ps sh rd dr fa mi) (d m0 q : Int32) : Met l yX6_floor (zw yX6_floor cX6_floor 6 (some .int)) (rmL 4) (zPc D cy n ad F sz [.ref (ad 0), .int d, .int m0, .int q]) (va_Qi (fun r F1 => r = zrA (bIn m0 0 40 ∧ bIn q 1 500) (sStR sh d) ((sPB (sh (iN d)).2.1 sc m0 (iN q)).2.1 - (sPB (sh (iN d)).2.1 sc 0 (iN q)).2.1) ∧ ∃ mi1, RX ad cy F1 pic sc ps sh rd dr fa mi1 ∧ fr56 F F1) (zB D n ad) (zA n ad sz)) 0 0 (zA n ad sz) := by
  refine zmet (by decide +kernel) (Nat.le_of_ble_eq_true rfl) (fun p e s m args below meth c ls hC hsz hZ hA hr hlocks hnm hl => ?_)
  have hC : zC p m c cX6_floor 6 s args RX6 D cy := hC
  have hx := hC.1.1
  have hb := hC.1.2.1
  have hl : lv_has ls 6 [(0, .ref (ad 0)), (1, .int d), (2, .int m0), (3, .int q)] := hl
  refine lv_iload_n hx hb dX6_floor_0 rfl (lv_at hl 2 rfl) ?_
  refine lv_iconst (v := 0) hx hb dX6_floor_1 (by decide) ?_
  refine lv_bipush (v := 40) hx hb dX6_floor_2 (by decide) ?_
  refine zgoi hZ hA (zrunS (As := [.int m0, .int 0, .int 40]) (rest := []) hC hZ (c_X6_isWithin l D cy n ad F s.heap.size m0 0 40) mX6_isWithin sX6_isWithin kX6_111 (zRj_of rfl) rfl hl.1 rfl (Nat.le_of_ble_eq_true rfl) dX6_floor_4 ⟨Nat.le_refl _, Nat.le_refl _⟩) (fun r_2 F_1 hp_3 H locs hZ => ?_)
  obtain ⟨hp_3, rfl⟩ := hp_3
  by_cases b_4 : bIn m0 0 40
  · rw [if_pos b_4] at hp_3
    subst hp_3
    refine lv_if_eq (tgt := 25) hx hb dX6_floor_7 (by decide) (fun h => absurd (show (1 : Int32) = 0 from h) (by decide)) (fun _ => ?_)
    refine lv_iload_n hx hb dX6_floor_10 rfl (lv_at hl 3 rfl) ?_
    refine lv_iconst (v := 1) hx hb dX6_floor_11 (by decide) ?_
    refine lv_sipush (v := 500) hx hb dX6_floor_12 (by decide) ?_
    refine zgoi hZ hA (zrunS (As := [.int q, .int 1, .int 500]) (rest := []) hC hZ (c_X6_isWithin l D cy n ad F H.size q 1 500) mX6_isWithin sX6_isWithin kX6_111 (zRj_of rfl) rfl hl.1 rfl (Nat.le_of_ble_eq_true rfl) dX6_floor_15 ⟨Nat.le_refl _, Nat.le_refl _⟩) (fun r_6 F_5 hp_7 H locs hZ => ?_)
    obtain ⟨hp_7, rfl⟩ := hp_7
    by_cases b_8 : bIn q 1 500
    · rw [if_pos b_8] at hp_7
      subst hp_7
      refine lv_if_eq (tgt := 25) hx hb dX6_floor_18 (by decide) (fun h => absurd (show (1 : Int32) = 0 from h) (by decide)) (fun _ => ?_)
      refine lv_iconst (v := 1) hx hb dX6_floor_21 (by decide) ?_
      refine lv_goto (tgt := 26) hx hb dX6_floor_22 (by decide) ?_
      refine lv_istore (lv' := [(4, .int 1), (0, .ref (ad 0)), (1, .int d), (2, .int m0), (3, .int q)]) hx hb dX6_floor_26 hl (by decide) rfl (fun ls hl => ?_)
      refine lv_iload hx hb dX6_floor_28 (lv_at hl 0 rfl) ?_
      refine lv_if_eq (tgt := 41) hx hb dX6_floor_30 (by decide) (fun h => absurd (show (1 : Int32) = 0 from h) (by decide)) (fun _ => ?_)
      refine lv_aload_n hx hb dX6_floor_33 rfl (lv_at hl 1 rfl) ?_
      refine lv_iload_n hx hb dX6_floor_34 rfl (lv_at hl 2 rfl) ?_
      refine zgoi hZ hA (zrunV (As := [.int d]) (rest := []) (k := 0) hC hZ (c_X6_storyRefusal l D cy n ad F H.size pic sc ps sh rd dr fa mi hn hX d) mX6_storyRefusal vX6_storyRefusal kX6_157 (zRj_of rfl) (zlt hn rfl) hX.1 rfl rfl hl.1 rfl (Nat.le_of_ble_eq_true rfl) dX6_floor_35 ⟨Nat.le_refl _, Nat.le_refl _⟩) (fun r_10 F_9 hp_11 H locs hZ => ?_)
      obtain ⟨rfl, rfl⟩ := hp_11
      refine lv_goto (tgt := 42) hx hb dX6_floor_38 (by decide) ?_
      refine lv_istore (lv' := [(5, .int (sStR sh d)), (4, .int 1), (0, .ref (ad 0)), (1, .int d), (2, .int m0), (3, .int q)]) hx hb dX6_floor_42 hl (by decide) rfl (fun ls hl => ?_)
      refine lv_iload hx hb dX6_floor_44 (lv_at hl 0 rfl) ?_
      refine lv_if_eq (tgt := 55) hx hb dX6_floor_46 (by decide) (fun c_46 => ?_) (fun c_46 => ?_)
      · refine lv_aload_n hx hb dX6_floor_55 rfl (lv_at hl 2 rfl) ?_
        refine lv_aload_n hx hb dX6_floor_56 rfl (lv_at hl 2 rfl) ?_
        refine zget hC hZ fX6_25 (zlt hn rfl) hX.1 rfl dX6_floor_57 ?_
        refine lv_iload_n hx hb dX6_floor_60 rfl (lv_at hl 3 rfl) ?_
        have hs_12 := sStR_0 c_46
        refine zaald hC hZ (zlt hn rfl) hX.2.2.2.1 (C := RX4) rfl hs_12.1.1 hs_12.1.2 (by decide) rfl dX6_floor_61 ?_
        refine zget hC hZ fX6_160 (by have := hs_12.1.2; omega) (hX.2.2.2.2.1 (iN d) hs_12.1.2).1 rfl dX6_floor_62 ?_
        refine lv_iload_n hx hb dX6_floor_65 rfl (lv_at hl 4 rfl) ?_
        refine lv_iload_n hx hb dX6_floor_66 rfl (lv_at hl 5 rfl) ?_
        have hq5 := bIn_n (N := 500) b_8 (by decide) rfl
        refine zgoi hZ hA (zrunV (As := [.ref (ad (26 + 3 * (iN d) + 1)), .int m0, .int q]) (rest := []) (k := 0) hC hZ (c_X6_paceBehind l D cy n ad F H.size pic sc ps sh rd dr fa mi hn hX (26 + 3 * (iN d) + 1) ((sh (iN d)).2.1) (by have := hs_12.1.2; omega) (hX.2.2.2.2.1 (iN d) hs_12.1.2).2.1 m0 q hq5) mX6_paceBehind vX6_paceBehind kX6_246 (zRj_of rfl) (zlt hn rfl) hX.1 rfl rfl hl.1 rfl (Nat.le_of_ble_eq_true rfl) dX6_floor_67 ⟨Nat.le_refl _, Nat.le_refl _⟩) (fun r_14 F_13 hp_15 H locs hZ => ?_)
        obtain ⟨pb_20, hpb_20⟩ : ∃ y, y = sPB ((sh (iN d)).2.1) sc m0 (iN q) := ⟨_, rfl⟩
        rw [← hpb_20] at hp_15
        obtain ⟨rfl, hX_17, hf_18⟩ := hp_15
        have hf_19 : fr56 F F_13 := fun q hq => (hf_18 q hq).trans (fr56_rf q hq)
        refine lv_aload_n hx hb dX6_floor_70 rfl (lv_at hl 2 rfl) ?_
        refine lv_aload_n hx hb dX6_floor_71 rfl (lv_at hl 2 rfl) ?_
        refine zget hC hZ fX6_25 (zlt hn rfl) hX_17.1 rfl dX6_floor_72 ?_
        refine lv_iload_n hx hb dX6_floor_75 rfl (lv_at hl 3 rfl) ?_
        refine zaald hC hZ (zlt hn rfl) hX_17.2.2.2.1 (C := RX4) rfl hs_12.1.1 hs_12.1.2 (by decide) rfl dX6_floor_76 ?_
        refine zget hC hZ fX6_160 (by have := hs_12.1.2; omega) (hX_17.2.2.2.2.1 (iN d) hs_12.1.2).1 rfl dX6_floor_77 ?_
        refine lv_iconst (v := 0) hx hb dX6_floor_80 (by decide) ?_
        refine lv_iload_n hx hb dX6_floor_81 rfl (lv_at hl 5 rfl) ?_
        refine zgoi hZ hA (zrunV (As := [.ref (ad (26 + 3 * (iN d) + 1)), .int 0, .int q]) (rest := [.int pb_20.2.1]) (k := 0) hC hZ (c_X6_paceBehind l D cy n ad F_13 H.size pic sc ps sh rd dr fa pb_20 hn hX_17 (26 + 3 * (iN d) + 1) ((sh (iN d)).2.1) (by have := hs_12.1.2; omega) (hX_17.2.2.2.2.1 (iN d) hs_12.1.2).2.1 0 q hq5) mX6_paceBehind vX6_paceBehind kX6_246 (zRj_of rfl) (zlt hn rfl) hX_17.1 rfl rfl hl.1 rfl (Nat.le_of_ble_eq_true rfl) dX6_floor_82 ⟨Nat.le_refl _, Nat.le_refl _⟩) (fun r_22 F_21 hp_23 H locs hZ => ?_)
        obtain ⟨pb_28, hpb_28⟩ : ∃ y, y = sPB ((sh (iN d)).2.1) sc 0 (iN q) := ⟨_, rfl⟩
        rw [← hpb_28] at hp_23
        obtain ⟨rfl, hX_25, hf_26⟩ := hp_23
        have hf_27 : fr56 F F_21 := fun q hq => (hf_26 q hq).trans (hf_19 q hq)
        refine lv_isub hx hb dX6_floor_85 ?_
        have hq0 : (pb_20.2.1 - pb_28.2.1) = zrA (bIn m0 0 40 ∧ bIn q 1 500) (sStR sh d) ((sPB (sh (iN d)).2.1 sc m0 (iN q)).2.1 - (sPB (sh (iN d)).2.1 sc 0 (iN q)).2.1) := by rw [zrA_ok ⟨b_4, b_8⟩ c_46, ← hpb_20, ← hpb_28]
        exact zireti hC hZ hr hlocks ⟨hq0, pb_28, hX_25, hf_27⟩ dX6_floor_86
      · refine lv_iload hx hb dX6_floor_49 (lv_at hl 0 rfl) ?_
        refine zgoi hZ hA (zrunS (As := [.int (sStR sh d)]) (rest := []) hC hZ (c_X6_putApart l D cy n ad F H.size (sStR sh d)) mX6_putApart sX6_putApart kX6_243 (zRj_of rfl) rfl hl.1 rfl (Nat.le_of_ble_eq_true rfl) dX6_floor_51 ⟨Nat.le_refl _, Nat.le_refl _⟩) (fun r_30 F_29 hp_31 H locs hZ => ?_)
        obtain ⟨rfl, rfl⟩ := hp_31
        have hq0 : (-1000000000 + (sStR sh d)) = zrA (bIn m0 0 40 ∧ bIn q 1 500) (sStR sh d) ((sPB (sh (iN d)).2.1 sc m0 (iN q)).2.1 - (sPB (sh (iN d)).2.1 sc 0 (iN q)).2.1) := (zrA_rf ⟨b_4, b_8⟩ c_46).symm
        exact zireti hC hZ hr hlocks ⟨hq0, mi, hX, fr56_rf⟩ dX6_floor_54
    · rw [if_neg b_8] at hp_7
      subst hp_7
      refine lv_if_eq (tgt := 25) hx hb dX6_floor_18 (by decide) (fun _ => ?_) (fun h => absurd (show (0 : Int32) = 0 by decide) h)
      refine lv_iconst (v := 0) hx hb dX6_floor_25 (by decide) ?_
      refine lv_istore (lv' := [(4, .int 0), (0, .ref (ad 0)), (1, .int d), (2, .int m0), (3, .int q)]) hx hb dX6_floor_26 hl (by decide) rfl (fun ls hl => ?_)
      refine lv_iload hx hb dX6_floor_28 (lv_at hl 0 rfl) ?_
      refine lv_if_eq (tgt := 41) hx hb dX6_floor_30 (by decide) (fun _ => ?_) (fun h => absurd (show (0 : Int32) = 0 by decide) h)
      refine lv_iconst (v := (-1)) hx hb dX6_floor_41 (by decide) ?_
      refine lv_istore (lv' := [(5, .int (-1)), (4, .int 0), (0, .ref (ad 0)), (1, .int d), (2, .int m0), (3, .int q)]) hx hb dX6_floor_42 hl (by decide) rfl (fun ls hl => ?_)
      refine lv_iload hx hb dX6_floor_44 (lv_at hl 0 rfl) ?_
      refine lv_if_eq (tgt := 55) hx hb dX6_floor_46 (by decide) (fun h => absurd (show (-1 : Int32) = 0 from h) (by decide)) (fun _ => ?_)
      refine lv_iload hx hb dX6_floor_49 (lv_at hl 0 rfl) ?_
      refine zgoi hZ hA (zrunS (As := [.int (-1)]) (rest := []) hC hZ (c_X6_putApart l D cy n ad F H.size (-1)) mX6_putApart sX6_putApart kX6_243 (zRj_of rfl) rfl hl.1 rfl (Nat.le_of_ble_eq_true rfl) dX6_floor_51 ⟨Nat.le_refl _, Nat.le_refl _⟩) (fun r_33 F_32 hp_34 H locs hZ => ?_)
      obtain ⟨rfl, rfl⟩ := hp_34
      have hq0 : (-1000000000 + (-1)) = zrA (bIn m0 0 40 ∧ bIn q 1 500) (sStR sh d) ((sPB (sh (iN d)).2.1 sc m0 (iN q)).2.1 - (sPB (sh (iN d)).2.1 sc 0 (iN q)).2.1) := (zrA_no (fun h => b_8 h.2)).symm
      exact zireti hC hZ hr hlocks ⟨hq0, mi, hX, fr56_rf⟩ dX6_floor_54
  · rw [if_neg b_4] at hp_3
    subst hp_3
    refine lv_if_eq (tgt := 25) hx hb dX6_floor_7 (by decide) (fun _ => ?_) (fun h => absurd (show (0 : Int32) = 0 by decide) h)
    refine lv_iconst (v := 0) hx hb dX6_floor_25 (by decide) ?_
    refine lv_istore (lv' := [(4, .int 0), (0, .ref (ad 0)), (1, .int d), (2, .int m0), (3, .int q)]) hx hb dX6_floor_26 hl (by decide) rfl (fun ls hl => ?_)
    refine lv_iload hx hb dX6_floor_28 (lv_at hl 0 rfl) ?_
    refine lv_if_eq (tgt := 41) hx hb dX6_floor_30 (by decide) (fun _ => ?_) (fun h => absurd (show (0 : Int32) = 0 by decide) h)
    refine lv_iconst (v := (-1)) hx hb dX6_floor_41 (by decide) ?_
    refine lv_istore (lv' := [(5, .int (-1)), (4, .int 0), (0, .ref (ad 0)), (1, .int d), (2, .int m0), (3, .int q)]) hx hb dX6_floor_42 hl (by decide) rfl (fun ls hl => ?_)
    refine lv_iload hx hb dX6_floor_44 (lv_at hl 0 rfl) ?_
    refine lv_if_eq (tgt := 55) hx hb dX6_floor_46 (by decide) (fun h => absurd (show (-1 : Int32) = 0 from h) (by decide)) (fun _ => ?_)
    refine lv_iload hx hb dX6_floor_49 (lv_at hl 0 rfl) ?_
    refine zgoi hZ hA (zrunS (As := [.int (-1)]) (rest := []) hC hZ (c_X6_putApart l D cy n ad F H.size (-1)) mX6_putApart sX6_putApart kX6_243 (zRj_of rfl) rfl hl.1 rfl (Nat.le_of_ble_eq_true rfl) dX6_floor_51 ⟨Nat.le_refl _, Nat.le_refl _⟩) (fun r_36 F_35 hp_37 H locs hZ => ?_)
    obtain ⟨rfl, rfl⟩ := hp_37
    have hq0 : (-1000000000 + (-1)) = zrA (bIn m0 0 40 ∧ bIn q 1 500) (sStR sh d) ((sPB (sh (iN d)).2.1 sc m0 (iN q)).2.1 - (sPB (sh (iN d)).2.1 sc 0 (iN q)).2.1) := (zrA_no (fun h => b_4 h.1)).symm
    exact zireti hC hZ hr hlocks ⟨hq0, mi, hX, fr56_rf⟩ dX6_floor_54

theorem mX6_scale : zMd yX6_scale cX6_scale 6 (some .int) 2 := ⟨by decide +kernel, gt_of 534 (by decide +kernel) rfl, gt_of 45 (by decide +kernel) rfl, by decide⟩
theorem dX6_scale_0 : decode cX6_scale 0 = .ok (.iload_n 2, 1) := by decide +kernel
theorem dX6_scale_1 : decode cX6_scale 1 = .ok (.iconst 0, 1) := by decide +kernel
theorem dX6_scale_2 : decode cX6_scale 2 = .ok (.sipush 500, 3) := by decide +kernel
theorem dX6_scale_5 : decode cX6_scale 5 = .ok (.invokestatic 111, 3) := by decide +kernel
theorem dX6_scale_8 : decode cX6_scale 8 = .ok (.ifCond .eq 11, 3) := by decide +kernel
theorem dX6_scale_11 : decode cX6_scale 11 = .ok (.aload_n 0, 1) := by decide +kernel
theorem dX6_scale_12 : decode cX6_scale 12 = .ok (.iload_n 1, 1) := by decide +kernel
theorem dX6_scale_13 : decode cX6_scale 13 = .ok (.invokevirtual 157, 3) := by decide +kernel
theorem dX6_scale_16 : decode cX6_scale 16 = .ok (.goto 4, 3) := by decide +kernel
theorem dX6_scale_20 : decode cX6_scale 20 = .ok (.istore_n 3, 1) := by decide +kernel
theorem dX6_scale_21 : decode cX6_scale 21 = .ok (.iload_n 3, 1) := by decide +kernel
theorem dX6_scale_22 : decode cX6_scale 22 = .ok (.ifCond .eq 5, 3) := by decide +kernel
theorem dX6_scale_27 : decode cX6_scale 27 = .ok (.aload_n 0, 1) := by decide +kernel
theorem dX6_scale_28 : decode cX6_scale 28 = .ok (.aload_n 0, 1) := by decide +kernel
theorem dX6_scale_29 : decode cX6_scale 29 = .ok (.getfield 25, 3) := by decide +kernel
theorem dX6_scale_32 : decode cX6_scale 32 = .ok (.iload_n 1, 1) := by decide +kernel
theorem dX6_scale_33 : decode cX6_scale 33 = .ok (.aaload, 1) := by decide +kernel
theorem dX6_scale_34 : decode cX6_scale 34 = .ok (.getfield 160, 3) := by decide +kernel
theorem dX6_scale_37 : decode cX6_scale 37 = .ok (.iconst 0, 1) := by decide +kernel
theorem dX6_scale_38 : decode cX6_scale 38 = .ok (.iload_n 2, 1) := by decide +kernel
theorem dX6_scale_39 : decode cX6_scale 39 = .ok (.invokevirtual 246, 3) := by decide +kernel
theorem dX6_scale_42 : decode cX6_scale 42 = .ok (.istore 4, 2) := by decide +kernel
theorem dX6_scale_44 : decode cX6_scale 44 = .ok (.aload_n 0, 1) := by decide +kernel
theorem dX6_scale_45 : decode cX6_scale 45 = .ok (.getfield 25, 3) := by decide +kernel
theorem dX6_scale_48 : decode cX6_scale 48 = .ok (.iload_n 1, 1) := by decide +kernel
theorem dX6_scale_49 : decode cX6_scale 49 = .ok (.aaload, 1) := by decide +kernel
theorem dX6_scale_50 : decode cX6_scale 50 = .ok (.getfield 160, 3) := by decide +kernel
theorem dX6_scale_53 : decode cX6_scale 53 = .ok (.aload_n 0, 1) := by decide +kernel
theorem dX6_scale_54 : decode cX6_scale 54 = .ok (.getfield 10, 3) := by decide +kernel
theorem dX6_scale_57 : decode cX6_scale 57 = .ok (.getfield 93, 3) := by decide +kernel
theorem dX6_scale_60 : decode cX6_scale 60 = .ok (.invokevirtual 163, 3) := by decide +kernel
theorem dX6_scale_63 : decode cX6_scale 63 = .ok (.istore 5, 2) := by decide +kernel
theorem dX6_scale_65 : decode cX6_scale 65 = .ok (.aload_n 0, 1) := by decide +kernel
theorem dX6_scale_66 : decode cX6_scale 66 = .ok (.getfield 10, 3) := by decide +kernel
theorem dX6_scale_69 : decode cX6_scale 69 = .ok (.getfield 105, 3) := by decide +kernel
theorem dX6_scale_72 : decode cX6_scale 72 = .ok (.aload_n 0, 1) := by decide +kernel
theorem dX6_scale_73 : decode cX6_scale 73 = .ok (.getfield 57, 3) := by decide +kernel
theorem dX6_scale_76 : decode cX6_scale 76 = .ok (.getfield 86, 3) := by decide +kernel
theorem dX6_scale_79 : decode cX6_scale 79 = .ok (.isub, 1) := by decide +kernel
theorem dX6_scale_80 : decode cX6_scale 80 = .ok (.iconst 2, 1) := by decide +kernel
theorem dX6_scale_81 : decode cX6_scale 81 = .ok (.imul, 1) := by decide +kernel
theorem dX6_scale_82 : decode cX6_scale 82 = .ok (.iload 4, 2) := by decide +kernel
theorem dX6_scale_84 : decode cX6_scale 84 = .ok (.iload 4, 2) := by decide +kernel
theorem dX6_scale_86 : decode cX6_scale 86 = .ok (.imul, 1) := by decide +kernel
theorem dX6_scale_87 : decode cX6_scale 87 = .ok (.iload 5, 2) := by decide +kernel
theorem dX6_scale_89 : decode cX6_scale 89 = .ok (.imul, 1) := by decide +kernel
theorem dX6_scale_90 : decode cX6_scale 90 = .ok (.sipush 10000, 3) := by decide +kernel
theorem dX6_scale_93 : decode cX6_scale 93 = .ok (.idiv, 1) := by decide +kernel
theorem dX6_scale_94 : decode cX6_scale 94 = .ok (.iadd, 1) := by decide +kernel
theorem dX6_scale_95 : decode cX6_scale 95 = .ok (.ireturn, 1) := by decide +kernel
theorem dX6_scale_25 : decode cX6_scale 25 = .ok (.iload_n 3, 1) := by decide +kernel
theorem dX6_scale_26 : decode cX6_scale 26 = .ok (.ireturn, 1) := by decide +kernel
theorem dX6_scale_19 : decode cX6_scale 19 = .ok (.iconst (-1), 1) := by decide +kernel
set_option maxRecDepth 100000 in
theorem c_X6_scale (l : Launch) (D : va_G) (cy : Nat → Nat) (n : Nat) (ad : Nat → Nat) (F : Nat → va_E) (sz : Nat) (pic : Int32) (sc ps : Scn) (sh : Nat → Shf) (rd : Rdr) (dr : Stg) (fa : Tal) (mi : Crs) (hn : 56 ≤ n) (hX : RX ad cy F pic sc ps sh rd dr fa mi) (d q : Int32) : Met l yX6_scale (zw yX6_scale cX6_scale 6 (some .int)) (rmL 4) (zPc D cy n ad F sz [.ref (ad 0), .int d, .int q]) (va_Qi (fun r F1 => r = zr (bIn q 0 500) (sStR sh d) (sScale (sh (iN d)).2.1 sc q) ∧ ∃ mi1, RX ad cy F1 pic sc ps sh rd dr fa mi1 ∧ fr56 F F1) (zB D n ad) (zA n ad sz)) 0 0 (zA n ad sz) := by
  refine zmet (by decide +kernel) (Nat.le_of_ble_eq_true rfl) (fun p e s m args below meth c ls hC hsz hZ hA hr hlocks hnm hl => ?_)
  have hC : zC p m c cX6_scale 6 s args RX6 D cy := hC
  have hx := hC.1.1
  have hb := hC.1.2.1
  have hl : lv_has ls 6 [(0, .ref (ad 0)), (1, .int d), (2, .int q)] := hl
  refine lv_iload_n hx hb dX6_scale_0 rfl (lv_at hl 2 rfl) ?_
  refine lv_iconst (v := 0) hx hb dX6_scale_1 (by decide) ?_
  refine lv_sipush (v := 500) hx hb dX6_scale_2 (by decide) ?_
  refine zgoi hZ hA (zrunS (As := [.int q, .int 0, .int 500]) (rest := []) hC hZ (c_X6_isWithin l D cy n ad F s.heap.size q 0 500) mX6_isWithin sX6_isWithin kX6_111 (zRj_of rfl) rfl hl.1 rfl (Nat.le_of_ble_eq_true rfl) dX6_scale_5 ⟨Nat.le_refl _, Nat.le_refl _⟩) (fun r_2 F_1 hp_3 H locs hZ => ?_)
  obtain ⟨hp_3, rfl⟩ := hp_3
  by_cases b_4 : bIn q 0 500
  · rw [if_pos b_4] at hp_3
    subst hp_3
    refine lv_if_eq (tgt := 19) hx hb dX6_scale_8 (by decide) (fun h => absurd (show (1 : Int32) = 0 from h) (by decide)) (fun _ => ?_)
    refine lv_aload_n hx hb dX6_scale_11 rfl (lv_at hl 0 rfl) ?_
    refine lv_iload_n hx hb dX6_scale_12 rfl (lv_at hl 1 rfl) ?_
    refine zgoi hZ hA (zrunV (As := [.int d]) (rest := []) (k := 0) hC hZ (c_X6_storyRefusal l D cy n ad F H.size pic sc ps sh rd dr fa mi hn hX d) mX6_storyRefusal vX6_storyRefusal kX6_157 (zRj_of rfl) (zlt hn rfl) hX.1 rfl rfl hl.1 rfl (Nat.le_of_ble_eq_true rfl) dX6_scale_13 ⟨Nat.le_refl _, Nat.le_refl _⟩) (fun r_6 F_5 hp_7 H locs hZ => ?_)
    obtain ⟨rfl, rfl⟩ := hp_7
    refine lv_goto (tgt := 20) hx hb dX6_scale_16 (by decide) ?_
    refine lv_istore_n (lv' := [(3, .int (sStR sh d)), (0, .ref (ad 0)), (1, .int d), (2, .int q)]) hx hb dX6_scale_20 rfl hl (by decide) rfl (fun ls hl => ?_)
    refine lv_iload_n hx hb dX6_scale_21 rfl (lv_at hl 0 rfl) ?_
    refine lv_if_eq (tgt := 27) hx hb dX6_scale_22 (by decide) (fun c_22 => ?_) (fun c_22 => ?_)
    · refine lv_aload_n hx hb dX6_scale_27 rfl (lv_at hl 1 rfl) ?_
      refine lv_aload_n hx hb dX6_scale_28 rfl (lv_at hl 1 rfl) ?_
      refine zget hC hZ fX6_25 (zlt hn rfl) hX.1 rfl dX6_scale_29 ?_
      refine lv_iload_n hx hb dX6_scale_32 rfl (lv_at hl 2 rfl) ?_
      have hs_8 := sStR_0 c_22
      refine zaald hC hZ (zlt hn rfl) hX.2.2.2.1 (C := RX4) rfl hs_8.1.1 hs_8.1.2 (by decide) rfl dX6_scale_33 ?_
      refine zget hC hZ fX6_160 (by have := hs_8.1.2; omega) (hX.2.2.2.2.1 (iN d) hs_8.1.2).1 rfl dX6_scale_34 ?_
      refine lv_iconst (v := 0) hx hb dX6_scale_37 (by decide) ?_
      refine lv_iload_n hx hb dX6_scale_38 rfl (lv_at hl 3 rfl) ?_
      have hq5 := bIn_n (N := 500) b_4 (by decide) rfl
      refine zgoi hZ hA (zrunV (As := [.ref (ad (26 + 3 * (iN d) + 1)), .int 0, .int q]) (rest := []) (k := 0) hC hZ (c_X6_paceBehind l D cy n ad F H.size pic sc ps sh rd dr fa mi hn hX (26 + 3 * (iN d) + 1) ((sh (iN d)).2.1) (by have := hs_8.1.2; omega) (hX.2.2.2.2.1 (iN d) hs_8.1.2).2.1 0 q hq5) mX6_paceBehind vX6_paceBehind kX6_246 (zRj_of rfl) (zlt hn rfl) hX.1 rfl rfl hl.1 rfl (Nat.le_of_ble_eq_true rfl) dX6_scale_39 ⟨Nat.le_refl _, Nat.le_refl _⟩) (fun r_10 F_9 hp_11 H locs hZ => ?_)
      obtain ⟨pb_16, hpb_16⟩ : ∃ y, y = sPB ((sh (iN d)).2.1) sc 0 (iN q) := ⟨_, rfl⟩
      rw [← hpb_16] at hp_11
      obtain ⟨rfl, hX_13, hf_14⟩ := hp_11
      have hf_15 : fr56 F F_9 := fun q hq => (hf_14 q hq).trans (fr56_rf q hq)
      refine lv_istore (lv' := [(4, .int pb_16.2.1), (3, .int (sStR sh d)), (0, .ref (ad 0)), (1, .int d), (2, .int q)]) hx hb dX6_scale_42 hl (by decide) rfl (fun ls hl => ?_)
      refine lv_aload_n hx hb dX6_scale_44 rfl (lv_at hl 2 rfl) ?_
      refine zget hC hZ fX6_25 (zlt hn rfl) hX_13.1 rfl dX6_scale_45 ?_
      refine lv_iload_n hx hb dX6_scale_48 rfl (lv_at hl 3 rfl) ?_
      refine zaald hC hZ (zlt hn rfl) hX_13.2.2.2.1 (C := RX4) rfl hs_8.1.1 hs_8.1.2 (by decide) rfl dX6_scale_49 ?_
      refine zget hC hZ fX6_160 (by have := hs_8.1.2; omega) (hX_13.2.2.2.2.1 (iN d) hs_8.1.2).1 rfl dX6_scale_50 ?_
      refine lv_aload_n hx hb dX6_scale_53 rfl (lv_at hl 2 rfl) ?_
      refine zget hC hZ fX6_10 (zlt hn rfl) hX_13.1 rfl dX6_scale_54 ?_
      refine zget hC hZ fX6_93 (zlt hn rfl) hX_13.2.1.1 rfl dX6_scale_57 ?_
      refine zgoi hZ hA (zrunV (As := [.ref (ad 2)]) (rest := []) (k := 26 + 3 * (iN d) + 1) hC hZ (c_X5_kick l D cy n ad F_9 H.size (26 + 3 * (iN d) + 1) (sh (iN d)).2.1 (by have := hs_8.1.2; omega) (hX_13.2.2.2.2.1 (iN d) hs_8.1.2).2.1 2 sc.1 (zlt hn rfl) hX_13.2.1.2.1) mX5_kick vX5_kick kX6_163 (zRj_of rfl) (by have := hs_8.1.2; omega) (hX_13.2.2.2.2.1 (iN d) hs_8.1.2).2.1 rfl rfl hl.1 rfl (Nat.le_of_ble_eq_true rfl) dX6_scale_60 ⟨Nat.le_refl _, Nat.le_refl _⟩) (fun r_18 F_17 hp_19 H locs hZ => ?_)
      obtain ⟨rfl, rfl⟩ := hp_19
      refine lv_istore (lv' := [(5, .int (sKick (sh (iN d)).2.1 sc.1)), (4, .int pb_16.2.1), (3, .int (sStR sh d)), (0, .ref (ad 0)), (1, .int d), (2, .int q)]) hx hb dX6_scale_63 hl (by decide) rfl (fun ls hl => ?_)
      refine lv_aload_n hx hb dX6_scale_65 rfl (lv_at hl 3 rfl) ?_
      refine zget hC hZ fX6_10 (zlt hn rfl) hX_13.1 rfl dX6_scale_66 ?_
      refine zget hC hZ fX6_105 (zlt hn rfl) hX_13.2.1.1 rfl dX6_scale_69 ?_
      refine lv_aload_n hx hb dX6_scale_72 rfl (lv_at hl 3 rfl) ?_
      refine zget hC hZ fX6_57 (zlt hn rfl) hX_13.1 rfl dX6_scale_73 ?_
      refine zget hC hZ fX6_86 (zlt hn rfl) hX_13.2.2.2.2.2.2.2.2.2 rfl dX6_scale_76 ?_
      refine lv_isub hx hb dX6_scale_79 ?_
      refine lv_iconst (v := 2) hx hb dX6_scale_80 (by decide) ?_
      refine lv_imul hx hb dX6_scale_81 ?_
      refine lv_iload hx hb dX6_scale_82 (lv_at hl 1 rfl) ?_
      refine lv_iload hx hb dX6_scale_84 (lv_at hl 1 rfl) ?_
      refine lv_imul hx hb dX6_scale_86 ?_
      refine lv_iload hx hb dX6_scale_87 (lv_at hl 0 rfl) ?_
      refine lv_imul hx hb dX6_scale_89 ?_
      refine lv_sipush (v := 10000) hx hb dX6_scale_90 (by decide) ?_
      refine lv_idiv hx hb dX6_scale_93 (by decide) ?_
      refine lv_iadd hx hb dX6_scale_94 ?_
      have hv_21 : (((sc.2.1 - pb_16.2.2.2.1) * 2) + (((pb_16.2.1 * pb_16.2.1) * (sKick (sh (iN d)).2.1 sc.1)) / 10000)) = sScale (sh (iN d)).2.1 sc q := by unfold sScale; rw [← hpb_16]
      have hq_20 : (((sc.2.1 - pb_16.2.2.2.1) * 2) + (((pb_16.2.1 * pb_16.2.1) * (sKick (sh (iN d)).2.1 sc.1)) / 10000)) = zr (bIn q 0 500) (sStR sh d) (sScale (sh (iN d)).2.1 sc q) := hv_21.trans (zr_ok b_4 c_22).symm
      exact zireti hC hZ hr hlocks ⟨hq_20, pb_16, hX_13, hf_15⟩ dX6_scale_95
    · refine lv_iload_n hx hb dX6_scale_25 rfl (lv_at hl 0 rfl) ?_
      have hq_22 : (sStR sh d) = zr (bIn q 0 500) (sStR sh d) (sScale (sh (iN d)).2.1 sc q) := (zr_rf b_4 c_22).symm
      exact zireti hC hZ hr hlocks ⟨hq_22, mi, hX, fr56_rf⟩ dX6_scale_26
  · rw [if_neg b_4] at hp_3
    subst hp_3
    refine lv_if_eq (tgt := 19) hx hb dX6_scale_8 (by decide) (fun _ => ?_) (fun h => absurd (show (0 : Int32) = 0 by decide) h)
    refine lv_iconst (v := (-1)) hx hb dX6_scale_19 (by decide) ?_
    refine lv_istore_n (lv' := [(3, .int (-1)), (0, .ref (ad 0)), (1, .int d), (2, .int q)]) hx hb dX6_scale_20 rfl hl (by decide) rfl (fun ls hl => ?_)
    refine lv_iload_n hx hb dX6_scale_21 rfl (lv_at hl 0 rfl) ?_
    refine lv_if_eq (tgt := 27) hx hb dX6_scale_22 (by decide) (fun h => absurd (show (-1 : Int32) = 0 from h) (by decide)) (fun _ => ?_)
    refine lv_iload_n hx hb dX6_scale_25 rfl (lv_at hl 0 rfl) ?_
    have hq_23 : (-1 : Int32) = zr (bIn q 0 500) (sStR sh d) (sScale (sh (iN d)).2.1 sc q) := (zr_no b_4).symm
    exact zireti hC hZ hr hlocks ⟨hq_23, mi, hX, fr56_rf⟩ dX6_scale_26

theorem mX6_rested : zMd yX6_rested cX6_rested 6 (some .int) 1 := ⟨by decide +kernel, gt_of 522 (by decide +kernel) rfl, gt_of 45 (by decide +kernel) rfl, by decide⟩
theorem dX6_rested_0 : decode cX6_rested 0 = .ok (.aload_n 0, 1) := by decide +kernel
theorem dX6_rested_1 : decode cX6_rested 1 = .ok (.iload_n 1, 1) := by decide +kernel
theorem dX6_rested_2 : decode cX6_rested 2 = .ok (.invokevirtual 157, 3) := by decide +kernel
theorem dX6_rested_5 : decode cX6_rested 5 = .ok (.istore_n 2, 1) := by decide +kernel
theorem dX6_rested_6 : decode cX6_rested 6 = .ok (.iload_n 2, 1) := by decide +kernel
theorem dX6_rested_7 : decode cX6_rested 7 = .ok (.ifCond .eq 5, 3) := by decide +kernel
theorem dX6_rested_12 : decode cX6_rested 12 = .ok (.aload_n 0, 1) := by decide +kernel
theorem dX6_rested_13 : decode cX6_rested 13 = .ok (.getfield 57, 3) := by decide +kernel
theorem dX6_rested_16 : decode cX6_rested 16 = .ok (.invokevirtual 181, 3) := by decide +kernel
theorem dX6_rested_19 : decode cX6_rested 19 = .ok (.aload_n 0, 1) := by decide +kernel
theorem dX6_rested_20 : decode cX6_rested 20 = .ok (.getfield 10, 3) := by decide +kernel
theorem dX6_rested_23 : decode cX6_rested 23 = .ok (.aload_n 0, 1) := by decide +kernel
theorem dX6_rested_24 : decode cX6_rested 24 = .ok (.getfield 57, 3) := by decide +kernel
theorem dX6_rested_27 : decode cX6_rested 27 = .ok (.aload_n 0, 1) := by decide +kernel
theorem dX6_rested_28 : decode cX6_rested 28 = .ok (.getfield 25, 3) := by decide +kernel
theorem dX6_rested_31 : decode cX6_rested 31 = .ok (.iload_n 1, 1) := by decide +kernel
theorem dX6_rested_32 : decode cX6_rested 32 = .ok (.aaload, 1) := by decide +kernel
theorem dX6_rested_33 : decode cX6_rested 33 = .ok (.getfield 160, 3) := by decide +kernel
theorem dX6_rested_36 : decode cX6_rested 36 = .ok (.invokevirtual 177, 3) := by decide +kernel
theorem dX6_rested_39 : decode cX6_rested 39 = .ok (.iconst 1, 1) := by decide +kernel
theorem dX6_rested_40 : decode cX6_rested 40 = .ok (.istore_n 3, 1) := by decide +kernel
theorem dX6_rested_41 : decode cX6_rested 41 = .ok (.iload_n 3, 1) := by decide +kernel
theorem dX6_rested_42 : decode cX6_rested 42 = .ok (.sipush 500, 3) := by decide +kernel
theorem dX6_rested_45 : decode cX6_rested 45 = .ok (.if_icmp .gt 73, 3) := by decide +kernel
theorem dX6_rested_118 : decode cX6_rested 118 = .ok (.bipush (-4), 2) := by decide +kernel
theorem dX6_rested_120 : decode cX6_rested 120 = .ok (.ireturn, 1) := by decide +kernel
theorem dX6_rested_48 : decode cX6_rested 48 = .ok (.aload_n 0, 1) := by decide +kernel
theorem dX6_rested_49 : decode cX6_rested 49 = .ok (.getfield 57, 3) := by decide +kernel
theorem dX6_rested_52 : decode cX6_rested 52 = .ok (.getfield 184, 3) := by decide +kernel
theorem dX6_rested_55 : decode cX6_rested 55 = .ok (.istore 4, 2) := by decide +kernel
theorem dX6_rested_57 : decode cX6_rested 57 = .ok (.aload_n 0, 1) := by decide +kernel
theorem dX6_rested_58 : decode cX6_rested 58 = .ok (.getfield 57, 3) := by decide +kernel
theorem dX6_rested_61 : decode cX6_rested 61 = .ok (.getfield 187, 3) := by decide +kernel
theorem dX6_rested_64 : decode cX6_rested 64 = .ok (.istore 5, 2) := by decide +kernel
theorem dX6_rested_66 : decode cX6_rested 66 = .ok (.aload_n 0, 1) := by decide +kernel
theorem dX6_rested_67 : decode cX6_rested 67 = .ok (.getfield 10, 3) := by decide +kernel
theorem dX6_rested_70 : decode cX6_rested 70 = .ok (.aload_n 0, 1) := by decide +kernel
theorem dX6_rested_71 : decode cX6_rested 71 = .ok (.getfield 57, 3) := by decide +kernel
theorem dX6_rested_74 : decode cX6_rested 74 = .ok (.aload_n 0, 1) := by decide +kernel
theorem dX6_rested_75 : decode cX6_rested 75 = .ok (.getfield 25, 3) := by decide +kernel
theorem dX6_rested_78 : decode cX6_rested 78 = .ok (.iload_n 1, 1) := by decide +kernel
theorem dX6_rested_79 : decode cX6_rested 79 = .ok (.aaload, 1) := by decide +kernel
theorem dX6_rested_80 : decode cX6_rested 80 = .ok (.getfield 160, 3) := by decide +kernel
theorem dX6_rested_83 : decode cX6_rested 83 = .ok (.invokevirtual 177, 3) := by decide +kernel
theorem dX6_rested_86 : decode cX6_rested 86 = .ok (.aload_n 0, 1) := by decide +kernel
theorem dX6_rested_87 : decode cX6_rested 87 = .ok (.getfield 57, 3) := by decide +kernel
theorem dX6_rested_90 : decode cX6_rested 90 = .ok (.getfield 184, 3) := by decide +kernel
theorem dX6_rested_93 : decode cX6_rested 93 = .ok (.iload 4, 2) := by decide +kernel
theorem dX6_rested_95 : decode cX6_rested 95 = .ok (.if_icmp .ne 17, 3) := by decide +kernel
theorem dX6_rested_112 : decode cX6_rested 112 = .ok (.iinc 3 1, 3) := by decide +kernel
theorem dX6_rested_115 : decode cX6_rested 115 = .ok (.goto (-74), 3) := by decide +kernel
theorem dX6_rested_98 : decode cX6_rested 98 = .ok (.aload_n 0, 1) := by decide +kernel
theorem dX6_rested_99 : decode cX6_rested 99 = .ok (.getfield 57, 3) := by decide +kernel
theorem dX6_rested_102 : decode cX6_rested 102 = .ok (.getfield 187, 3) := by decide +kernel
theorem dX6_rested_105 : decode cX6_rested 105 = .ok (.iload 5, 2) := by decide +kernel
theorem dX6_rested_107 : decode cX6_rested 107 = .ok (.if_icmp .ne 5, 3) := by decide +kernel
theorem dX6_rested_110 : decode cX6_rested 110 = .ok (.iload_n 3, 1) := by decide +kernel
theorem dX6_rested_111 : decode cX6_rested 111 = .ok (.ireturn, 1) := by decide +kernel
theorem dX6_rested_10 : decode cX6_rested 10 = .ok (.iload_n 2, 1) := by decide +kernel
theorem dX6_rested_11 : decode cX6_rested 11 = .ok (.ireturn, 1) := by decide +kernel
set_option maxRecDepth 100000 in
theorem c_X6_rested (l : Launch) (D : va_G) (cy : Nat → Nat) (n : Nat) (ad : Nat → Nat) (F : Nat → va_E) (sz : Nat) (pic : Int32) (sc ps : Scn) (sh : Nat → Shf) (rd : Rdr) (dr : Stg) (fa : Tal) (mi : Crs) (hn : 56 ≤ n) (hX : RX ad cy F pic sc ps sh rd dr fa mi) (d : Int32) : Met l yX6_rested (zw yX6_rested cX6_rested 6 (some .int)) (rmL 4) (zPc D cy n ad F sz [.ref (ad 0), .int d]) (va_Qi (fun r F1 => r = zr True (sStR sh d) (sRested (sh (iN d)).2.1 sc) ∧ ∃ mi1, RX ad cy F1 pic sc ps sh rd dr fa mi1 ∧ fr56 F F1) (zB D n ad) (zA n ad sz)) 0 0 (zA n ad sz) := by
  refine zmet (by decide +kernel) (Nat.le_of_ble_eq_true rfl) (fun p e s m args below meth c ls hC hsz hZ hA hr hlocks hnm hl => ?_)
  have hC : zC p m c cX6_rested 6 s args RX6 D cy := hC
  have hx := hC.1.1
  have hb := hC.1.2.1
  have hl : lv_has ls 6 [(0, .ref (ad 0)), (1, .int d)] := hl
  refine lv_aload_n hx hb dX6_rested_0 rfl (lv_at hl 0 rfl) ?_
  refine lv_iload_n hx hb dX6_rested_1 rfl (lv_at hl 1 rfl) ?_
  refine zgoi hZ hA (zrunV (As := [.int d]) (rest := []) (k := 0) hC hZ (c_X6_storyRefusal l D cy n ad F s.heap.size pic sc ps sh rd dr fa mi hn hX d) mX6_storyRefusal vX6_storyRefusal kX6_157 (zRj_of rfl) (zlt hn rfl) hX.1 rfl rfl hl.1 rfl (Nat.le_of_ble_eq_true rfl) dX6_rested_2 ⟨Nat.le_refl _, Nat.le_refl _⟩) (fun r_2 F_1 hp_3 H locs hZ => ?_)
  obtain ⟨rfl, rfl⟩ := hp_3
  refine lv_istore_n (lv' := [(2, .int (sStR sh d)), (0, .ref (ad 0)), (1, .int d)]) hx hb dX6_rested_5 rfl hl (by decide) rfl (fun ls hl => ?_)
  refine lv_iload_n hx hb dX6_rested_6 rfl (lv_at hl 0 rfl) ?_
  refine lv_if_eq (tgt := 12) hx hb dX6_rested_7 (by decide) (fun c_7 => ?_) (fun c_7 => ?_)
  · refine lv_aload_n hx hb dX6_rested_12 rfl (lv_at hl 1 rfl) ?_
    refine zget hC hZ fX6_57 (zlt hn rfl) hX.1 rfl dX6_rested_13 ?_
    refine zgov hZ hA (zrunV (As := []) (rest := []) (k := 55) hC hZ (c_X0_clear l D cy n ad F H.size 55 mi (zlt hn rfl) hX.2.2.2.2.2.2.2.2.2) mX0_clear vX0_clear kX6_181 (zRj_of rfl) (zlt hn rfl) hX.2.2.2.2.2.2.2.2.2 rfl rfl hl.1 rfl (Nat.le_of_ble_eq_true rfl) dX6_rested_16 ⟨Nat.le_refl _, Nat.le_refl _⟩) (fun F_4 hp_6 H locs hZ => ?_)
    have hX_7 := rx_mind hX hp_6
    have hf_8 := fr56_up fr56_rf hp_6 (by decide)
    have hX_7 : RX ad cy F_4 pic sc ps sh rd dr fa (0, 0, 0, 0, 0) := hX_7
    refine lv_aload_n hx hb dX6_rested_19 rfl (lv_at hl 1 rfl) ?_
    refine zget hC hZ fX6_10 (zlt hn rfl) hX_7.1 rfl dX6_rested_20 ?_
    refine lv_aload_n hx hb dX6_rested_23 rfl (lv_at hl 1 rfl) ?_
    refine zget hC hZ fX6_57 (zlt hn rfl) hX_7.1 rfl dX6_rested_24 ?_
    refine lv_aload_n hx hb dX6_rested_27 rfl (lv_at hl 1 rfl) ?_
    refine zget hC hZ fX6_25 (zlt hn rfl) hX_7.1 rfl dX6_rested_28 ?_
    refine lv_iload_n hx hb dX6_rested_31 rfl (lv_at hl 2 rfl) ?_
    have hs_9 := sStR_0 c_7
    refine zaald hC hZ (zlt hn rfl) hX_7.2.2.2.1 (C := RX4) rfl hs_9.1.1 hs_9.1.2 (by decide) rfl dX6_rested_32 ?_
    refine zget hC hZ fX6_160 (by have := hs_9.1.2; omega) (hX_7.2.2.2.2.1 (iN d) hs_9.1.2).1 rfl dX6_rested_33 ?_
    refine zgov hZ hA (zrunV (As := [.ref (ad 55), .ref (ad (26 + 3 * (iN d) + 1))]) (rest := []) (k := 1) hC hZ (c_X2_step l D cy n ad F_4 H.size 1 sc (by omega) hX_7.2.1 55 (0, 0, 0, 0, 0) (zlt hn rfl) hX_7.2.2.2.2.2.2.2.2.2 (26 + 3 * (iN d) + 1) (sh (iN d)).2.1 (by have := hs_9.1.2; omega) (hX_7.2.2.2.2.1 (iN d) hs_9.1.2).2.1) mX2_step vX2_step kX6_177 (zRj_of rfl) (zlt hn rfl) hX_7.2.1.1 rfl rfl hl.1 rfl (Nat.le_of_ble_eq_true rfl) dX6_rested_36 ⟨Nat.le_refl _, Nat.le_refl _⟩) (fun F_10 hp_12 H locs hZ => ?_)
    have hX_13 := rx_mind hX_7 hp_12
    have hf_14 := fr56_up hf_8 hp_12 (by decide)
    have hX_13 : RX ad cy F_10 pic sc ps sh rd dr fa (sStep (sKick (sh (iN d)).2.1 sc.1) (sLess (sh (iN d)).2.1 sc.1) sc.1.2.2.2 sc.2.1 (0, 0, 0, 0, 0)) := hX_13
    refine lv_iconst (v := 1) hx hb dX6_rested_39 (by decide) ?_
    refine lv_istore_n (lv' := [(3, .int 1), (2, .int (sStR sh d)), (0, .ref (ad 0)), (1, .int d)]) hx hb dX6_rested_40 rfl hl (by decide) rfl (fun ls hl => ?_)
    refine zlp (X := Nat) 41 (fun _ => []) (fun x ls F1 => lv_has ls 6 [(3, .int (nI (x + 1))), (2, .int (sStR sh d)), (0, .ref (ad 0)), (1, .int d)] ∧ RX ad cy F1 pic sc ps sh rd dr fa (sIt (sF (sh (iN d)).2.1 sc) (x + 1) sCC) ∧ fr56 F F1 ∧ (x ≤ 500) ∧ (zfind (sRestP (sh (iN d)).2.1 sc) (500 - x) (x + 1) = sRested (sh (iN d)).2.1 sc)) (fun x => 500 - x) ?_ 0 hZ ⟨hl, hX_13, hf_14, (Nat.zero_le _), rfl⟩
    intro j ih41 ls F3_41 H locs hZ hφ
    obtain ⟨hl, hXl, hfl41, hj, hT⟩ := hφ
    have hl : lv_has ls 6 [(3, .int (nI (j + 1))), (2, .int (sStR sh d)), (0, .ref (ad 0)), (1, .int d)] := hl
    have hX41 : RX ad cy F3_41 pic sc ps sh rd dr fa (sIt (sF (sh (iN d)).2.1 sc) (j + 1) sCC) := hXl
    have hj : j ≤ 500 := hj
    have hT : zfind (sRestP (sh (iN d)).2.1 sc) (500 - j) (j + 1) = sRested (sh (iN d)).2.1 sc := hT
    refine lv_iload_n hx hb dX6_rested_41 rfl (lv_at hl 0 rfl) ?_
    refine lv_sipush (v := 500) hx hb dX6_rested_42 (by decide) ?_
    refine lv_icmp_gt (tgt := 118) hx hb dX6_rested_45 (by decide) (fun c_45 => ?_) (fun c_45 => ?_)
    · refine lv_bipush (v := (-4)) hx hb dX6_rested_118 (by decide) ?_
      have hj5 : j = 500 := by rcases Nat.lt_or_ge j 500 with h | h; exact absurd c_45 (nI_nlt (a := 500) (b := j + 1) (by omega) (by omega)); omega
      have hv_16 : (-4 : Int32) = sRested (sh (iN d)).2.1 sc := by rw [← hT, hj5]; rfl
      have hq_15 : (-4 : Int32) = zr (True) (sStR sh d) (sRested (sh (iN d)).2.1 sc) := hv_16.trans (zr_ok trivial c_7).symm
      exact zireti hC hZ hr hlocks ⟨hq_15, (sIt (sF (sh (iN d)).2.1 sc) (j + 1) sCC), hX41, hfl41⟩ dX6_rested_120
    · refine lv_aload_n hx hb dX6_rested_48 rfl (lv_at hl 2 rfl) ?_
      refine zget hC hZ fX6_57 (zlt hn rfl) hX41.1 rfl dX6_rested_49 ?_
      refine zget hC hZ fX6_184 (zlt hn rfl) hX41.2.2.2.2.2.2.2.2.2 rfl dX6_rested_52 ?_
      refine lv_istore (lv' := [(4, .int ((sIt (sF (sh (iN d)).2.1 sc) (j + 1) sCC).2.1)), (3, .int (nI (j + 1))), (2, .int (sStR sh d)), (0, .ref (ad 0)), (1, .int d)]) hx hb dX6_rested_55 hl (by decide) rfl (fun ls hl => ?_)
      refine lv_aload_n hx hb dX6_rested_57 rfl (lv_at hl 3 rfl) ?_
      refine zget hC hZ fX6_57 (zlt hn rfl) hX41.1 rfl dX6_rested_58 ?_
      refine zget hC hZ fX6_187 (zlt hn rfl) hX41.2.2.2.2.2.2.2.2.2 rfl dX6_rested_61 ?_
      refine lv_istore (lv' := [(5, .int ((sIt (sF (sh (iN d)).2.1 sc) (j + 1) sCC).2.2.1)), (4, .int ((sIt (sF (sh (iN d)).2.1 sc) (j + 1) sCC).2.1)), (3, .int (nI (j + 1))), (2, .int (sStR sh d)), (0, .ref (ad 0)), (1, .int d)]) hx hb dX6_rested_64 hl (by decide) rfl (fun ls hl => ?_)
      refine lv_aload_n hx hb dX6_rested_66 rfl (lv_at hl 4 rfl) ?_
      refine zget hC hZ fX6_10 (zlt hn rfl) hX41.1 rfl dX6_rested_67 ?_
      refine lv_aload_n hx hb dX6_rested_70 rfl (lv_at hl 4 rfl) ?_
      refine zget hC hZ fX6_57 (zlt hn rfl) hX41.1 rfl dX6_rested_71 ?_
      refine lv_aload_n hx hb dX6_rested_74 rfl (lv_at hl 4 rfl) ?_
      refine zget hC hZ fX6_25 (zlt hn rfl) hX41.1 rfl dX6_rested_75 ?_
      refine lv_iload_n hx hb dX6_rested_78 rfl (lv_at hl 5 rfl) ?_
      refine zaald hC hZ (zlt hn rfl) hX41.2.2.2.1 (C := RX4) rfl hs_9.1.1 hs_9.1.2 (by decide) rfl dX6_rested_79 ?_
      refine zget hC hZ fX6_160 (by have := hs_9.1.2; omega) (hX41.2.2.2.2.1 (iN d) hs_9.1.2).1 rfl dX6_rested_80 ?_
      refine zgov hZ hA (zrunV (As := [.ref (ad 55), .ref (ad (26 + 3 * (iN d) + 1))]) (rest := []) (k := 1) hC hZ (c_X2_step l D cy n ad F3_41 H.size 1 sc (by omega) hX41.2.1 55 (sIt (sF (sh (iN d)).2.1 sc) (j + 1) sCC) (zlt hn rfl) hX41.2.2.2.2.2.2.2.2.2 (26 + 3 * (iN d) + 1) (sh (iN d)).2.1 (by have := hs_9.1.2; omega) (hX41.2.2.2.2.1 (iN d) hs_9.1.2).2.1) mX2_step vX2_step kX6_177 (zRj_of rfl) (zlt hn rfl) hX41.2.1.1 rfl rfl hl.1 rfl (Nat.le_of_ble_eq_true rfl) dX6_rested_83 ⟨Nat.le_refl _, Nat.le_refl _⟩) (fun F_17 hp_19 H locs hZ => ?_)
      have hX_20 := rx_mind hX41 hp_19
      have hf_21 := fr56_up hfl41 hp_19 (by decide)
      have hX_20 : RX ad cy F_17 pic sc ps sh rd dr fa (sStep (sKick (sh (iN d)).2.1 sc.1) (sLess (sh (iN d)).2.1 sc.1) sc.1.2.2.2 sc.2.1 (sIt (sF (sh (iN d)).2.1 sc) (j + 1) sCC)) := hX_20
      refine lv_aload_n hx hb dX6_rested_86 rfl (lv_at hl 4 rfl) ?_
      refine zget hC hZ fX6_57 (zlt hn rfl) hX_20.1 rfl dX6_rested_87 ?_
      refine zget hC hZ fX6_184 (zlt hn rfl) hX_20.2.2.2.2.2.2.2.2.2 rfl dX6_rested_90 ?_
      refine lv_iload hx hb dX6_rested_93 (lv_at hl 1 rfl) ?_
      refine lv_icmp_ne (tgt := 112) hx hb dX6_rested_95 (by decide) (fun c_95 => ?_) (fun c_95 => ?_)
      · refine lv_iinc (v := nI (j + 1 + 1)) (lv' := [(3, .int (nI (j + 1 + 1))), (5, .int ((sIt (sF (sh (iN d)).2.1 sc) (j + 1) sCC).2.2.1)), (4, .int ((sIt (sF (sh (iN d)).2.1 sc) (j + 1) sCC).2.1)), (2, .int (sStR sh d)), (0, .ref (ad 0)), (1, .int d)]) hx hb dX6_rested_112 hl (k := 2) rfl (nI_1 (j + 1)) (by decide) rfl (fun ls hl => ?_)
        refine lv_goto (tgt := 41) hx hb dX6_rested_115 (by decide) ?_
        have hlt : j < 500 := by rcases Nat.lt_or_ge j 500 with h | h; exact h; exact absurd (nI_lt (a := 500) (b := j + 1) (by omega) (by omega)) c_45
        have hnx := zfind_next (P := sRestP (sh (iN d)).2.1 sc) (f := 500 - (j + 1)) (g := 500 - j) (i := j + 1) (by omega) (fun h => c_95 (of_decide_eq_true h).1)
        exact ih41 (j + 1) ls _ H locs (by show 500 - (j + 1) < 500 - j; omega) hZ ⟨(lv_sub hl [0, 3, 4, 5] rfl), hX_20, hf_21, hlt, (hnx.symm.trans hT)⟩
      · refine lv_aload_n hx hb dX6_rested_98 rfl (lv_at hl 4 rfl) ?_
        refine zget hC hZ fX6_57 (zlt hn rfl) hX_20.1 rfl dX6_rested_99 ?_
        refine zget hC hZ fX6_187 (zlt hn rfl) hX_20.2.2.2.2.2.2.2.2.2 rfl dX6_rested_102 ?_
        refine lv_iload hx hb dX6_rested_105 (lv_at hl 0 rfl) ?_
        refine lv_icmp_ne (tgt := 112) hx hb dX6_rested_107 (by decide) (fun c_107 => ?_) (fun c_107 => ?_)
        · refine lv_iinc (v := nI (j + 1 + 1)) (lv' := [(3, .int (nI (j + 1 + 1))), (5, .int ((sIt (sF (sh (iN d)).2.1 sc) (j + 1) sCC).2.2.1)), (4, .int ((sIt (sF (sh (iN d)).2.1 sc) (j + 1) sCC).2.1)), (2, .int (sStR sh d)), (0, .ref (ad 0)), (1, .int d)]) hx hb dX6_rested_112 hl (k := 2) rfl (nI_1 (j + 1)) (by decide) rfl (fun ls hl => ?_)
          refine lv_goto (tgt := 41) hx hb dX6_rested_115 (by decide) ?_
          have hlt : j < 500 := by rcases Nat.lt_or_ge j 500 with h | h; exact h; exact absurd (nI_lt (a := 500) (b := j + 1) (by omega) (by omega)) c_45
          have hnx := zfind_next (P := sRestP (sh (iN d)).2.1 sc) (f := 500 - (j + 1)) (g := 500 - j) (i := j + 1) (by omega) (fun h => c_107 (of_decide_eq_true h).2)
          exact ih41 (j + 1) ls _ H locs (by show 500 - (j + 1) < 500 - j; omega) hZ ⟨(lv_sub hl [0, 3, 4, 5] rfl), hX_20, hf_21, hlt, (hnx.symm.trans hT)⟩
        · refine lv_iload_n hx hb dX6_rested_110 rfl (lv_at hl 2 rfl) ?_
          have hlt : j < 500 := by rcases Nat.lt_or_ge j 500 with h | h; exact h; exact absurd (nI_lt (a := 500) (b := j + 1) (by omega) (by omega)) c_45
          have hv_23 : nI (j + 1) = sRested (sh (iN d)).2.1 sc := by rw [← hT]; exact (zfind_hit (f := 500 - (j + 1)) (by omega) (decide_eq_true ⟨c_95, c_107⟩)).symm
          have hq_22 : nI (j + 1) = zr (True) (sStR sh d) (sRested (sh (iN d)).2.1 sc) := hv_23.trans (zr_ok trivial c_7).symm
          exact zireti hC hZ hr hlocks ⟨hq_22, (sStep (sKick (sh (iN d)).2.1 sc.1) (sLess (sh (iN d)).2.1 sc.1) sc.1.2.2.2 sc.2.1 (sIt (sF (sh (iN d)).2.1 sc) (j + 1) sCC)), hX_20, hf_21⟩ dX6_rested_111
  · refine lv_iload_n hx hb dX6_rested_10 rfl (lv_at hl 0 rfl) ?_
    have hq_24 : (sStR sh d) = zr (True) (sStR sh d) (sRested (sh (iN d)).2.1 sc) := (zr_rf trivial c_7).symm
    exact zireti hC hZ hr hlocks ⟨hq_24, mi, hX, fr56_rf⟩ dX6_rested_11

theorem mX6_when : zMd yX6_when cX6_when 4 (some .int) 1 := ⟨by decide +kernel, gt_of 526 (by decide +kernel) rfl, gt_of 45 (by decide +kernel) rfl, by decide⟩
theorem dX6_when_0 : decode cX6_when 0 = .ok (.aload_n 0, 1) := by decide +kernel
theorem dX6_when_1 : decode cX6_when 1 = .ok (.iload_n 1, 1) := by decide +kernel
theorem dX6_when_2 : decode cX6_when 2 = .ok (.invokevirtual 157, 3) := by decide +kernel
theorem dX6_when_5 : decode cX6_when 5 = .ok (.istore_n 2, 1) := by decide +kernel
theorem dX6_when_6 : decode cX6_when 6 = .ok (.iload_n 2, 1) := by decide +kernel
theorem dX6_when_7 : decode cX6_when 7 = .ok (.ifCond .eq 5, 3) := by decide +kernel
theorem dX6_when_12 : decode cX6_when 12 = .ok (.aload_n 0, 1) := by decide +kernel
theorem dX6_when_13 : decode cX6_when 13 = .ok (.getfield 57, 3) := by decide +kernel
theorem dX6_when_16 : decode cX6_when 16 = .ok (.invokevirtual 181, 3) := by decide +kernel
theorem dX6_when_19 : decode cX6_when 19 = .ok (.iconst 1, 1) := by decide +kernel
theorem dX6_when_20 : decode cX6_when 20 = .ok (.istore_n 3, 1) := by decide +kernel
theorem dX6_when_21 : decode cX6_when 21 = .ok (.iload_n 3, 1) := by decide +kernel
theorem dX6_when_22 : decode cX6_when 22 = .ok (.sipush 2000, 3) := by decide +kernel
theorem dX6_when_25 : decode cX6_when 25 = .ok (.if_icmp .gt 48, 3) := by decide +kernel
theorem dX6_when_73 : decode cX6_when 73 = .ok (.bipush (-4), 2) := by decide +kernel
theorem dX6_when_75 : decode cX6_when 75 = .ok (.ireturn, 1) := by decide +kernel
theorem dX6_when_28 : decode cX6_when 28 = .ok (.aload_n 0, 1) := by decide +kernel
theorem dX6_when_29 : decode cX6_when 29 = .ok (.getfield 10, 3) := by decide +kernel
theorem dX6_when_32 : decode cX6_when 32 = .ok (.aload_n 0, 1) := by decide +kernel
theorem dX6_when_33 : decode cX6_when 33 = .ok (.getfield 57, 3) := by decide +kernel
theorem dX6_when_36 : decode cX6_when 36 = .ok (.aload_n 0, 1) := by decide +kernel
theorem dX6_when_37 : decode cX6_when 37 = .ok (.getfield 25, 3) := by decide +kernel
theorem dX6_when_40 : decode cX6_when 40 = .ok (.iload_n 1, 1) := by decide +kernel
theorem dX6_when_41 : decode cX6_when 41 = .ok (.aaload, 1) := by decide +kernel
theorem dX6_when_42 : decode cX6_when 42 = .ok (.getfield 160, 3) := by decide +kernel
theorem dX6_when_45 : decode cX6_when 45 = .ok (.invokevirtual 177, 3) := by decide +kernel
theorem dX6_when_48 : decode cX6_when 48 = .ok (.aload_n 0, 1) := by decide +kernel
theorem dX6_when_49 : decode cX6_when 49 = .ok (.getfield 57, 3) := by decide +kernel
theorem dX6_when_52 : decode cX6_when 52 = .ok (.getfield 86, 3) := by decide +kernel
theorem dX6_when_55 : decode cX6_when 55 = .ok (.aload_n 0, 1) := by decide +kernel
theorem dX6_when_56 : decode cX6_when 56 = .ok (.getfield 10, 3) := by decide +kernel
theorem dX6_when_59 : decode cX6_when 59 = .ok (.getfield 105, 3) := by decide +kernel
theorem dX6_when_62 : decode cX6_when 62 = .ok (.if_icmp .lt 5, 3) := by decide +kernel
theorem dX6_when_67 : decode cX6_when 67 = .ok (.iinc 3 1, 3) := by decide +kernel
theorem dX6_when_70 : decode cX6_when 70 = .ok (.goto (-49), 3) := by decide +kernel
theorem dX6_when_65 : decode cX6_when 65 = .ok (.iload_n 3, 1) := by decide +kernel
theorem dX6_when_66 : decode cX6_when 66 = .ok (.ireturn, 1) := by decide +kernel
theorem dX6_when_10 : decode cX6_when 10 = .ok (.iload_n 2, 1) := by decide +kernel
theorem dX6_when_11 : decode cX6_when 11 = .ok (.ireturn, 1) := by decide +kernel
set_option maxRecDepth 100000 in
theorem c_X6_when (l : Launch) (D : va_G) (cy : Nat → Nat) (n : Nat) (ad : Nat → Nat) (F : Nat → va_E) (sz : Nat) (pic : Int32) (sc ps : Scn) (sh : Nat → Shf) (rd : Rdr) (dr : Stg) (fa : Tal) (mi : Crs) (hn : 56 ≤ n) (hX : RX ad cy F pic sc ps sh rd dr fa mi) (d : Int32) : Met l yX6_when (zw yX6_when cX6_when 4 (some .int)) (rmL 4) (zPc D cy n ad F sz [.ref (ad 0), .int d]) (va_Qi (fun r F1 => r = zr True (sStR sh d) (sWhen (sh (iN d)).2.1 sc) ∧ ∃ mi1, RX ad cy F1 pic sc ps sh rd dr fa mi1 ∧ fr56 F F1) (zB D n ad) (zA n ad sz)) 0 0 (zA n ad sz) := by
  refine zmet (by decide +kernel) (Nat.le_of_ble_eq_true rfl) (fun p e s m args below meth c ls hC hsz hZ hA hr hlocks hnm hl => ?_)
  have hC : zC p m c cX6_when 4 s args RX6 D cy := hC
  have hx := hC.1.1
  have hb := hC.1.2.1
  have hl : lv_has ls 4 [(0, .ref (ad 0)), (1, .int d)] := hl
  refine lv_aload_n hx hb dX6_when_0 rfl (lv_at hl 0 rfl) ?_
  refine lv_iload_n hx hb dX6_when_1 rfl (lv_at hl 1 rfl) ?_
  refine zgoi hZ hA (zrunV (As := [.int d]) (rest := []) (k := 0) hC hZ (c_X6_storyRefusal l D cy n ad F s.heap.size pic sc ps sh rd dr fa mi hn hX d) mX6_storyRefusal vX6_storyRefusal kX6_157 (zRj_of rfl) (zlt hn rfl) hX.1 rfl rfl hl.1 rfl (Nat.le_of_ble_eq_true rfl) dX6_when_2 ⟨Nat.le_refl _, Nat.le_refl _⟩) (fun r_2 F_1 hp_3 H locs hZ => ?_)
  obtain ⟨rfl, rfl⟩ := hp_3
  refine lv_istore_n (lv' := [(2, .int (sStR sh d)), (0, .ref (ad 0)), (1, .int d)]) hx hb dX6_when_5 rfl hl (by decide) rfl (fun ls hl => ?_)
  refine lv_iload_n hx hb dX6_when_6 rfl (lv_at hl 0 rfl) ?_
  refine lv_if_eq (tgt := 12) hx hb dX6_when_7 (by decide) (fun c_7 => ?_) (fun c_7 => ?_)
  · refine lv_aload_n hx hb dX6_when_12 rfl (lv_at hl 1 rfl) ?_
    refine zget hC hZ fX6_57 (zlt hn rfl) hX.1 rfl dX6_when_13 ?_
    refine zgov hZ hA (zrunV (As := []) (rest := []) (k := 55) hC hZ (c_X0_clear l D cy n ad F H.size 55 mi (zlt hn rfl) hX.2.2.2.2.2.2.2.2.2) mX0_clear vX0_clear kX6_181 (zRj_of rfl) (zlt hn rfl) hX.2.2.2.2.2.2.2.2.2 rfl rfl hl.1 rfl (Nat.le_of_ble_eq_true rfl) dX6_when_16 ⟨Nat.le_refl _, Nat.le_refl _⟩) (fun F_4 hp_6 H locs hZ => ?_)
    have hX_7 := rx_mind hX hp_6
    have hf_8 := fr56_up fr56_rf hp_6 (by decide)
    have hX_7 : RX ad cy F_4 pic sc ps sh rd dr fa (0, 0, 0, 0, 0) := hX_7
    refine lv_iconst (v := 1) hx hb dX6_when_19 (by decide) ?_
    refine lv_istore_n (lv' := [(3, .int 1), (2, .int (sStR sh d)), (0, .ref (ad 0)), (1, .int d)]) hx hb dX6_when_20 rfl hl (by decide) rfl (fun ls hl => ?_)
    refine zlp (X := Nat) 21 (fun _ => []) (fun x ls F1 => lv_has ls 4 [(3, .int (nI (x + 1))), (2, .int (sStR sh d)), (0, .ref (ad 0)), (1, .int d)] ∧ RX ad cy F1 pic sc ps sh rd dr fa (sIt (sF (sh (iN d)).2.1 sc) x sCC) ∧ fr56 F F1 ∧ (x ≤ 2000) ∧ (zfind (sWhenP (sh (iN d)).2.1 sc) (2000 - x) (x + 1) = sWhen (sh (iN d)).2.1 sc)) (fun x => 2000 - x) ?_ 0 hZ ⟨hl, hX_7, hf_8, (Nat.zero_le _), rfl⟩
    intro j ih21 ls F3_21 H locs hZ hφ
    obtain ⟨hl, hXl, hfl21, hj, hT⟩ := hφ
    have hl : lv_has ls 4 [(3, .int (nI (j + 1))), (2, .int (sStR sh d)), (0, .ref (ad 0)), (1, .int d)] := hl
    have hX21 : RX ad cy F3_21 pic sc ps sh rd dr fa (sIt (sF (sh (iN d)).2.1 sc) j sCC) := hXl
    have hj : j ≤ 2000 := hj
    have hT : zfind (sWhenP (sh (iN d)).2.1 sc) (2000 - j) (j + 1) = sWhen (sh (iN d)).2.1 sc := hT
    refine lv_iload_n hx hb dX6_when_21 rfl (lv_at hl 0 rfl) ?_
    refine lv_sipush (v := 2000) hx hb dX6_when_22 (by decide) ?_
    refine lv_icmp_gt (tgt := 73) hx hb dX6_when_25 (by decide) (fun c_25 => ?_) (fun c_25 => ?_)
    · refine lv_bipush (v := (-4)) hx hb dX6_when_73 (by decide) ?_
      have hj5 : j = 2000 := by rcases Nat.lt_or_ge j 2000 with h | h; exact absurd c_25 (nI_nlt (a := 2000) (b := j + 1) (by omega) (by omega)); omega
      have hv_10 : (-4 : Int32) = sWhen (sh (iN d)).2.1 sc := by rw [← hT, hj5]; rfl
      have hq_9 : (-4 : Int32) = zr (True) (sStR sh d) (sWhen (sh (iN d)).2.1 sc) := hv_10.trans (zr_ok trivial c_7).symm
      exact zireti hC hZ hr hlocks ⟨hq_9, (sIt (sF (sh (iN d)).2.1 sc) j sCC), hX21, hfl21⟩ dX6_when_75
    · refine lv_aload_n hx hb dX6_when_28 rfl (lv_at hl 2 rfl) ?_
      refine zget hC hZ fX6_10 (zlt hn rfl) hX21.1 rfl dX6_when_29 ?_
      refine lv_aload_n hx hb dX6_when_32 rfl (lv_at hl 2 rfl) ?_
      refine zget hC hZ fX6_57 (zlt hn rfl) hX21.1 rfl dX6_when_33 ?_
      refine lv_aload_n hx hb dX6_when_36 rfl (lv_at hl 2 rfl) ?_
      refine zget hC hZ fX6_25 (zlt hn rfl) hX21.1 rfl dX6_when_37 ?_
      refine lv_iload_n hx hb dX6_when_40 rfl (lv_at hl 3 rfl) ?_
      have hs_11 := sStR_0 c_7
      refine zaald hC hZ (zlt hn rfl) hX21.2.2.2.1 (C := RX4) rfl hs_11.1.1 hs_11.1.2 (by decide) rfl dX6_when_41 ?_
      refine zget hC hZ fX6_160 (by have := hs_11.1.2; omega) (hX21.2.2.2.2.1 (iN d) hs_11.1.2).1 rfl dX6_when_42 ?_
      refine zgov hZ hA (zrunV (As := [.ref (ad 55), .ref (ad (26 + 3 * (iN d) + 1))]) (rest := []) (k := 1) hC hZ (c_X2_step l D cy n ad F3_21 H.size 1 sc (by omega) hX21.2.1 55 (sIt (sF (sh (iN d)).2.1 sc) j sCC) (zlt hn rfl) hX21.2.2.2.2.2.2.2.2.2 (26 + 3 * (iN d) + 1) (sh (iN d)).2.1 (by have := hs_11.1.2; omega) (hX21.2.2.2.2.1 (iN d) hs_11.1.2).2.1) mX2_step vX2_step kX6_177 (zRj_of rfl) (zlt hn rfl) hX21.2.1.1 rfl rfl hl.1 rfl (Nat.le_of_ble_eq_true rfl) dX6_when_45 ⟨Nat.le_refl _, Nat.le_refl _⟩) (fun F_12 hp_14 H locs hZ => ?_)
      have hX_15 := rx_mind hX21 hp_14
      have hf_16 := fr56_up hfl21 hp_14 (by decide)
      have hX_15 : RX ad cy F_12 pic sc ps sh rd dr fa (sStep (sKick (sh (iN d)).2.1 sc.1) (sLess (sh (iN d)).2.1 sc.1) sc.1.2.2.2 sc.2.1 (sIt (sF (sh (iN d)).2.1 sc) j sCC)) := hX_15
      refine lv_aload_n hx hb dX6_when_48 rfl (lv_at hl 2 rfl) ?_
      refine zget hC hZ fX6_57 (zlt hn rfl) hX_15.1 rfl dX6_when_49 ?_
      refine zget hC hZ fX6_86 (zlt hn rfl) hX_15.2.2.2.2.2.2.2.2.2 rfl dX6_when_52 ?_
      refine lv_aload_n hx hb dX6_when_55 rfl (lv_at hl 2 rfl) ?_
      refine zget hC hZ fX6_10 (zlt hn rfl) hX_15.1 rfl dX6_when_56 ?_
      refine zget hC hZ fX6_105 (zlt hn rfl) hX_15.2.1.1 rfl dX6_when_59 ?_
      refine lv_icmp_lt (tgt := 67) hx hb dX6_when_62 (by decide) (fun c_62 => ?_) (fun c_62 => ?_)
      · refine lv_iinc (v := nI (j + 1 + 1)) (lv' := [(3, .int (nI (j + 1 + 1))), (2, .int (sStR sh d)), (0, .ref (ad 0)), (1, .int d)]) hx hb dX6_when_67 hl (k := 0) rfl (nI_1 (j + 1)) (by decide) rfl (fun ls hl => ?_)
        refine lv_goto (tgt := 21) hx hb dX6_when_70 (by decide) ?_
        have hlt : j < 2000 := by rcases Nat.lt_or_ge j 2000 with h | h; exact h; exact absurd (nI_lt (a := 2000) (b := j + 1) (by omega) (by omega)) c_25
        have hnx := zfind_next (P := sWhenP (sh (iN d)).2.1 sc) (f := 2000 - (j + 1)) (g := 2000 - j) (i := j + 1) (by omega) (fun h => absurd (of_decide_eq_true h) (Int32.not_le.mpr c_62))
        exact ih21 (j + 1) ls _ H locs (by show 2000 - (j + 1) < 2000 - j; omega) hZ ⟨hl, hX_15, hf_16, hlt, (hnx.symm.trans hT)⟩
      · refine lv_iload_n hx hb dX6_when_65 rfl (lv_at hl 0 rfl) ?_
        have hlt : j < 2000 := by rcases Nat.lt_or_ge j 2000 with h | h; exact h; exact absurd (nI_lt (a := 2000) (b := j + 1) (by omega) (by omega)) c_25
        have hv_18 : nI (j + 1) = sWhen (sh (iN d)).2.1 sc := by rw [← hT]; exact (zfind_hit (f := 2000 - (j + 1)) (by omega) (decide_eq_true (Int32.not_lt.mp c_62))).symm
        have hq_17 : nI (j + 1) = zr (True) (sStR sh d) (sWhen (sh (iN d)).2.1 sc) := hv_18.trans (zr_ok trivial c_7).symm
        exact zireti hC hZ hr hlocks ⟨hq_17, (sStep (sKick (sh (iN d)).2.1 sc.1) (sLess (sh (iN d)).2.1 sc.1) sc.1.2.2.2 sc.2.1 (sIt (sF (sh (iN d)).2.1 sc) j sCC)), hX_15, hf_16⟩ dX6_when_66
  · refine lv_iload_n hx hb dX6_when_10 rfl (lv_at hl 0 rfl) ?_
    have hq_19 : (sStR sh d) = zr (True) (sStR sh d) (sWhen (sh (iN d)).2.1 sc) := (zr_rf trivial c_7).symm
    exact zireti hC hZ hr hlocks ⟨hq_19, mi, hX, fr56_rf⟩ dX6_when_11
