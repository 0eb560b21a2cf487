theorem mX6_greatestShared : zMd yX6_greatestShared cX6_greatestShared 3 (some .int) 2 := ⟨by decide +kernel, gt_of 436 (by decide +kernel) rfl, gt_of 45 (by decide +kernel) rfl, by decide⟩
theorem dX6_greatestShared_0 : decode cX6_greatestShared 0 = .ok (.iload_n 0, 1) := by decide +kernel
theorem dX6_greatestShared_1 : decode cX6_greatestShared 1 = .ok (.istore_n 2, 1) := by decide +kernel
theorem dX6_greatestShared_2 : decode cX6_greatestShared 2 = .ok (.iload_n 2, 1) := by decide +kernel
theorem dX6_greatestShared_3 : decode cX6_greatestShared 3 = .ok (.iconst 1, 1) := by decide +kernel
theorem dX6_greatestShared_4 : decode cX6_greatestShared 4 = .ok (.if_icmp .le 23, 3) := by decide +kernel
theorem dX6_greatestShared_27 : decode cX6_greatestShared 27 = .ok (.iconst 1, 1) := by decide +kernel
theorem dX6_greatestShared_28 : decode cX6_greatestShared 28 = .ok (.ireturn, 1) := by decide +kernel
theorem dX6_greatestShared_7 : decode cX6_greatestShared 7 = .ok (.iload_n 0, 1) := by decide +kernel
theorem dX6_greatestShared_8 : decode cX6_greatestShared 8 = .ok (.iload_n 2, 1) := by decide +kernel
theorem dX6_greatestShared_9 : decode cX6_greatestShared 9 = .ok (.irem, 1) := by decide +kernel
theorem dX6_greatestShared_10 : decode cX6_greatestShared 10 = .ok (.ifCond .ne 11, 3) := by decide +kernel
theorem dX6_greatestShared_21 : decode cX6_greatestShared 21 = .ok (.iinc 2 (-1), 3) := by decide +kernel
theorem dX6_greatestShared_24 : decode cX6_greatestShared 24 = .ok (.goto (-22), 3) := by decide +kernel
theorem dX6_greatestShared_13 : decode cX6_greatestShared 13 = .ok (.iload_n 1, 1) := by decide +kernel
theorem dX6_greatestShared_14 : decode cX6_greatestShared 14 = .ok (.iload_n 2, 1) := by decide +kernel
theorem dX6_greatestShared_15 : decode cX6_greatestShared 15 = .ok (.irem, 1) := by decide +kernel
theorem dX6_greatestShared_16 : decode cX6_greatestShared 16 = .ok (.ifCond .ne 5, 3) := by decide +kernel
theorem dX6_greatestShared_19 : decode cX6_greatestShared 19 = .ok (.iload_n 2, 1) := by decide +kernel
theorem dX6_greatestShared_20 : decode cX6_greatestShared 20 = .ok (.ireturn, 1) := by decide +kernel
set_option maxRecDepth 100000 in
theorem c_X6_greatestShared (l : Launch) (D : va_G) (cy : Nat → Nat) (n : Nat) (ad : Nat → Nat) (F : Nat → va_E) (sz : Nat) (ka : Nat) (hka : ka ≤ 1000) (b : Int32) : Met l yX6_greatestShared (zw yX6_greatestShared cX6_greatestShared 3 (some .int)) (rmL 0) (zPc D cy n ad F sz [.int (nI ka), .int b]) (va_Qi (fun r F1 => r = sGS (nI ka) b ka ∧ F = F1) (zB D n ad) (zA n ad sz)) 0 0 (zA n ad sz) := by
  refine zmet (by decide +kernel) (Nat.le_of_ble_eq_true rfl) (fun p e s m args below meth c ls hC hsz hZ hA hr hlocks hnm hl => ?_)
  have hC : zC p m c cX6_greatestShared 3 s args RX6 D cy := hC
  have hx := hC.1.1
  have hb := hC.1.2.1
  have hl : lv_has ls 3 [(0, .int (nI ka)), (1, .int b)] := hl
  refine lv_iload_n hx hb dX6_greatestShared_0 rfl (lv_at hl 0 rfl) ?_
  refine lv_istore_n (lv' := [(2, .int (nI ka)), (0, .int (nI ka)), (1, .int b)]) hx hb dX6_greatestShared_1 rfl hl (by decide) rfl (fun ls hl => ?_)
  refine zlp (X := Nat) 2 (fun _ => []) (fun x ls F1 => x ≤ ka ∧ lv_has ls 3 [(2, .int (nI x)), (0, .int (nI ka)), (1, .int b)] ∧ sGS (nI ka) b x = sGS (nI ka) b ka ∧ F = F1) (fun x => x) ?_ ka hZ ⟨by omega, hl, rfl, rfl⟩
  intro x ih ls F3 H locs hZ hφ
  obtain ⟨hxk, hl, hG, rfl⟩ := hφ
  refine lv_iload_n hx hb dX6_greatestShared_2 rfl (lv_at hl 0 rfl) ?_
  refine lv_iconst (v := 1) hx hb dX6_greatestShared_3 (by decide) ?_
  refine lv_icmp_le (tgt := 27) hx hb dX6_greatestShared_4 (by decide) (fun c_4 => ?_) (fun c_4 => ?_)
  · refine lv_iconst (v := 1) hx hb dX6_greatestShared_27 (by decide) ?_
    have hq : (1 : Int32) = sGS (nI ka) b ka := by rw [← hG, sGS_1 _ _ (nI_le1 (by omega) c_4)]
    exact zireti hC hZ hr hlocks ⟨hq, rfl⟩ dX6_greatestShared_28
  · have hx2 := nI_2le (by omega) c_4
    obtain ⟨mm, hmm⟩ : ∃ mm, x = mm + 1 := ⟨x - 1, by omega⟩
    refine lv_iload_n hx hb dX6_greatestShared_7 rfl (lv_at hl 1 rfl) ?_
    refine lv_iload_n hx hb dX6_greatestShared_8 rfl (lv_at hl 0 rfl) ?_
    refine lv_irem hx hb dX6_greatestShared_9 (nI_ne0 (by omega) (by omega)) ?_
    refine lv_if_ne (tgt := 21) hx hb dX6_greatestShared_10 (by decide) (fun c_10 => ?_) (fun c_10 => ?_)
    · refine lv_iinc (v := nI mm) (lv' := [(2, .int (nI mm)), (0, .int (nI ka)), (1, .int b)]) hx hb dX6_greatestShared_21 hl (k := 0) rfl (by rw [hmm]; exact pk_m1 mm) (by decide) rfl (fun ls hl => ?_)
      refine lv_goto (tgt := 2) hx hb dX6_greatestShared_24 (by decide) ?_
      exact ih mm ls _ H locs (by omega) hZ ⟨by omega, hl, (sGS_next hmm (fun h => c_10 h.1)).trans hG, rfl⟩
    · refine lv_iload_n hx hb dX6_greatestShared_13 rfl (lv_at hl 2 rfl) ?_
      refine lv_iload_n hx hb dX6_greatestShared_14 rfl (lv_at hl 0 rfl) ?_
      refine lv_irem hx hb dX6_greatestShared_15 (nI_ne0 (by omega) (by omega)) ?_
      refine lv_if_ne (tgt := 21) hx hb dX6_greatestShared_16 (by decide) (fun c_16 => ?_) (fun c_16 => ?_)
      · refine lv_iinc (v := nI mm) (lv' := [(2, .int (nI mm)), (0, .int (nI ka)), (1, .int b)]) hx hb dX6_greatestShared_21 hl (k := 0) rfl (by rw [hmm]; exact pk_m1 mm) (by decide) rfl (fun ls hl => ?_)
        refine lv_goto (tgt := 2) hx hb dX6_greatestShared_24 (by decide) ?_
        exact ih mm ls _ H locs (by omega) hZ ⟨by omega, hl, (sGS_next hmm (fun h => c_16 h.2)).trans hG, rfl⟩
      · refine lv_iload_n hx hb dX6_greatestShared_19 rfl (lv_at hl 0 rfl) ?_
        have hq : nI x = sGS (nI ka) b ka := (sGS_hit hmm hx2 c_10 c_16).trans hG
        exact zireti hC hZ hr hlocks ⟨hq, rfl⟩ dX6_greatestShared_20

theorem mX6_rests : zMd yX6_rests cX6_rests 7 (some .int) 2 := ⟨by decide +kernel, gt_of 432 (by decide +kernel) rfl, gt_of 45 (by decide +kernel) rfl, by decide⟩
theorem dX6_rests_0 : decode cX6_rests 0 = .ok (.iload_n 2, 1) := by decide +kernel
theorem dX6_rests_1 : decode cX6_rests 1 = .ok (.iconst 0, 1) := by decide +kernel
theorem dX6_rests_2 : decode cX6_rests 2 = .ok (.iconst 1, 1) := by decide +kernel
theorem dX6_rests_3 : decode cX6_rests 3 = .ok (.invokestatic 111, 3) := by decide +kernel
theorem dX6_rests_6 : decode cX6_rests 6 = .ok (.ifCond .eq 11, 3) := by decide +kernel
theorem dX6_rests_9 : decode cX6_rests 9 = .ok (.aload_n 0, 1) := by decide +kernel
theorem dX6_rests_10 : decode cX6_rests 10 = .ok (.iload_n 1, 1) := by decide +kernel
theorem dX6_rests_11 : decode cX6_rests 11 = .ok (.invokevirtual 157, 3) := by decide +kernel
theorem dX6_rests_14 : decode cX6_rests 14 = .ok (.goto 4, 3) := by decide +kernel
theorem dX6_rests_18 : decode cX6_rests 18 = .ok (.istore_n 3, 1) := by decide +kernel
theorem dX6_rests_19 : decode cX6_rests 19 = .ok (.iload_n 3, 1) := by decide +kernel
theorem dX6_rests_20 : decode cX6_rests 20 = .ok (.ifCond .eq 5, 3) := by decide +kernel
theorem dX6_rests_25 : decode cX6_rests 25 = .ok (.aload_n 0, 1) := by decide +kernel
theorem dX6_rests_26 : decode cX6_rests 26 = .ok (.getfield 25, 3) := by decide +kernel
theorem dX6_rests_29 : decode cX6_rests 29 = .ok (.iload_n 1, 1) := by decide +kernel
theorem dX6_rests_30 : decode cX6_rests 30 = .ok (.aaload, 1) := by decide +kernel
theorem dX6_rests_31 : decode cX6_rests 31 = .ok (.getfield 160, 3) := by decide +kernel
theorem dX6_rests_34 : decode cX6_rests 34 = .ok (.aload_n 0, 1) := by decide +kernel
theorem dX6_rests_35 : decode cX6_rests 35 = .ok (.getfield 10, 3) := by decide +kernel
theorem dX6_rests_38 : decode cX6_rests 38 = .ok (.getfield 93, 3) := by decide +kernel
theorem dX6_rests_41 : decode cX6_rests 41 = .ok (.invokevirtual 163, 3) := by decide +kernel
theorem dX6_rests_44 : decode cX6_rests 44 = .ok (.istore 4, 2) := by decide +kernel
theorem dX6_rests_46 : decode cX6_rests 46 = .ok (.aload_n 0, 1) := by decide +kernel
theorem dX6_rests_47 : decode cX6_rests 47 = .ok (.getfield 25, 3) := by decide +kernel
theorem dX6_rests_50 : decode cX6_rests 50 = .ok (.iload_n 1, 1) := by decide +kernel
theorem dX6_rests_51 : decode cX6_rests 51 = .ok (.aaload, 1) := by decide +kernel
theorem dX6_rests_52 : decode cX6_rests 52 = .ok (.getfield 160, 3) := by decide +kernel
theorem dX6_rests_55 : decode cX6_rests 55 = .ok (.aload_n 0, 1) := by decide +kernel
theorem dX6_rests_56 : decode cX6_rests 56 = .ok (.getfield 10, 3) := by decide +kernel
theorem dX6_rests_59 : decode cX6_rests 59 = .ok (.getfield 93, 3) := by decide +kernel
theorem dX6_rests_62 : decode cX6_rests 62 = .ok (.invokevirtual 196, 3) := by decide +kernel
theorem kX6_196 : zLk RX6 196 yX5_less := Or.inl (gt_of 433 (by decide +kernel) rfl)
theorem dX6_rests_65 : decode cX6_rests 65 = .ok (.istore 5, 2) := by decide +kernel
theorem dX6_rests_67 : decode cX6_rests 67 = .ok (.iload 5, 2) := by decide +kernel
theorem dX6_rests_69 : decode cX6_rests 69 = .ok (.ifCond .gt 6, 3) := by decide +kernel
theorem dX6_rests_75 : decode cX6_rests 75 = .ok (.iload 4, 2) := by decide +kernel
theorem dX6_rests_77 : decode cX6_rests 77 = .ok (.ifCond .ne 5, 3) := by decide +kernel
theorem dX6_rests_82 : decode cX6_rests 82 = .ok (.iload 4, 2) := by decide +kernel
theorem dX6_rests_84 : decode cX6_rests 84 = .ok (.iload 5, 2) := by decide +kernel
theorem dX6_rests_86 : decode cX6_rests 86 = .ok (.invokestatic 199, 3) := by decide +kernel
theorem kX6_199 : zLk RX6 199 yX6_greatestShared := Or.inl (gt_of 434 (by decide +kernel) rfl)
theorem sX6_greatestShared : Cond.static yX6_greatestShared ∈ gtbl := gt_of 435 (by decide +kernel) rfl
theorem dX6_rests_89 : decode cX6_rests 89 = .ok (.istore 6, 2) := by decide +kernel
theorem dX6_rests_91 : decode cX6_rests 91 = .ok (.iload 6, 2) := by decide +kernel
theorem dX6_rests_93 : decode cX6_rests 93 = .ok (.ifCond .gt 6, 3) := by decide +kernel
theorem dX6_rests_99 : decode cX6_rests 99 = .ok (.iload_n 2, 1) := by decide +kernel
theorem dX6_rests_100 : decode cX6_rests 100 = .ok (.ifCond .ne 8, 3) := by decide +kernel
theorem dX6_rests_108 : decode cX6_rests 108 = .ok (.iload 5, 2) := by decide +kernel
theorem dX6_rests_110 : decode cX6_rests 110 = .ok (.iload 6, 2) := by decide +kernel
theorem dX6_rests_112 : decode cX6_rests 112 = .ok (.idiv, 1) := by decide +kernel
theorem dX6_rests_113 : decode cX6_rests 113 = .ok (.ireturn, 1) := by decide +kernel
theorem dX6_rests_103 : decode cX6_rests 103 = .ok (.iload 4, 2) := by decide +kernel
theorem dX6_rests_105 : decode cX6_rests 105 = .ok (.goto 5, 3) := by decide +kernel
theorem dX6_rests_96 : decode cX6_rests 96 = .ok (.bipush (-4), 2) := by decide +kernel
theorem dX6_rests_98 : decode cX6_rests 98 = .ok (.ireturn, 1) := by decide +kernel
theorem dX6_rests_80 : decode cX6_rests 80 = .ok (.iload_n 2, 1) := by decide +kernel
theorem dX6_rests_81 : decode cX6_rests 81 = .ok (.ireturn, 1) := by decide +kernel
theorem dX6_rests_72 : decode cX6_rests 72 = .ok (.bipush (-4), 2) := by decide +kernel
theorem dX6_rests_74 : decode cX6_rests 74 = .ok (.ireturn, 1) := by decide +kernel
theorem dX6_rests_23 : decode cX6_rests 23 = .ok (.iload_n 3, 1) := by decide +kernel
theorem dX6_rests_24 : decode cX6_rests 24 = .ok (.ireturn, 1) := by decide +kernel
theorem dX6_rests_17 : decode cX6_rests 17 = .ok (.iconst (-1), 1) := by decide +kernel
set_option maxRecDepth 100000 in
theorem c_X6_rests (l : Launch) (D : va_G) (cy : Nat → Nat) (n : Nat) (ad : Nat → Nat) (F : Nat → va_E) (sz : Nat) (pic : Int32) (sc ps : Scn) (sh : Nat → Shf) (rd : Rdr) (dr : Stg) (fa : Tal) (mi : Crs) (hn : 56 ≤ n) (hX : RX ad cy F pic sc ps sh rd dr fa mi) (hG : gX sc ps sh) (d part : Int32) : Met l yX6_rests (zw yX6_rests cX6_rests 7 (some .int)) (rmL 3) (zPc D cy n ad F sz [.ref (ad 0), .int d, .int part]) (va_Qi (fun r F1 => r = zr (bIn part 0 1) (sStR sh d) (sRests (sh (iN d)).2.1 sc.1 part) ∧ F = F1) (zB D n ad) (zA n ad sz)) 0 0 (zA n ad sz) := by
  refine zmet (by decide +kernel) (Nat.le_of_ble_eq_true rfl) (fun p e s m args below meth c ls hC hsz hZ hA hr hlocks hnm hl => ?_)
  have hC : zC p m c cX6_rests 7 s args RX6 D cy := hC
  have hx := hC.1.1
  have hb := hC.1.2.1
  have hl : lv_has ls 7 [(0, .ref (ad 0)), (1, .int d), (2, .int part)] := hl
  refine lv_iload_n hx hb dX6_rests_0 rfl (lv_at hl 2 rfl) ?_
  refine lv_iconst (v := 0) hx hb dX6_rests_1 (by decide) ?_
  refine lv_iconst (v := 1) hx hb dX6_rests_2 (by decide) ?_
  refine zgoi hZ hA (zrunS (As := [.int part, .int 0, .int 1]) (rest := []) hC hZ (c_X6_isWithin l D cy n ad F s.heap.size part 0 1) mX6_isWithin sX6_isWithin kX6_111 (zRj_of rfl) rfl hl.1 rfl (Nat.le_of_ble_eq_true rfl) dX6_rests_3 ⟨Nat.le_refl _, Nat.le_refl _⟩) (fun r_2 F_1 hp_3 H locs hZ => ?_)
  obtain ⟨hp_3, rfl⟩ := hp_3
  by_cases b_4 : bIn part 0 1
  · rw [if_pos b_4] at hp_3
    subst hp_3
    refine lv_if_eq (tgt := 17) hx hb dX6_rests_6 (by decide) (fun h => absurd (show (1 : Int32) = 0 from h) (by decide)) (fun _ => ?_)
    refine lv_aload_n hx hb dX6_rests_9 rfl (lv_at hl 0 rfl) ?_
    refine lv_iload_n hx hb dX6_rests_10 rfl (lv_at hl 1 rfl) ?_
    refine zgoi hZ hA (zrunV (As := [.int d]) (rest := []) (k := 0) hC hZ (c_X6_storyRefusal l D cy n ad F H.size pic sc ps sh rd dr fa mi hn hX d) mX6_storyRefusal vX6_storyRefusal kX6_157 (zRj_of rfl) (zlt hn rfl) hX.1 rfl rfl hl.1 rfl (Nat.le_of_ble_eq_true rfl) dX6_rests_11 ⟨Nat.le_refl _, Nat.le_refl _⟩) (fun r_6 F_5 hp_7 H locs hZ => ?_)
    obtain ⟨rfl, rfl⟩ := hp_7
    refine lv_goto (tgt := 18) hx hb dX6_rests_14 (by decide) ?_
    refine lv_istore_n (lv' := [(3, .int (sStR sh d)), (0, .ref (ad 0)), (1, .int d), (2, .int part)]) hx hb dX6_rests_18 rfl hl (by decide) rfl (fun ls hl => ?_)
    refine lv_iload_n hx hb dX6_rests_19 rfl (lv_at hl 0 rfl) ?_
    refine lv_if_eq (tgt := 25) hx hb dX6_rests_20 (by decide) (fun c_20 => ?_) (fun c_20 => ?_)
    · refine lv_aload_n hx hb dX6_rests_25 rfl (lv_at hl 1 rfl) ?_
      refine zget hC hZ fX6_25 (zlt hn rfl) hX.1 rfl dX6_rests_26 ?_
      refine lv_iload_n hx hb dX6_rests_29 rfl (lv_at hl 2 rfl) ?_
      have hs_8 := sStR_0 c_20
      refine zaald hC hZ (zlt hn rfl) hX.2.2.2.1 (C := RX4) rfl hs_8.1.1 hs_8.1.2 (by decide) rfl dX6_rests_30 ?_
      refine zget hC hZ fX6_160 (by have := hs_8.1.2; omega) (hX.2.2.2.2.1 (iN d) hs_8.1.2).1 rfl dX6_rests_31 ?_
      refine lv_aload_n hx hb dX6_rests_34 rfl (lv_at hl 1 rfl) ?_
      refine zget hC hZ fX6_10 (zlt hn rfl) hX.1 rfl dX6_rests_35 ?_
      refine zget hC hZ fX6_93 (zlt hn rfl) hX.2.1.1 rfl dX6_rests_38 ?_
      refine zgoi hZ hA (zrunV (As := [.ref (ad 2)]) (rest := []) (k := 26 + 3 * (iN d) + 1) hC hZ (c_X5_kick l D cy n ad F H.size (26 + 3 * (iN d) + 1) (sh (iN d)).2.1 (by have := hs_8.1.2; omega) (hX.2.2.2.2.1 (iN d) hs_8.1.2).2.1 2 sc.1 (zlt hn rfl) hX.2.1.2.1) mX5_kick vX5_kick kX6_163 (zRj_of rfl) (by have := hs_8.1.2; omega) (hX.2.2.2.2.1 (iN d) hs_8.1.2).2.1 rfl rfl hl.1 rfl (Nat.le_of_ble_eq_true rfl) dX6_rests_41 ⟨Nat.le_refl _, Nat.le_refl _⟩) (fun r_10 F_9 hp_11 H locs hZ => ?_)
      obtain ⟨rfl, rfl⟩ := hp_11
      refine lv_istore (lv' := [(4, .int (sKick (sh (iN d)).2.1 sc.1)), (3, .int (sStR sh d)), (0, .ref (ad 0)), (1, .int d), (2, .int part)]) hx hb dX6_rests_44 hl (by decide) rfl (fun ls hl => ?_)
      refine lv_aload_n hx hb dX6_rests_46 rfl (lv_at hl 2 rfl) ?_
      refine zget hC hZ fX6_25 (zlt hn rfl) hX.1 rfl dX6_rests_47 ?_
      refine lv_iload_n hx hb dX6_rests_50 rfl (lv_at hl 3 rfl) ?_
      refine zaald hC hZ (zlt hn rfl) hX.2.2.2.1 (C := RX4) rfl hs_8.1.1 hs_8.1.2 (by decide) rfl dX6_rests_51 ?_
      refine zget hC hZ fX6_160 (by have := hs_8.1.2; omega) (hX.2.2.2.2.1 (iN d) hs_8.1.2).1 rfl dX6_rests_52 ?_
      refine lv_aload_n hx hb dX6_rests_55 rfl (lv_at hl 2 rfl) ?_
      refine zget hC hZ fX6_10 (zlt hn rfl) hX.1 rfl dX6_rests_56 ?_
      refine zget hC hZ fX6_93 (zlt hn rfl) hX.2.1.1 rfl dX6_rests_59 ?_
      refine zgoi hZ hA (zrunV (As := [.ref (ad 2)]) (rest := []) (k := 26 + 3 * (iN d) + 1) hC hZ (c_X5_less l D cy n ad F H.size (26 + 3 * (iN d) + 1) (sh (iN d)).2.1 (by have := hs_8.1.2; omega) (hX.2.2.2.2.1 (iN d) hs_8.1.2).2.1 2 sc.1 (zlt hn rfl) hX.2.1.2.1) mX5_less vX5_less kX6_196 (zRj_of rfl) (by have := hs_8.1.2; omega) (hX.2.2.2.2.1 (iN d) hs_8.1.2).2.1 rfl rfl hl.1 rfl (Nat.le_of_ble_eq_true rfl) dX6_rests_62 ⟨Nat.le_refl _, Nat.le_refl _⟩) (fun r_13 F_12 hp_14 H locs hZ => ?_)
      obtain ⟨rfl, rfl⟩ := hp_14
      refine lv_istore (lv' := [(5, .int (sLess (sh (iN d)).2.1 sc.1)), (4, .int (sKick (sh (iN d)).2.1 sc.1)), (3, .int (sStR sh d)), (0, .ref (ad 0)), (1, .int d), (2, .int part)]) hx hb dX6_rests_65 hl (by decide) rfl (fun ls hl => ?_)
      refine lv_iload hx hb dX6_rests_67 (lv_at hl 0 rfl) ?_
      refine lv_if_gt (tgt := 75) hx hb dX6_rests_69 (by decide) (fun c_69 => ?_) (fun c_69 => ?_)
      · refine lv_iload hx hb dX6_rests_75 (lv_at hl 1 rfl) ?_
        refine lv_if_ne (tgt := 82) hx hb dX6_rests_77 (by decide) (fun c_77 => ?_) (fun c_77 => ?_)
        · have hgk := gKick ((hG.2.2 _ hs_8.1.2).1 hs_8.2) hG.1.1
          refine lv_iload hx hb dX6_rests_82 (lv_at hl 1 rfl) ?_
          refine lv_iload hx hb dX6_rests_84 (lv_at hl 0 rfl) ?_
          refine W.eq (g2 := F0 m 86 ls [.int (sLess (sh (iN d)).2.1 sc.1), .int (nI (iN (sKick (sh (iN d)).2.1 sc.1)))]) (by rw [← hgk.1]) ?_
          refine zgoi hZ hA (zrunS (As := [.int (nI (iN (sKick (sh (iN d)).2.1 sc.1))), .int (sLess (sh (iN d)).2.1 sc.1)]) (rest := []) hC hZ (c_X6_greatestShared l D cy n ad F H.size (iN (sKick (sh (iN d)).2.1 sc.1)) (Nat.le_trans hgk.2 (by decide)) (sLess (sh (iN d)).2.1 sc.1)) mX6_greatestShared sX6_greatestShared kX6_199 (zRj_of rfl) rfl hl.1 rfl (Nat.le_of_ble_eq_true rfl) dX6_rests_86 ⟨Nat.le_refl _, Nat.le_refl _⟩) (fun r_16 F_15 hp_17 H locs hZ => ?_)
          rw [← hgk.1] at hp_17
          obtain ⟨rfl, rfl⟩ := hp_17
          refine lv_istore (lv' := [(6, .int (sGS (sKick (sh (iN d)).2.1 sc.1) (sLess (sh (iN d)).2.1 sc.1) (iN (sKick (sh (iN d)).2.1 sc.1)))), (5, .int (sLess (sh (iN d)).2.1 sc.1)), (4, .int (sKick (sh (iN d)).2.1 sc.1)), (3, .int (sStR sh d)), (0, .ref (ad 0)), (1, .int d), (2, .int part)]) hx hb dX6_rests_89 hl (by decide) rfl (fun ls hl => ?_)
          refine lv_iload hx hb dX6_rests_91 (lv_at hl 0 rfl) ?_
          refine lv_if_gt (tgt := 99) hx hb dX6_rests_93 (by decide) (fun c_93 => ?_) (fun c_93 => ?_)
          · refine lv_iload_n hx hb dX6_rests_99 rfl (lv_at hl 6 rfl) ?_
            refine lv_if_ne (tgt := 108) hx hb dX6_rests_100 (by decide) (fun c_100 => ?_) (fun c_100 => ?_)
            · refine lv_iload hx hb dX6_rests_108 (lv_at hl 1 rfl) ?_
              refine lv_iload hx hb dX6_rests_110 (lv_at hl 0 rfl) ?_
              refine lv_idiv hx hb dX6_rests_112 (fun h => absurd c_93 (by rw [h]; decide)) ?_
              have hv_19 : ((sLess (sh (iN d)).2.1 sc.1) / (sGS (sKick (sh (iN d)).2.1 sc.1) (sLess (sh (iN d)).2.1 sc.1) (iN (sKick (sh (iN d)).2.1 sc.1)))) = sRests (sh (iN d)).2.1 sc.1 part := by simp [sRests, b_4, c_20, c_69, Int32.not_le.mpr c_69, c_77, c_93, Int32.not_le.mpr c_93, c_100]
              have hq_18 : ((sLess (sh (iN d)).2.1 sc.1) / (sGS (sKick (sh (iN d)).2.1 sc.1) (sLess (sh (iN d)).2.1 sc.1) (iN (sKick (sh (iN d)).2.1 sc.1)))) = zr (bIn part 0 1) (sStR sh d) (sRests (sh (iN d)).2.1 sc.1 part) := hv_19.trans (zr_ok b_4 c_20).symm
              exact zireti hC hZ hr hlocks ⟨hq_18, rfl⟩ dX6_rests_113
            · refine lv_iload hx hb dX6_rests_103 (lv_at hl 2 rfl) ?_
              refine lv_goto (tgt := 110) hx hb dX6_rests_105 (by decide) ?_
              refine lv_iload hx hb dX6_rests_110 (lv_at hl 0 rfl) ?_
              refine lv_idiv hx hb dX6_rests_112 (fun h => absurd c_93 (by rw [h]; decide)) ?_
              have hv_21 : ((sKick (sh (iN d)).2.1 sc.1) / (sGS (sKick (sh (iN d)).2.1 sc.1) (sLess (sh (iN d)).2.1 sc.1) (iN (sKick (sh (iN d)).2.1 sc.1)))) = sRests (sh (iN d)).2.1 sc.1 part := by simp [sRests, b_4, c_20, c_69, Int32.not_le.mpr c_69, c_77, c_93, Int32.not_le.mpr c_93, c_100]
              have hq_20 : ((sKick (sh (iN d)).2.1 sc.1) / (sGS (sKick (sh (iN d)).2.1 sc.1) (sLess (sh (iN d)).2.1 sc.1) (iN (sKick (sh (iN d)).2.1 sc.1)))) = zr (bIn part 0 1) (sStR sh d) (sRests (sh (iN d)).2.1 sc.1 part) := hv_21.trans (zr_ok b_4 c_20).symm
              exact zireti hC hZ hr hlocks ⟨hq_20, rfl⟩ dX6_rests_113
          · refine lv_bipush (v := (-4)) hx hb dX6_rests_96 (by decide) ?_
            have hv_23 : (-4 : Int32) = sRests (sh (iN d)).2.1 sc.1 part := by simp [sRests, b_4, c_20, c_69, Int32.not_le.mpr c_69, c_77, c_93, Int32.not_lt.mp c_93]
            have hq_22 : (-4 : Int32) = zr (bIn part 0 1) (sStR sh d) (sRests (sh (iN d)).2.1 sc.1 part) := hv_23.trans (zr_ok b_4 c_20).symm
            exact zireti hC hZ hr hlocks ⟨hq_22, rfl⟩ dX6_rests_98
        · refine lv_iload_n hx hb dX6_rests_80 rfl (lv_at hl 5 rfl) ?_
          have hv_25 : part = sRests (sh (iN d)).2.1 sc.1 part := by simp [sRests, b_4, c_20, c_69, Int32.not_le.mpr c_69, c_77]
          have hq_24 : part = zr (bIn part 0 1) (sStR sh d) (sRests (sh (iN d)).2.1 sc.1 part) := hv_25.trans (zr_ok b_4 c_20).symm
          exact zireti hC hZ hr hlocks ⟨hq_24, rfl⟩ dX6_rests_81
      · refine lv_bipush (v := (-4)) hx hb dX6_rests_72 (by decide) ?_
        have hv_27 : (-4 : Int32) = sRests (sh (iN d)).2.1 sc.1 part := by simp [sRests, b_4, c_20, c_69, Int32.not_lt.mp c_69]
        have hq_26 : (-4 : Int32) = zr (bIn part 0 1) (sStR sh d) (sRests (sh (iN d)).2.1 sc.1 part) := hv_27.trans (zr_ok b_4 c_20).symm
        exact zireti hC hZ hr hlocks ⟨hq_26, rfl⟩ dX6_rests_74
    · refine lv_iload_n hx hb dX6_rests_23 rfl (lv_at hl 0 rfl) ?_
      have hq_28 : (sStR sh d) = zr (bIn part 0 1) (sStR sh d) (sRests (sh (iN d)).2.1 sc.1 part) := (zr_rf b_4 c_20).symm
      exact zireti hC hZ hr hlocks ⟨hq_28, rfl⟩ dX6_rests_24
  · rw [if_neg b_4] at hp_3
    subst hp_3
    refine lv_if_eq (tgt := 17) hx hb dX6_rests_6 (by decide) (fun _ => ?_) (fun h => absurd (show (0 : Int32) = 0 by decide) h)
    refine lv_iconst (v := (-1)) hx hb dX6_rests_17 (by decide) ?_
    refine lv_istore_n (lv' := [(3, .int (-1)), (0, .ref (ad 0)), (1, .int d), (2, .int part)]) hx hb dX6_rests_18 rfl hl (by decide) rfl (fun ls hl => ?_)
    refine lv_iload_n hx hb dX6_rests_19 rfl (lv_at hl 0 rfl) ?_
    refine lv_if_eq (tgt := 25) hx hb dX6_rests_20 (by decide) (fun h => absurd (show (-1 : Int32) = 0 from h) (by decide)) (fun _ => ?_)
    refine lv_iload_n hx hb dX6_rests_23 rfl (lv_at hl 0 rfl) ?_
    have hq_29 : (-1 : Int32) = zr (bIn part 0 1) (sStR sh d) (sRests (sh (iN d)).2.1 sc.1 part) := (zr_no b_4).symm
    exact zireti hC hZ hr hlocks ⟨hq_29, rfl⟩ dX6_rests_24

theorem mX6_image : zMd yX6_image cX6_image 1 (some .int) 0 := ⟨by decide +kernel, gt_of 547 (by decide +kernel) rfl, gt_of 45 (by decide +kernel) rfl, by decide⟩
theorem dX6_image_0 : decode cX6_image 0 = .ok (.aload_n 0, 1) := by decide +kernel
theorem dX6_image_1 : decode cX6_image 1 = .ok (.getfield 16, 3) := by decide +kernel
theorem fX6_16 : zFld RX6 16 6 1 := ⟨RX6, TX6, 9, rfl, inX6, by decide, rfl, Or.inl (gt_of 229 (by decide +kernel) rfl)⟩
theorem dX6_image_4 : decode cX6_image 4 = .ok (.aload_n 0, 1) := by decide +kernel
theorem dX6_image_5 : decode cX6_image 5 = .ok (.getfield 10, 3) := by decide +kernel
theorem dX6_image_8 : decode cX6_image 8 = .ok (.invokevirtual 257, 3) := by decide +kernel
theorem kX6_257 : zLk RX6 257 yX2_take := Or.inl (gt_of 548 (by decide +kernel) rfl)
theorem vX2_take : zMi yX2_take := ⟨gt_of 549 (by decide +kernel) rfl, gt_of 550 (by decide +kernel) rfl⟩
theorem dX6_image_11 : decode cX6_image 11 = .ok (.aload_n 0, 1) := by decide +kernel
theorem dX6_image_12 : decode cX6_image 12 = .ok (.iconst 1, 1) := by decide +kernel
theorem dX6_image_13 : decode cX6_image 13 = .ok (.putfield 19, 3) := by decide +kernel
theorem pX6_19 : zFldP RX6 19 6 2 false .boolean := ⟨RX6, TX6, 9, tyX6, rfl, inX6, by decide, rfl, Or.inl (gt_of 230 (by decide +kernel) rfl), tyX6_ok, nmX6, rfl, by decide +kernel, fun h => by cases h⟩
theorem dX6_image_16 : decode cX6_image 16 = .ok (.aload_n 0, 1) := by decide +kernel
theorem dX6_image_17 : decode cX6_image 17 = .ok (.getfield 10, 3) := by decide +kernel
theorem dX6_image_20 : decode cX6_image 20 = .ok (.getfield 83, 3) := by decide +kernel
theorem dX6_image_23 : decode cX6_image 23 = .ok (.getfield 174, 3) := by decide +kernel
theorem dX6_image_26 : decode cX6_image 26 = .ok (.ireturn, 1) := by decide +kernel
set_option maxRecDepth 100000 in
theorem c_X6_image (l : Launch) (D : va_G) (cy : Nat → Nat) (n : Nat) (ad : Nat → Nat) (F : Nat → va_E) (sz : Nat) (pic : Int32) (sc ps : Scn) (sh : Nat → Shf) (rd : Rdr) (dr : Stg) (fa : Tal) (mi : Crs) (hn : 56 ≤ n) (hX : RX ad cy F pic sc ps sh rd dr fa mi) : Met l yX6_image (zw yX6_image cX6_image 1 (some .int)) (rmL 2) (zPc D cy n ad F sz [.ref (ad 0)]) (va_Qi (fun r F1 => r = sc.2.2.2.2.1 ∧ RX ad cy F1 1 sc sc sh rd dr fa mi ∧ fr56 F F1) (zB D n ad) (zA n ad sz)) 0 0 (zA n ad sz) := by
  refine zmet (by decide +kernel) (Nat.le_of_ble_eq_true rfl) (fun p e s m args below meth c ls hC hsz hZ hA hr hlocks hnm hl => ?_)
  have hC : zC p m c cX6_image 1 s args RX6 D cy := hC
  have hx := hC.1.1
  have hb := hC.1.2.1
  have hl : lv_has ls 1 [(0, .ref (ad 0))] := hl
  refine lv_aload_n hx hb dX6_image_0 rfl (lv_at hl 0 rfl) ?_
  refine zget hC hZ fX6_16 (zlt hn rfl) hX.1 rfl dX6_image_1 ?_
  refine lv_aload_n hx hb dX6_image_4 rfl (lv_at hl 0 rfl) ?_
  refine zget hC hZ fX6_10 (zlt hn rfl) hX.1 rfl dX6_image_5 ?_
  refine zgov hZ hA (zrunV (As := [.ref (ad 1)]) (rest := []) (k := 13) hC hZ (c_X2_take l D cy n ad F s.heap.size 13 ps (by omega) hX.2.2.1 1 sc (by omega) hX.2.1 (by decide)) mX2_take vX2_take kX6_257 (zRj_of rfl) (zlt hn rfl) hX.2.2.1.1 rfl rfl hl.1 rfl (Nat.le_of_ble_eq_true rfl) dX6_image_8 ⟨Nat.le_refl _, Nat.le_refl _⟩) (fun F_1 hp_3 H locs hZ => ?_)
  have hX_4 := rx_pict hX hp_3.1 hp_3.2
  have hf_5 := fr56_bl fr56_rf hp_3.2 (by decide)
  refine lv_aload_n hx hb dX6_image_11 rfl (lv_at hl 0 rfl) ?_
  refine lv_iconst (v := 1) hx hb dX6_image_12 (by decide) ?_
  refine zput (E := oMain ad 1) hC hZ pX6_19 (zlt hn rfl) hX_4.1 rfl rfl rfl (Nat.le_of_ble_eq_true rfl) dX6_image_13 (fun F_6 hF_7 H locs hZ => ?_)
  have hX_8 := rx_main hX_4 hF_7
  have hf_9 := fr56_up hf_5 hF_7 (by decide)
  have hX_8 : RX ad cy F_6 1 sc sc sh rd dr fa mi := hX_8
  refine lv_aload_n hx hb dX6_image_16 rfl (lv_at hl 0 rfl) ?_
  refine zget hC hZ fX6_10 (zlt hn rfl) hX_8.1 rfl dX6_image_17 ?_
  refine zget hC hZ fX6_83 (zlt hn rfl) hX_8.2.1.1 rfl dX6_image_20 ?_
  refine zget hC hZ fX6_174 (zlt hn rfl) hX_8.2.1.2.2.2.1 rfl dX6_image_23 ?_
  exact zireti hC hZ hr hlocks ⟨rfl, hX_8, hf_9⟩ dX6_image_26

theorem mX6_restore : zMd yX6_restore cX6_restore 1 (some .int) 0 := ⟨by decide +kernel, gt_of 559 (by decide +kernel) rfl, gt_of 45 (by decide +kernel) rfl, by decide⟩
theorem dX6_restore_0 : decode cX6_restore 0 = .ok (.aload_n 0, 1) := by decide +kernel
theorem dX6_restore_1 : decode cX6_restore 1 = .ok (.getfield 19, 3) := by decide +kernel
theorem fX6_19 : zFld RX6 19 6 2 := ⟨RX6, TX6, 9, rfl, inX6, by decide, rfl, Or.inl (gt_of 230 (by decide +kernel) rfl)⟩
theorem dX6_restore_4 : decode cX6_restore 4 = .ok (.ifCond .ne 6, 3) := by decide +kernel
theorem dX6_restore_10 : decode cX6_restore 10 = .ok (.aload_n 0, 1) := by decide +kernel
theorem dX6_restore_11 : decode cX6_restore 11 = .ok (.getfield 10, 3) := by decide +kernel
theorem dX6_restore_14 : decode cX6_restore 14 = .ok (.aload_n 0, 1) := by decide +kernel
theorem dX6_restore_15 : decode cX6_restore 15 = .ok (.getfield 16, 3) := by decide +kernel
theorem dX6_restore_18 : decode cX6_restore 18 = .ok (.invokevirtual 257, 3) := by decide +kernel
theorem dX6_restore_21 : decode cX6_restore 21 = .ok (.aload_n 0, 1) := by decide +kernel
theorem dX6_restore_22 : decode cX6_restore 22 = .ok (.getfield 10, 3) := by decide +kernel
theorem dX6_restore_25 : decode cX6_restore 25 = .ok (.getfield 83, 3) := by decide +kernel
theorem dX6_restore_28 : decode cX6_restore 28 = .ok (.getfield 174, 3) := by decide +kernel
theorem dX6_restore_31 : decode cX6_restore 31 = .ok (.ireturn, 1) := by decide +kernel
theorem dX6_restore_7 : decode cX6_restore 7 = .ok (.bipush (-3), 2) := by decide +kernel
theorem dX6_restore_9 : decode cX6_restore 9 = .ok (.ireturn, 1) := by decide +kernel
set_option maxRecDepth 100000 in
theorem c_X6_restore (l : Launch) (D : va_G) (cy : Nat → Nat) (n : Nat) (ad : Nat → Nat) (F : Nat → va_E) (sz : Nat) (pic : Int32) (sc ps : Scn) (sh : Nat → Shf) (rd : Rdr) (dr : Stg) (fa : Tal) (mi : Crs) (hn : 56 ≤ n) (hX : RX ad cy F pic sc ps sh rd dr fa mi) : Met l yX6_restore (zw yX6_restore cX6_restore 1 (some .int)) (rmL 2) (zPc D cy n ad F sz [.ref (ad 0)]) (va_Qi (fun r F1 => r = (if pic = 0 then -3 else ps.2.2.2.2.1) ∧ RX ad cy F1 pic (if pic = 0 then sc else ps) ps sh rd dr fa mi ∧ fr56 F F1) (zB D n ad) (zA n ad sz)) 0 0 (zA n ad sz) := by
  refine zmet (by decide +kernel) (Nat.le_of_ble_eq_true rfl) (fun p e s m args below meth c ls hC hsz hZ hA hr hlocks hnm hl => ?_)
  have hC : zC p m c cX6_restore 1 s args RX6 D cy := hC
  have hx := hC.1.1
  have hb := hC.1.2.1
  have hl : lv_has ls 1 [(0, .ref (ad 0))] := hl
  refine lv_aload_n hx hb dX6_restore_0 rfl (lv_at hl 0 rfl) ?_
  refine zget hC hZ fX6_19 (zlt hn rfl) hX.1 rfl dX6_restore_1 ?_
  refine lv_if_ne (tgt := 10) hx hb dX6_restore_4 (by decide) (fun c_4 => ?_) (fun c_4 => ?_)
  · refine lv_aload_n hx hb dX6_restore_10 rfl (lv_at hl 0 rfl) ?_
    refine zget hC hZ fX6_10 (zlt hn rfl) hX.1 rfl dX6_restore_11 ?_
    refine lv_aload_n hx hb dX6_restore_14 rfl (lv_at hl 0 rfl) ?_
    refine zget hC hZ fX6_16 (zlt hn rfl) hX.1 rfl dX6_restore_15 ?_
    refine zgov hZ hA (zrunV (As := [.ref (ad 13)]) (rest := []) (k := 1) hC hZ (c_X2_take l D cy n ad F s.heap.size 1 sc (by omega) hX.2.1 13 ps (by omega) hX.2.2.1 (by decide)) mX2_take vX2_take kX6_257 (zRj_of rfl) (zlt hn rfl) hX.2.1.1 rfl rfl hl.1 rfl (Nat.le_of_ble_eq_true rfl) dX6_restore_18 ⟨Nat.le_refl _, Nat.le_refl _⟩) (fun F_1 hp_3 H locs hZ => ?_)
    have hX_4 := rx_scene hX hp_3.1 hp_3.2
    have hf_5 := fr56_bl fr56_rf hp_3.2 (by decide)
    refine lv_aload_n hx hb dX6_restore_21 rfl (lv_at hl 0 rfl) ?_
    refine zget hC hZ fX6_10 (zlt hn rfl) hX_4.1 rfl dX6_restore_22 ?_
    refine zget hC hZ fX6_83 (zlt hn rfl) hX_4.2.1.1 rfl dX6_restore_25 ?_
    refine zget hC hZ fX6_174 (zlt hn rfl) hX_4.2.1.2.2.2.1 rfl dX6_restore_28 ?_
    have hq0 : ps.2.2.2.2.1 = if pic = 0 then -3 else ps.2.2.2.2.1 := (if_neg c_4).symm
    have hq1 : (if pic = 0 then sc else ps) = ps := if_neg c_4
    exact zireti hC hZ hr hlocks ⟨hq0, by rw [hq1]; exact hX_4, hf_5⟩ dX6_restore_31
  · refine lv_bipush (v := (-3)) hx hb dX6_restore_7 (by decide) ?_
    have hq0 : (-3 : Int32) = if pic = 0 then -3 else ps.2.2.2.2.1 := (if_pos c_4).symm
    have hq1 : (if pic = 0 then sc else ps) = sc := if_pos c_4
    exact zireti hC hZ hr hlocks ⟨hq0, by rw [hq1]; exact hX, fr56_rf⟩ dX6_restore_9

theorem mX6_keep : zMd yX6_keep cX6_keep 5 (some .int) 4 := ⟨by decide +kernel, gt_of 567 (by decide +kernel) rfl, gt_of 45 (by decide +kernel) rfl, by decide⟩
theorem dX6_keep_0 : decode cX6_keep 0 = .ok (.iload_n 1, 1) := by decide +kernel
theorem dX6_keep_1 : decode cX6_keep 1 = .ok (.invokestatic 65, 3) := by decide +kernel
theorem dX6_keep_4 : decode cX6_keep 4 = .ok (.ifCond .eq 12, 3) := by decide +kernel
theorem dX6_keep_7 : decode cX6_keep 7 = .ok (.iload_n 2, 1) := by decide +kernel
theorem dX6_keep_8 : decode cX6_keep 8 = .ok (.iconst 0, 1) := by decide +kernel
theorem dX6_keep_9 : decode cX6_keep 9 = .ok (.iconst 1, 1) := by decide +kernel
theorem dX6_keep_10 : decode cX6_keep 10 = .ok (.invokestatic 111, 3) := by decide +kernel
theorem dX6_keep_13 : decode cX6_keep 13 = .ok (.ifCond .ne 5, 3) := by decide +kernel
theorem dX6_keep_18 : decode cX6_keep 18 = .ok (.iload_n 2, 1) := by decide +kernel
theorem dX6_keep_19 : decode cX6_keep 19 = .ok (.ifCond .ne 14, 3) := by decide +kernel
theorem dX6_keep_33 : decode cX6_keep 33 = .ok (.iload_n 3, 1) := by decide +kernel
theorem dX6_keep_34 : decode cX6_keep 34 = .ok (.iconst 0, 1) := by decide +kernel
theorem dX6_keep_35 : decode cX6_keep 35 = .ok (.bipush 7, 2) := by decide +kernel
theorem dX6_keep_37 : decode cX6_keep 37 = .ok (.invokestatic 111, 3) := by decide +kernel
theorem dX6_keep_40 : decode cX6_keep 40 = .ok (.ifCond .eq 14, 3) := by decide +kernel
theorem dX6_keep_43 : decode cX6_keep 43 = .ok (.iload 4, 2) := by decide +kernel
theorem dX6_keep_45 : decode cX6_keep 45 = .ok (.iconst 0, 1) := by decide +kernel
theorem dX6_keep_46 : decode cX6_keep 46 = .ok (.bipush 40, 2) := by decide +kernel
theorem dX6_keep_48 : decode cX6_keep 48 = .ok (.invokestatic 111, 3) := by decide +kernel
theorem dX6_keep_51 : decode cX6_keep 51 = .ok (.ifCond .ne 5, 3) := by decide +kernel
theorem dX6_keep_56 : decode cX6_keep 56 = .ok (.aload_n 0, 1) := by decide +kernel
theorem dX6_keep_57 : decode cX6_keep 57 = .ok (.getfield 25, 3) := by decide +kernel
theorem dX6_keep_60 : decode cX6_keep 60 = .ok (.iload_n 1, 1) := by decide +kernel
theorem dX6_keep_61 : decode cX6_keep 61 = .ok (.aaload, 1) := by decide +kernel
theorem dX6_keep_62 : decode cX6_keep 62 = .ok (.iload_n 3, 1) := by decide +kernel
theorem dX6_keep_63 : decode cX6_keep 63 = .ok (.iload 4, 2) := by decide +kernel
theorem dX6_keep_65 : decode cX6_keep 65 = .ok (.invokevirtual 261, 3) := by decide +kernel
theorem kX6_261 : zLk RX6 261 yX4_holdStory := Or.inl (gt_of 572 (by decide +kernel) rfl)
theorem vX4_holdStory : zMi yX4_holdStory := ⟨gt_of 573 (by decide +kernel) rfl, gt_of 574 (by decide +kernel) rfl⟩
theorem dX6_keep_68 : decode cX6_keep 68 = .ok (.iconst 0, 1) := by decide +kernel
theorem dX6_keep_69 : decode cX6_keep 69 = .ok (.ireturn, 1) := by decide +kernel
theorem dX6_keep_54 : decode cX6_keep 54 = .ok (.iconst (-1), 1) := by decide +kernel
theorem dX6_keep_55 : decode cX6_keep 55 = .ok (.ireturn, 1) := by decide +kernel
theorem dX6_keep_22 : decode cX6_keep 22 = .ok (.aload_n 0, 1) := by decide +kernel
theorem dX6_keep_23 : decode cX6_keep 23 = .ok (.getfield 25, 3) := by decide +kernel
theorem dX6_keep_26 : decode cX6_keep 26 = .ok (.iload_n 1, 1) := by decide +kernel
theorem dX6_keep_27 : decode cX6_keep 27 = .ok (.aaload, 1) := by decide +kernel
theorem dX6_keep_28 : decode cX6_keep 28 = .ok (.invokevirtual 260, 3) := by decide +kernel
theorem kX6_260 : zLk RX6 260 yX4_clear := Or.inl (gt_of 568 (by decide +kernel) rfl)
theorem vX4_clear : zMi yX4_clear := ⟨gt_of 569 (by decide +kernel) rfl, gt_of 570 (by decide +kernel) rfl⟩
theorem dX6_keep_31 : decode cX6_keep 31 = .ok (.iconst 0, 1) := by decide +kernel
theorem dX6_keep_32 : decode cX6_keep 32 = .ok (.ireturn, 1) := by decide +kernel
theorem dX6_keep_16 : decode cX6_keep 16 = .ok (.iconst (-1), 1) := by decide +kernel
theorem dX6_keep_17 : decode cX6_keep 17 = .ok (.ireturn, 1) := by decide +kernel
set_option maxRecDepth 100000 in
theorem c_X6_keep (l : Launch) (D : va_G) (cy : Nat → Nat) (n : Nat) (ad : Nat → Nat) (F : Nat → va_E) (sz : Nat) (pic : Int32) (sc ps : Scn) (sh : Nat → Shf) (rd : Rdr) (dr : Stg) (fa : Tal) (mi : Crs) (hn : 56 ≤ n) (hX : RX ad cy F pic sc ps sh rd dr fa mi) (d what k f : Int32) : Met l yX6_keep (zw yX6_keep cX6_keep 5 (some .int)) (rmL 2) (zPc D cy n ad F sz [.ref (ad 0), .int d, .int what, .int k, .int f]) (va_Qi (fun r F1 => r = (if bKeep d what k f then 0 else -1) ∧ RX ad cy F1 pic sc ps (sKeepS sh d what k f) rd dr fa mi ∧ fr56 F F1) (zB D n ad) (zA n ad sz)) 0 0 (zA n ad sz) := by
  refine zmet (by decide +kernel) (Nat.le_of_ble_eq_true rfl) (fun p e s m args below meth c ls hC hsz hZ hA hr hlocks hnm hl => ?_)
  have hC : zC p m c cX6_keep 5 s args RX6 D cy := hC
  have hx := hC.1.1
  have hb := hC.1.2.1
  have hl : lv_has ls 5 [(0, .ref (ad 0)), (1, .int d), (2, .int what), (3, .int k), (4, .int f)] := hl
  refine lv_iload_n hx hb dX6_keep_0 rfl (lv_at hl 1 rfl) ?_
  refine zgoi hZ hA (zrunS (As := [.int d]) (rest := []) hC hZ (c_X6_isShelf l D cy n ad F s.heap.size d) mX6_isShelf sX6_isShelf kX6_65 (zRj_of rfl) rfl hl.1 rfl (Nat.le_of_ble_eq_true rfl) dX6_keep_1 ⟨Nat.le_refl _, Nat.le_refl _⟩) (fun r_2 F_1 hp_3 H locs hZ => ?_)
  obtain ⟨hp_3, rfl⟩ := hp_3
  by_cases b_4 : bSh d
  · rw [if_pos b_4] at hp_3
    subst hp_3
    refine lv_if_eq (tgt := 16) hx hb dX6_keep_4 (by decide) (fun h => absurd (show (1 : Int32) = 0 from h) (by decide)) (fun _ => ?_)
    refine lv_iload_n hx hb dX6_keep_7 rfl (lv_at hl 2 rfl) ?_
    refine lv_iconst (v := 0) hx hb dX6_keep_8 (by decide) ?_
    refine lv_iconst (v := 1) hx hb dX6_keep_9 (by decide) ?_
    refine zgoi hZ hA (zrunS (As := [.int what, .int 0, .int 1]) (rest := []) hC hZ (c_X6_isWithin l D cy n ad F H.size what 0 1) mX6_isWithin sX6_isWithin kX6_111 (zRj_of rfl) rfl hl.1 rfl (Nat.le_of_ble_eq_true rfl) dX6_keep_10 ⟨Nat.le_refl _, Nat.le_refl _⟩) (fun r_6 F_5 hp_7 H locs hZ => ?_)
    obtain ⟨hp_7, rfl⟩ := hp_7
    by_cases b_8 : bIn what 0 1
    · rw [if_pos b_8] at hp_7
      subst hp_7
      refine lv_if_ne (tgt := 18) hx hb dX6_keep_13 (by decide) (fun _ => ?_) (fun h => absurd (show (1 : Int32) = 0 from h) (by decide))
      refine lv_iload_n hx hb dX6_keep_18 rfl (lv_at hl 2 rfl) ?_
      refine lv_if_ne (tgt := 33) hx hb dX6_keep_19 (by decide) (fun c_19 => ?_) (fun c_19 => ?_)
      · refine lv_iload_n hx hb dX6_keep_33 rfl (lv_at hl 3 rfl) ?_
        refine lv_iconst (v := 0) hx hb dX6_keep_34 (by decide) ?_
        refine lv_bipush (v := 7) hx hb dX6_keep_35 (by decide) ?_
        refine zgoi hZ hA (zrunS (As := [.int k, .int 0, .int 7]) (rest := []) hC hZ (c_X6_isWithin l D cy n ad F H.size k 0 7) mX6_isWithin sX6_isWithin kX6_111 (zRj_of rfl) rfl hl.1 rfl (Nat.le_of_ble_eq_true rfl) dX6_keep_37 ⟨Nat.le_refl _, Nat.le_refl _⟩) (fun r_10 F_9 hp_11 H locs hZ => ?_)
        obtain ⟨hp_11, rfl⟩ := hp_11
        by_cases b_12 : bIn k 0 7
        · rw [if_pos b_12] at hp_11
          subst hp_11
          refine lv_if_eq (tgt := 54) hx hb dX6_keep_40 (by decide) (fun h => absurd (show (1 : Int32) = 0 from h) (by decide)) (fun _ => ?_)
          refine lv_iload hx hb dX6_keep_43 (lv_at hl 4 rfl) ?_
          refine lv_iconst (v := 0) hx hb dX6_keep_45 (by decide) ?_
          refine lv_bipush (v := 40) hx hb dX6_keep_46 (by decide) ?_
          refine zgoi hZ hA (zrunS (As := [.int f, .int 0, .int 40]) (rest := []) hC hZ (c_X6_isWithin l D cy n ad F H.size f 0 40) mX6_isWithin sX6_isWithin kX6_111 (zRj_of rfl) rfl hl.1 rfl (Nat.le_of_ble_eq_true rfl) dX6_keep_48 ⟨Nat.le_refl _, Nat.le_refl _⟩) (fun r_14 F_13 hp_15 H locs hZ => ?_)
          obtain ⟨hp_15, rfl⟩ := hp_15
          by_cases b_16 : bIn f 0 40
          · rw [if_pos b_16] at hp_15
            subst hp_15
            refine lv_if_ne (tgt := 56) hx hb dX6_keep_51 (by decide) (fun _ => ?_) (fun h => absurd (show (1 : Int32) = 0 from h) (by decide))
            refine lv_aload_n hx hb dX6_keep_56 rfl (lv_at hl 0 rfl) ?_
            refine zget hC hZ fX6_25 (zlt hn rfl) hX.1 rfl dX6_keep_57 ?_
            refine lv_iload_n hx hb dX6_keep_60 rfl (lv_at hl 1 rfl) ?_
            have hs_17 := bSh_i b_4
            refine zaald hC hZ (zlt hn rfl) hX.2.2.2.1 (C := RX4) rfl hs_17.1 hs_17.2 (by decide) rfl dX6_keep_61 ?_
            refine lv_iload_n hx hb dX6_keep_62 rfl (lv_at hl 3 rfl) ?_
            refine lv_iload hx hb dX6_keep_63 (lv_at hl 4 rfl) ?_
            refine zgov hZ hA (zrunV (As := [.int k, .int f]) (rest := []) (k := 26 + 3 * (iN d)) hC hZ (c_X4_holdStory l D cy n ad F H.size (26 + 3 * (iN d)) (sh (iN d)) (by have := hs_17.2; omega) (hX.2.2.2.2.1 (iN d) hs_17.2) k f) mX4_holdStory vX4_holdStory kX6_261 (zRj_of rfl) (by have := hs_17.2; omega) (hX.2.2.2.2.1 (iN d) hs_17.2).1 rfl rfl hl.1 rfl (Nat.le_of_ble_eq_true rfl) dX6_keep_65 ⟨Nat.le_refl _, Nat.le_refl _⟩) (fun F_18 hp_20 H locs hZ => ?_)
            have hsf_23 := RSh_story (hX.2.2.2.2.1 _ hs_17.2) hp_20
            have hX_21 : RX ad cy F_18 pic sc ps (va_up sh (iN d) (1, (k, f), (sh (iN d)).2.2)) rd dr fa mi := rx_shelf hs_17.2 hX hsf_23.1 hsf_23.2
            have hf_22 := fr56_bl fr56_rf hsf_23.2 (by have := hs_17.2; omega)
            refine lv_iconst (v := 0) hx hb dX6_keep_68 (by decide) ?_
            have hb9 : bKeep d what k f := ⟨⟨b_4, b_8⟩, Or.inr ⟨b_12, b_16⟩⟩
            have hq1 : sKeepS sh d what k f = (va_up sh (iN d) (1, (k, f), (sh (iN d)).2.2)) := by unfold sKeepS; rw [if_pos hb9, if_neg c_19]
            have hq0 : (0 : Int32) = if bKeep d what k f then 0 else -1 := (if_pos hb9).symm
            exact zireti hC hZ hr hlocks ⟨hq0, by rw [hq1]; exact hX_21, hf_22⟩ dX6_keep_69
          · rw [if_neg b_16] at hp_15
            subst hp_15
            refine lv_if_ne (tgt := 56) hx hb dX6_keep_51 (by decide) (fun h => absurd (show (0 : Int32) = 0 by decide) h) (fun _ => ?_)
            refine lv_iconst (v := (-1)) hx hb dX6_keep_54 (by decide) ?_
            have hb9 : ¬ (bKeep d what k f) := fun h => h.2.elim c_19 (fun h2 => b_16 h2.2)
            have hq1 : sKeepS sh d what k f = sh := if_neg hb9
            have hq0 : (-1 : Int32) = if bKeep d what k f then 0 else -1 := (if_neg hb9).symm
            exact zireti hC hZ hr hlocks ⟨hq0, by rw [hq1]; exact hX, fr56_rf⟩ dX6_keep_55
        · rw [if_neg b_12] at hp_11
          subst hp_11
          refine lv_if_eq (tgt := 54) hx hb dX6_keep_40 (by decide) (fun _ => ?_) (fun h => absurd (show (0 : Int32) = 0 by decide) h)
          refine lv_iconst (v := (-1)) hx hb dX6_keep_54 (by decide) ?_
          have hb9 : ¬ (bKeep d what k f) := fun h => h.2.elim c_19 (fun h2 => b_12 h2.1)
          have hq1 : sKeepS sh d what k f = sh := if_neg hb9
          have hq0 : (-1 : Int32) = if bKeep d what k f then 0 else -1 := (if_neg hb9).symm
          exact zireti hC hZ hr hlocks ⟨hq0, by rw [hq1]; exact hX, fr56_rf⟩ dX6_keep_55
      · refine lv_aload_n hx hb dX6_keep_22 rfl (lv_at hl 0 rfl) ?_
        refine zget hC hZ fX6_25 (zlt hn rfl) hX.1 rfl dX6_keep_23 ?_
        refine lv_iload_n hx hb dX6_keep_26 rfl (lv_at hl 1 rfl) ?_
        have hs_24 := bSh_i b_4
        refine zaald hC hZ (zlt hn rfl) hX.2.2.2.1 (C := RX4) rfl hs_24.1 hs_24.2 (by decide) rfl dX6_keep_27 ?_
        refine zgov hZ hA (zrunV (As := []) (rest := []) (k := 26 + 3 * (iN d)) hC hZ (c_X4_clear l D cy n ad F H.size (26 + 3 * (iN d)) (sh (iN d)) (by have := hs_24.2; omega) (hX.2.2.2.2.1 (iN d) hs_24.2)) mX4_clear vX4_clear kX6_260 (zRj_of rfl) (by have := hs_24.2; omega) (hX.2.2.2.2.1 (iN d) hs_24.2).1 rfl rfl hl.1 rfl (Nat.le_of_ble_eq_true rfl) dX6_keep_28 ⟨Nat.le_refl _, Nat.le_refl _⟩) (fun F_25 hp_27 H locs hZ => ?_)
        have hsf_30 := RSh_clear (hX.2.2.2.2.1 _ hs_24.2) hp_27
        have hX_28 : RX ad cy F_25 pic sc ps (va_up sh (iN d) (0, (sh (iN d)).2)) rd dr fa mi := rx_shelf hs_24.2 hX hsf_30.1 hsf_30.2
        have hf_29 := fr56_bl fr56_rf hsf_30.2 (by have := hs_24.2; omega)
        refine lv_iconst (v := 0) hx hb dX6_keep_31 (by decide) ?_
        have hb9 : bKeep d what k f := ⟨⟨b_4, b_8⟩, Or.inl c_19⟩
        have hq1 : sKeepS sh d what k f = (va_up sh (iN d) (0, (sh (iN d)).2)) := by unfold sKeepS; rw [if_pos hb9, if_pos c_19]
        have hq0 : (0 : Int32) = if bKeep d what k f then 0 else -1 := (if_pos hb9).symm
        exact zireti hC hZ hr hlocks ⟨hq0, by rw [hq1]; exact hX_28, hf_29⟩ dX6_keep_32
    · rw [if_neg b_8] at hp_7
      subst hp_7
      refine lv_if_ne (tgt := 18) hx hb dX6_keep_13 (by decide) (fun h => absurd (show (0 : Int32) = 0 by decide) h) (fun _ => ?_)
      refine lv_iconst (v := (-1)) hx hb dX6_keep_16 (by decide) ?_
      have hb9 : ¬ (bKeep d what k f) := fun h => b_8 h.1.2
      have hq1 : sKeepS sh d what k f = sh := if_neg hb9
      have hq0 : (-1 : Int32) = if bKeep d what k f then 0 else -1 := (if_neg hb9).symm
      exact zireti hC hZ hr hlocks ⟨hq0, by rw [hq1]; exact hX, fr56_rf⟩ dX6_keep_17
  · rw [if_neg b_4] at hp_3
    subst hp_3
    refine lv_if_eq (tgt := 16) hx hb dX6_keep_4 (by decide) (fun _ => ?_) (fun h => absurd (show (0 : Int32) = 0 by decide) h)
    refine lv_iconst (v := (-1)) hx hb dX6_keep_16 (by decide) ?_
    have hb9 : ¬ (bKeep d what k f) := fun h => b_4 h.1.1
    have hq1 : sKeepS sh d what k f = sh := if_neg hb9
    have hq0 : (-1 : Int32) = if bKeep d what k f then 0 else -1 := (if_neg hb9).symm
    exact zireti hC hZ hr hlocks ⟨hq0, by rw [hq1]; exact hX, fr56_rf⟩ dX6_keep_17

theorem mX6_row : zMd yX6_row cX6_row 4 (some .int) 3 := ⟨by decide +kernel, gt_of 580 (by decide +kernel) rfl, gt_of 45 (by decide +kernel) rfl, by decide⟩
theorem dX6_row_0 : decode cX6_row 0 = .ok (.iload_n 1, 1) := by decide +kernel
theorem dX6_row_1 : decode cX6_row 1 = .ok (.invokestatic 65, 3) := by decide +kernel
theorem dX6_row_4 : decode cX6_row 4 = .ok (.ifCond .eq 18, 3) := by decide +kernel
theorem dX6_row_7 : decode cX6_row 7 = .ok (.iload_n 2, 1) := by decide +kernel
theorem dX6_row_8 : decode cX6_row 8 = .ok (.iconst 0, 1) := by decide +kernel
theorem dX6_row_9 : decode cX6_row 9 = .ok (.iconst 2, 1) := by decide +kernel
theorem dX6_row_10 : decode cX6_row 10 = .ok (.invokestatic 111, 3) := by decide +kernel
theorem dX6_row_13 : decode cX6_row 13 = .ok (.ifCond .eq 9, 3) := by decide +kernel
theorem dX6_row_16 : decode cX6_row 16 = .ok (.iload_n 3, 1) := by decide +kernel
theorem dX6_row_17 : decode cX6_row 17 = .ok (.bipush 100, 2) := by decide +kernel
theorem dX6_row_19 : decode cX6_row 19 = .ok (.if_icmp .le 5, 3) := by decide +kernel
theorem dX6_row_24 : decode cX6_row 24 = .ok (.iload_n 3, 1) := by decide +kernel
theorem dX6_row_25 : decode cX6_row 25 = .ok (.ifCond .ge 6, 3) := by decide +kernel
theorem dX6_row_31 : decode cX6_row 31 = .ok (.aload_n 0, 1) := by decide +kernel
theorem dX6_row_32 : decode cX6_row 32 = .ok (.getfield 25, 3) := by decide +kernel
theorem dX6_row_35 : decode cX6_row 35 = .ok (.iload_n 1, 1) := by decide +kernel
theorem dX6_row_36 : decode cX6_row 36 = .ok (.aaload, 1) := by decide +kernel
theorem dX6_row_37 : decode cX6_row 37 = .ok (.iload_n 2, 1) := by decide +kernel
theorem dX6_row_38 : decode cX6_row 38 = .ok (.iload_n 3, 1) := by decide +kernel
theorem dX6_row_39 : decode cX6_row 39 = .ok (.invokevirtual 264, 3) := by decide +kernel
theorem kX6_264 : zLk RX6 264 yX4_holdRow := Or.inl (gt_of 581 (by decide +kernel) rfl)
theorem vX4_holdRow : zMi yX4_holdRow := ⟨gt_of 582 (by decide +kernel) rfl, gt_of 583 (by decide +kernel) rfl⟩
theorem dX6_row_42 : decode cX6_row 42 = .ok (.iconst 0, 1) := by decide +kernel
theorem dX6_row_43 : decode cX6_row 43 = .ok (.ireturn, 1) := by decide +kernel
theorem dX6_row_28 : decode cX6_row 28 = .ok (.bipush (-14), 2) := by decide +kernel
theorem dX6_row_30 : decode cX6_row 30 = .ok (.ireturn, 1) := by decide +kernel
theorem dX6_row_22 : decode cX6_row 22 = .ok (.iconst (-1), 1) := by decide +kernel
theorem dX6_row_23 : decode cX6_row 23 = .ok (.ireturn, 1) := by decide +kernel
set_option maxRecDepth 100000 in
theorem c_X6_row (l : Launch) (D : va_G) (cy : Nat → Nat) (n : Nat) (ad : Nat → Nat) (F : Nat → va_E) (sz : Nat) (pic : Int32) (sc ps : Scn) (sh : Nat → Shf) (rd : Rdr) (dr : Stg) (fa : Tal) (mi : Crs) (hn : 56 ≤ n) (hX : RX ad cy F pic sc ps sh rd dr fa mi) (d so q : Int32) : Met l yX6_row (zw yX6_row cX6_row 4 (some .int)) (rmL 1) (zPc D cy n ad F sz [.ref (ad 0), .int d, .int so, .int q]) (va_Qi (fun r F1 => r = sRow d so q ∧ RX ad cy F1 pic sc ps (sRowS sh d so q) rd dr fa mi ∧ fr56 F F1) (zB D n ad) (zA n ad sz)) 0 0 (zA n ad sz) := by
  refine zmet (by decide +kernel) (Nat.le_of_ble_eq_true rfl) (fun p e s m args below meth c ls hC hsz hZ hA hr hlocks hnm hl => ?_)
  have hC : zC p m c cX6_row 4 s args RX6 D cy := hC
  have hx := hC.1.1
  have hb := hC.1.2.1
  have hl : lv_has ls 4 [(0, .ref (ad 0)), (1, .int d), (2, .int so), (3, .int q)] := hl
  refine lv_iload_n hx hb dX6_row_0 rfl (lv_at hl 1 rfl) ?_
  refine zgoi hZ hA (zrunS (As := [.int d]) (rest := []) hC hZ (c_X6_isShelf l D cy n ad F s.heap.size d) mX6_isShelf sX6_isShelf kX6_65 (zRj_of rfl) rfl hl.1 rfl (Nat.le_of_ble_eq_true rfl) dX6_row_1 ⟨Nat.le_refl _, Nat.le_refl _⟩) (fun r_2 F_1 hp_3 H locs hZ => ?_)
  obtain ⟨hp_3, rfl⟩ := hp_3
  by_cases b_4 : bSh d
  · rw [if_pos b_4] at hp_3
    subst hp_3
    refine lv_if_eq (tgt := 22) hx hb dX6_row_4 (by decide) (fun h => absurd (show (1 : Int32) = 0 from h) (by decide)) (fun _ => ?_)
    refine lv_iload_n hx hb dX6_row_7 rfl (lv_at hl 2 rfl) ?_
    refine lv_iconst (v := 0) hx hb dX6_row_8 (by decide) ?_
    refine lv_iconst (v := 2) hx hb dX6_row_9 (by decide) ?_
    refine zgoi hZ hA (zrunS (As := [.int so, .int 0, .int 2]) (rest := []) hC hZ (c_X6_isWithin l D cy n ad F H.size so 0 2) mX6_isWithin sX6_isWithin kX6_111 (zRj_of rfl) rfl hl.1 rfl (Nat.le_of_ble_eq_true rfl) dX6_row_10 ⟨Nat.le_refl _, Nat.le_refl _⟩) (fun r_6 F_5 hp_7 H locs hZ => ?_)
    obtain ⟨hp_7, rfl⟩ := hp_7
    by_cases b_8 : bIn so 0 2
    · rw [if_pos b_8] at hp_7
      subst hp_7
      refine lv_if_eq (tgt := 22) hx hb dX6_row_13 (by decide) (fun h => absurd (show (1 : Int32) = 0 from h) (by decide)) (fun _ => ?_)
      refine lv_iload_n hx hb dX6_row_16 rfl (lv_at hl 3 rfl) ?_
      refine lv_bipush (v := 100) hx hb dX6_row_17 (by decide) ?_
      refine lv_icmp_le (tgt := 24) hx hb dX6_row_19 (by decide) (fun c_19 => ?_) (fun c_19 => ?_)
      · refine lv_iload_n hx hb dX6_row_24 rfl (lv_at hl 3 rfl) ?_
        refine lv_if_ge (tgt := 31) hx hb dX6_row_25 (by decide) (fun c_25 => ?_) (fun c_25 => ?_)
        · refine lv_aload_n hx hb dX6_row_31 rfl (lv_at hl 0 rfl) ?_
          refine zget hC hZ fX6_25 (zlt hn rfl) hX.1 rfl dX6_row_32 ?_
          refine lv_iload_n hx hb dX6_row_35 rfl (lv_at hl 1 rfl) ?_
          have hs_9 := bSh_i b_4
          refine zaald hC hZ (zlt hn rfl) hX.2.2.2.1 (C := RX4) rfl hs_9.1 hs_9.2 (by decide) rfl dX6_row_36 ?_
          refine lv_iload_n hx hb dX6_row_37 rfl (lv_at hl 2 rfl) ?_
          refine lv_iload_n hx hb dX6_row_38 rfl (lv_at hl 3 rfl) ?_
          refine zgov hZ hA (zrunV (As := [.int so, .int q]) (rest := []) (k := 26 + 3 * (iN d)) hC hZ (c_X4_holdRow l D cy n ad F H.size (26 + 3 * (iN d)) (sh (iN d)) (by have := hs_9.2; omega) (hX.2.2.2.2.1 (iN d) hs_9.2) so q) mX4_holdRow vX4_holdRow kX6_264 (zRj_of rfl) (by have := hs_9.2; omega) (hX.2.2.2.2.1 (iN d) hs_9.2).1 rfl rfl hl.1 rfl (Nat.le_of_ble_eq_true rfl) dX6_row_39 ⟨Nat.le_refl _, Nat.le_refl _⟩) (fun F_10 hp_12 H locs hZ => ?_)
          have hsf_15 := RSh_row (hX.2.2.2.2.1 _ hs_9.2) hp_12
          have hX_13 : RX ad cy F_10 pic sc ps (va_up sh (iN d) (2, (sh (iN d)).2.1, so, q, zfill (sh (iN d)).2.2.2.2 100)) rd dr fa mi := rx_shelf hs_9.2 hX hsf_15.1 hsf_15.2
          have hf_14 := fr56_bl fr56_rf hsf_15.2 (by have := hs_9.2; omega)
          refine lv_iconst (v := 0) hx hb dX6_row_42 (by decide) ?_
          have hb9 : bRow d so q := ⟨b_4, b_8, c_19⟩
          have hc9 : ¬ q < 0 := Int32.not_lt.mpr c_25
          have hq0 : (0 : Int32) = sRow d so q := by unfold sRow; rw [if_pos hb9, if_neg hc9]
          have hq1 : sRowS sh d so q = (va_up sh (iN d) (2, (sh (iN d)).2.1, so, q, zfill (sh (iN d)).2.2.2.2 100)) := if_pos ⟨hb9, hc9⟩
          exact zireti hC hZ hr hlocks ⟨hq0, by rw [hq1]; exact hX_13, hf_14⟩ dX6_row_43
        · refine lv_bipush (v := (-14)) hx hb dX6_row_28 (by decide) ?_
          have hb9 : bRow d so q := ⟨b_4, b_8, c_19⟩
          have hc9 : q < 0 := Int32.not_le.mp c_25
          have hq0 : (-14 : Int32) = sRow d so q := by unfold sRow; rw [if_pos hb9, if_pos hc9]
          have hq1 : sRowS sh d so q = sh := if_neg (fun h => h.2 hc9)
          exact zireti hC hZ hr hlocks ⟨hq0, by rw [hq1]; exact hX, fr56_rf⟩ dX6_row_30
      · refine lv_iconst (v := (-1)) hx hb dX6_row_22 (by decide) ?_
        have hb9 : ¬ (bRow d so q) := fun h => c_19 h.2.2
        have hq0 : (-1 : Int32) = sRow d so q := (if_neg hb9).symm
        have hq1 : sRowS sh d so q = sh := if_neg (fun h => hb9 h.1)
        exact zireti hC hZ hr hlocks ⟨hq0, by rw [hq1]; exact hX, fr56_rf⟩ dX6_row_23
    · rw [if_neg b_8] at hp_7
      subst hp_7
      refine lv_if_eq (tgt := 22) hx hb dX6_row_13 (by decide) (fun _ => ?_) (fun h => absurd (show (0 : Int32) = 0 by decide) h)
      refine lv_iconst (v := (-1)) hx hb dX6_row_22 (by decide) ?_
      have hb9 : ¬ (bRow d so q) := fun h => b_8 h.2.1
      have hq0 : (-1 : Int32) = sRow d so q := (if_neg hb9).symm
      have hq1 : sRowS sh d so q = sh := if_neg (fun h => hb9 h.1)
      exact zireti hC hZ hr hlocks ⟨hq0, by rw [hq1]; exact hX, fr56_rf⟩ dX6_row_23
  · rw [if_neg b_4] at hp_3
    subst hp_3
    refine lv_if_eq (tgt := 22) hx hb dX6_row_4 (by decide) (fun _ => ?_) (fun h => absurd (show (0 : Int32) = 0 by decide) h)
    refine lv_iconst (v := (-1)) hx hb dX6_row_22 (by decide) ?_
    have hb9 : ¬ (bRow d so q) := fun h => b_4 h.1
    have hq0 : (-1 : Int32) = sRow d so q := (if_neg hb9).symm
    have hq1 : sRowS sh d so q = sh := if_neg (fun h => hb9 h.1)
    exact zireti hC hZ hr hlocks ⟨hq0, by rw [hq1]; exact hX, fr56_rf⟩ dX6_row_23

theorem mX6_put : zMd yX6_put cX6_put 5 (some .int) 3 := ⟨by decide +kernel, gt_of 588 (by decide +kernel) rfl, gt_of 45 (by decide +kernel) rfl, by decide⟩
theorem dX6_put_0 : decode cX6_put 0 = .ok (.aload_n 0, 1) := by decide +kernel
theorem dX6_put_1 : decode cX6_put 1 = .ok (.iload_n 1, 1) := by decide +kernel
theorem dX6_put_2 : decode cX6_put 2 = .ok (.invokevirtual 115, 3) := by decide +kernel
theorem kX6_115 : zLk RX6 115 yX6_rowRefusal := Or.inl (gt_of 274 (by decide +kernel) rfl)
theorem vX6_rowRefusal : zMi yX6_rowRefusal := ⟨gt_of 276 (by decide +kernel) rfl, gt_of 1 (by decide +kernel) rfl⟩
theorem dX6_put_5 : decode cX6_put 5 = .ok (.istore 4, 2) := by decide +kernel
theorem dX6_put_7 : decode cX6_put 7 = .ok (.iload 4, 2) := by decide +kernel
theorem dX6_put_9 : decode cX6_put 9 = .ok (.ifCond .eq 6, 3) := by decide +kernel
theorem dX6_put_15 : decode cX6_put 15 = .ok (.aload_n 0, 1) := by decide +kernel
theorem dX6_put_16 : decode cX6_put 16 = .ok (.getfield 25, 3) := by decide +kernel
theorem dX6_put_19 : decode cX6_put 19 = .ok (.iload_n 1, 1) := by decide +kernel
theorem dX6_put_20 : decode cX6_put 20 = .ok (.aaload, 1) := by decide +kernel
theorem dX6_put_21 : decode cX6_put 21 = .ok (.iload_n 2, 1) := by decide +kernel
theorem dX6_put_22 : decode cX6_put 22 = .ok (.invokevirtual 267, 3) := by decide +kernel
theorem kX6_267 : zLk RX6 267 yX4_hasPlace := Or.inl (gt_of 589 (by decide +kernel) rfl)
theorem dX6_put_25 : decode cX6_put 25 = .ok (.ifCond .ne 6, 3) := by decide +kernel
theorem dX6_put_31 : decode cX6_put 31 = .ok (.aload_n 0, 1) := by decide +kernel
theorem dX6_put_32 : decode cX6_put 32 = .ok (.getfield 25, 3) := by decide +kernel
theorem dX6_put_35 : decode cX6_put 35 = .ok (.iload_n 1, 1) := by decide +kernel
theorem dX6_put_36 : decode cX6_put 36 = .ok (.aaload, 1) := by decide +kernel
theorem dX6_put_37 : decode cX6_put 37 = .ok (.iload_n 2, 1) := by decide +kernel
theorem dX6_put_38 : decode cX6_put 38 = .ok (.iload_n 3, 1) := by decide +kernel
theorem dX6_put_39 : decode cX6_put 39 = .ok (.invokevirtual 270, 3) := by decide +kernel
theorem kX6_270 : zLk RX6 270 yX4_change := Or.inl (gt_of 590 (by decide +kernel) rfl)
theorem vX4_change : zMi yX4_change := ⟨gt_of 591 (by decide +kernel) rfl, gt_of 592 (by decide +kernel) rfl⟩
theorem dX6_put_42 : decode cX6_put 42 = .ok (.iconst 0, 1) := by decide +kernel
theorem dX6_put_43 : decode cX6_put 43 = .ok (.ireturn, 1) := by decide +kernel
theorem dX6_put_28 : decode cX6_put 28 = .ok (.bipush (-13), 2) := by decide +kernel
theorem dX6_put_30 : decode cX6_put 30 = .ok (.ireturn, 1) := by decide +kernel
theorem dX6_put_12 : decode cX6_put 12 = .ok (.iload 4, 2) := by decide +kernel
theorem dX6_put_14 : decode cX6_put 14 = .ok (.ireturn, 1) := by decide +kernel
set_option maxRecDepth 100000 in
theorem c_X6_put (l : Launch) (D : va_G) (cy : Nat → Nat) (n : Nat) (ad : Nat → Nat) (F : Nat → va_E) (sz : Nat) (pic : Int32) (sc ps : Scn) (sh : Nat → Shf) (rd : Rdr) (dr : Stg) (fa : Tal) (mi : Crs) (hn : 56 ≤ n) (hX : RX ad cy F pic sc ps sh rd dr fa mi) (d i v : Int32) : Met l yX6_put (zw yX6_put cX6_put 5 (some .int)) (rmL 3) (zPc D cy n ad F sz [.ref (ad 0), .int d, .int i, .int v]) (va_Qi (fun r F1 => r = sPut sh d i ∧ RX ad cy F1 pic sc ps (sPutS sh d i v) rd dr fa mi ∧ fr56 F F1) (zB D n ad) (zA n ad sz)) 0 0 (zA n ad sz) := by
  refine zmet (by decide +kernel) (Nat.le_of_ble_eq_true rfl) (fun p e s m args below meth c ls hC hsz hZ hA hr hlocks hnm hl => ?_)
  have hC : zC p m c cX6_put 5 s args RX6 D cy := hC
  have hx := hC.1.1
  have hb := hC.1.2.1
  have hl : lv_has ls 5 [(0, .ref (ad 0)), (1, .int d), (2, .int i), (3, .int v)] := hl
  refine lv_aload_n hx hb dX6_put_0 rfl (lv_at hl 0 rfl) ?_
  refine lv_iload_n hx hb dX6_put_1 rfl (lv_at hl 1 rfl) ?_
  refine zgoi hZ hA (zrunV (As := [.int d]) (rest := []) (k := 0) hC hZ (c_X6_rowRefusal l D cy n ad F s.heap.size pic sc ps sh rd dr fa mi hn hX d) mX6_rowRefusal vX6_rowRefusal kX6_115 (zRj_of rfl) (zlt hn rfl) hX.1 rfl rfl hl.1 rfl (Nat.le_of_ble_eq_true rfl) dX6_put_2 ⟨Nat.le_refl _, Nat.le_refl _⟩) (fun r_2 F_1 hp_3 H locs hZ => ?_)
  obtain ⟨rfl, rfl⟩ := hp_3
  refine lv_istore (lv' := [(4, .int (sRowR sh d)), (0, .ref (ad 0)), (1, .int d), (2, .int i), (3, .int v)]) hx hb dX6_put_5 hl (by decide) rfl (fun ls hl => ?_)
  refine lv_iload hx hb dX6_put_7 (lv_at hl 0 rfl) ?_
  refine lv_if_eq (tgt := 15) hx hb dX6_put_9 (by decide) (fun c_9 => ?_) (fun c_9 => ?_)
  · refine lv_aload_n hx hb dX6_put_15 rfl (lv_at hl 1 rfl) ?_
    refine zget hC hZ fX6_25 (zlt hn rfl) hX.1 rfl dX6_put_16 ?_
    refine lv_iload_n hx hb dX6_put_19 rfl (lv_at hl 2 rfl) ?_
    have hs_4 := sRowR_0 c_9
    refine zaald hC hZ (zlt hn rfl) hX.2.2.2.1 (C := RX4) rfl hs_4.1.1 hs_4.1.2 (by decide) rfl dX6_put_20 ?_
    refine lv_iload_n hx hb dX6_put_21 rfl (lv_at hl 3 rfl) ?_
    refine zgoi hZ hA (zrunV (As := [.int i]) (rest := []) (k := 26 + 3 * (iN d)) hC hZ (c_X4_hasPlace l D cy n ad F H.size (26 + 3 * (iN d)) (sh (iN d)) (by have := hs_4.1.2; omega) (hX.2.2.2.2.1 (iN d) hs_4.1.2) i) mX4_hasPlace vX4_hasPlace kX6_267 (zRj_of rfl) (by have := hs_4.1.2; omega) (hX.2.2.2.2.1 (iN d) hs_4.1.2).1 rfl rfl hl.1 rfl (Nat.le_of_ble_eq_true rfl) dX6_put_22 ⟨Nat.le_refl _, Nat.le_refl _⟩) (fun r_6 F_5 hp_7 H locs hZ => ?_)
    obtain ⟨hp_7, rfl⟩ := hp_7
    by_cases b_8 : bPlace (sh (iN d)).2.2.2.1 i
    · rw [if_pos b_8] at hp_7
      subst hp_7
      refine lv_if_ne (tgt := 31) hx hb dX6_put_25 (by decide) (fun _ => ?_) (fun h => absurd (show (1 : Int32) = 0 from h) (by decide))
      refine lv_aload_n hx hb dX6_put_31 rfl (lv_at hl 1 rfl) ?_
      refine zget hC hZ fX6_25 (zlt hn rfl) hX.1 rfl dX6_put_32 ?_
      refine lv_iload_n hx hb dX6_put_35 rfl (lv_at hl 2 rfl) ?_
      refine zaald hC hZ (zlt hn rfl) hX.2.2.2.1 (C := RX4) rfl hs_4.1.1 hs_4.1.2 (by decide) rfl dX6_put_36 ?_
      refine lv_iload_n hx hb dX6_put_37 rfl (lv_at hl 3 rfl) ?_
      refine lv_iload_n hx hb dX6_put_38 rfl (lv_at hl 4 rfl) ?_
      refine zgov hZ hA (zrunV (As := [.int i, .int v]) (rest := []) (k := 26 + 3 * (iN d)) hC hZ (c_X4_change l D cy n ad F H.size (26 + 3 * (iN d)) (sh (iN d)) (by have := hs_4.1.2; omega) (hX.2.2.2.2.1 (iN d) hs_4.1.2) i v) mX4_change vX4_change kX6_270 (zRj_of rfl) (by have := hs_4.1.2; omega) (hX.2.2.2.2.1 (iN d) hs_4.1.2).1 rfl rfl hl.1 rfl (Nat.le_of_ble_eq_true rfl) dX6_put_39 ⟨Nat.le_refl _, Nat.le_refl _⟩) (fun F_9 hp_11 H locs hZ => ?_)
      rw [if_pos b_8] at hp_11
      have hsf_14 := RSh_elem (hX.2.2.2.2.1 _ hs_4.1.2) hp_11
      have hX_12 : RX ad cy F_9 pic sc ps (va_up sh (iN d) ((sh (iN d)).1, (sh (iN d)).2.1, (sh (iN d)).2.2.1, (sh (iN d)).2.2.2.1, upd (sh (iN d)).2.2.2.2 (iN i) (sNar (sh (iN d)).2.2.1 v))) rd dr fa mi := rx_shelf hs_4.1.2 hX hsf_14.1 hsf_14.2
      have hf_13 := fr56_bl fr56_rf hsf_14.2 (by have := hs_4.1.2; omega)
      refine lv_iconst (v := 0) hx hb dX6_put_42 (by decide) ?_
      have hq0 : (0 : Int32) = sPut sh d i := by unfold sPut; rw [if_pos c_9, if_pos b_8]
      have hq1 : sPutS sh d i v = (va_up sh (iN d) ((sh (iN d)).1, (sh (iN d)).2.1, (sh (iN d)).2.2.1, (sh (iN d)).2.2.2.1, upd (sh (iN d)).2.2.2.2 (iN i) (sNar (sh (iN d)).2.2.1 v))) := if_pos ⟨c_9, b_8⟩
      exact zireti hC hZ hr hlocks ⟨hq0, by rw [hq1]; exact hX_12, hf_13⟩ dX6_put_43
    · rw [if_neg b_8] at hp_7
      subst hp_7
      refine lv_if_ne (tgt := 31) hx hb dX6_put_25 (by decide) (fun h => absurd (show (0 : Int32) = 0 by decide) h) (fun _ => ?_)
      refine lv_bipush (v := (-13)) hx hb dX6_put_28 (by decide) ?_
      have hq0 : (-13 : Int32) = sPut sh d i := by unfold sPut; rw [if_pos c_9, if_neg b_8]
      have hq1 : sPutS sh d i v = sh := if_neg (fun h => b_8 h.2)
      exact zireti hC hZ hr hlocks ⟨hq0, by rw [hq1]; exact hX, fr56_rf⟩ dX6_put_30
  · refine lv_iload hx hb dX6_put_12 (lv_at hl 0 rfl) ?_
    have hq0 : sRowR sh d = sPut sh d i := (if_neg c_9).symm
    have hq1 : sPutS sh d i v = sh := if_neg (fun h => c_9 h.1)
    exact zireti hC hZ hr hlocks ⟨hq0, by rw [hq1]; exact hX, fr56_rf⟩ dX6_put_14

theorem mX6_copy : zMd yX6_copy cX6_copy 9 (some .int) 5 := ⟨by decide +kernel, gt_of 597 (by decide +kernel) rfl, gt_of 45 (by decide +kernel) rfl, by decide⟩
theorem dX6_copy_0 : decode cX6_copy 0 = .ok (.aload_n 0, 1) := by decide +kernel
theorem dX6_copy_1 : decode cX6_copy 1 = .ok (.iload_n 1, 1) := by decide +kernel
theorem dX6_copy_2 : decode cX6_copy 2 = .ok (.invokevirtual 115, 3) := by decide +kernel
theorem dX6_copy_5 : decode cX6_copy 5 = .ok (.aload_n 0, 1) := by decide +kernel
theorem dX6_copy_6 : decode cX6_copy 6 = .ok (.iload_n 3, 1) := by decide +kernel
theorem dX6_copy_7 : decode cX6_copy 7 = .ok (.invokevirtual 115, 3) := by decide +kernel
theorem dX6_copy_10 : decode cX6_copy 10 = .ok (.invokestatic 204, 3) := by decide +kernel
theorem kX6_204 : zLk RX6 204 yX6_firstRefusal := Or.inl (gt_of 454 (by decide +kernel) rfl)
theorem sX6_firstRefusal : Cond.static yX6_firstRefusal ∈ gtbl := gt_of 455 (by decide +kernel) rfl
theorem dX6_copy_13 : decode cX6_copy 13 = .ok (.istore 6, 2) := by decide +kernel
theorem dX6_copy_15 : decode cX6_copy 15 = .ok (.iload 6, 2) := by decide +kernel
theorem dX6_copy_17 : decode cX6_copy 17 = .ok (.ifCond .eq 6, 3) := by decide +kernel
theorem dX6_copy_23 : decode cX6_copy 23 = .ok (.aload_n 0, 1) := by decide +kernel
theorem dX6_copy_24 : decode cX6_copy 24 = .ok (.getfield 25, 3) := by decide +kernel
theorem dX6_copy_27 : decode cX6_copy 27 = .ok (.iload_n 1, 1) := by decide +kernel
theorem dX6_copy_28 : decode cX6_copy 28 = .ok (.aaload, 1) := by decide +kernel
theorem dX6_copy_29 : decode cX6_copy 29 = .ok (.astore 7, 2) := by decide +kernel
theorem dX6_copy_31 : decode cX6_copy 31 = .ok (.aload_n 0, 1) := by decide +kernel
theorem dX6_copy_32 : decode cX6_copy 32 = .ok (.getfield 25, 3) := by decide +kernel
theorem dX6_copy_35 : decode cX6_copy 35 = .ok (.iload_n 3, 1) := by decide +kernel
theorem dX6_copy_36 : decode cX6_copy 36 = .ok (.aaload, 1) := by decide +kernel
theorem dX6_copy_37 : decode cX6_copy 37 = .ok (.astore 8, 2) := by decide +kernel
theorem dX6_copy_39 : decode cX6_copy 39 = .ok (.aload 7, 2) := by decide +kernel
theorem dX6_copy_41 : decode cX6_copy 41 = .ok (.getfield 118, 3) := by decide +kernel
theorem fX6_118 : zFld RX6 118 4 2 := ⟨RX4, TX4, 5, rfl, inX4, by decide, rfl, Or.inr ⟨"ChainLeap", List.mem_of_getElem? (i := 183) (by decide +kernel)⟩⟩
theorem dX6_copy_44 : decode cX6_copy 44 = .ok (.aload 8, 2) := by decide +kernel
theorem dX6_copy_46 : decode cX6_copy 46 = .ok (.getfield 118, 3) := by decide +kernel
theorem dX6_copy_49 : decode cX6_copy 49 = .ok (.if_icmp .eq 6, 3) := by decide +kernel
theorem dX6_copy_55 : decode cX6_copy 55 = .ok (.aload 7, 2) := by decide +kernel
theorem dX6_copy_57 : decode cX6_copy 57 = .ok (.iload_n 2, 1) := by decide +kernel
theorem dX6_copy_58 : decode cX6_copy 58 = .ok (.iload 5, 2) := by decide +kernel
theorem dX6_copy_60 : decode cX6_copy 60 = .ok (.invokevirtual 288, 3) := by decide +kernel
theorem kX6_288 : zLk RX6 288 yX4_hasStretch := Or.inl (gt_of 598 (by decide +kernel) rfl)
theorem vX4_hasStretch : zMi yX4_hasStretch := ⟨gt_of 599 (by decide +kernel) rfl, gt_of 600 (by decide +kernel) rfl⟩
theorem dX6_copy_63 : decode cX6_copy 63 = .ok (.ifCond .eq 15, 3) := by decide +kernel
theorem dX6_copy_66 : decode cX6_copy 66 = .ok (.aload 8, 2) := by decide +kernel
theorem dX6_copy_68 : decode cX6_copy 68 = .ok (.iload 4, 2) := by decide +kernel
theorem dX6_copy_70 : decode cX6_copy 70 = .ok (.iload 5, 2) := by decide +kernel
theorem dX6_copy_72 : decode cX6_copy 72 = .ok (.invokevirtual 288, 3) := by decide +kernel
theorem dX6_copy_75 : decode cX6_copy 75 = .ok (.ifCond .ne 6, 3) := by decide +kernel
theorem dX6_copy_81 : decode cX6_copy 81 = .ok (.aload 7, 2) := by decide +kernel
theorem dX6_copy_83 : decode cX6_copy 83 = .ok (.getfield 291, 3) := by decide +kernel
theorem fX6_291 : zFld RX6 291 4 4 := ⟨RX4, TX4, 5, rfl, inX4, by decide, rfl, Or.inr ⟨"ChainLeap", List.mem_of_getElem? (i := 188) (by decide +kernel)⟩⟩
theorem dX6_copy_86 : decode cX6_copy 86 = .ok (.iload_n 2, 1) := by decide +kernel
theorem dX6_copy_87 : decode cX6_copy 87 = .ok (.aload 8, 2) := by decide +kernel
theorem dX6_copy_89 : decode cX6_copy 89 = .ok (.getfield 291, 3) := by decide +kernel
theorem dX6_copy_92 : decode cX6_copy 92 = .ok (.iload 4, 2) := by decide +kernel
theorem dX6_copy_94 : decode cX6_copy 94 = .ok (.iload 5, 2) := by decide +kernel
theorem dX6_copy_96 : decode cX6_copy 96 = .ok (.invokestatic 295, 3) := by decide +kernel
theorem dX6_copy_99 : decode cX6_copy 99 = .ok (.iload 5, 2) := by decide +kernel
theorem dX6_copy_101 : decode cX6_copy 101 = .ok (.ireturn, 1) := by decide +kernel
theorem dX6_copy_78 : decode cX6_copy 78 = .ok (.bipush (-13), 2) := by decide +kernel
theorem dX6_copy_80 : decode cX6_copy 80 = .ok (.ireturn, 1) := by decide +kernel
theorem dX6_copy_52 : decode cX6_copy 52 = .ok (.bipush (-12), 2) := by decide +kernel
theorem dX6_copy_54 : decode cX6_copy 54 = .ok (.ireturn, 1) := by decide +kernel
theorem dX6_copy_20 : decode cX6_copy 20 = .ok (.iload 6, 2) := by decide +kernel
theorem dX6_copy_22 : decode cX6_copy 22 = .ok (.ireturn, 1) := by decide +kernel
set_option maxRecDepth 100000 in
theorem c_X6_copy (l : Launch) (D : va_G) (cy : Nat → Nat) (n : Nat) (ad : Nat → Nat) (F : Nat → va_E) (sz : Nat) (pic : Int32) (sc ps : Scn) (sh : Nat → Shf) (rd : Rdr) (dr : Stg) (fa : Tal) (mi : Crs) (hn : 56 ≤ n) (hX : RX ad cy F pic sc ps sh rd dr fa mi) (hG : gX sc ps sh) (d i e0 j q : Int32) : Met l yX6_copy (zw yX6_copy cX6_copy 9 (some .int)) (rmL 3) (zPc D cy n ad F sz [.ref (ad 0), .int d, .int i, .int e0, .int j, .int q]) (va_Qi (fun r F1 => r = sCopy sh d i e0 j q ∧ RX ad cy F1 pic sc ps (sCopyS sh d i e0 j q) rd dr fa mi ∧ fr56 F F1) (zB D n ad) (zA n ad sz)) 0 0 (zA n ad sz) := by
  refine zmet (by decide +kernel) (Nat.le_of_ble_eq_true rfl) (fun p e s m args below meth c ls hC hsz hZ hA hr hlocks hnm hl => ?_)
  have hC : zC p m c cX6_copy 9 s args RX6 D cy := hC
  have hx := hC.1.1
  have hb := hC.1.2.1
  have hl : lv_has ls 9 [(0, .ref (ad 0)), (1, .int d), (2, .int i), (3, .int e0), (4, .int j), (5, .int q)] := hl
  refine lv_aload_n hx hb dX6_copy_0 rfl (lv_at hl 0 rfl) ?_
  refine lv_iload_n hx hb dX6_copy_1 rfl (lv_at hl 1 rfl) ?_
  refine zgoi hZ hA (zrunV (As := [.int d]) (rest := []) (k := 0) hC hZ (c_X6_rowRefusal l D cy n ad F s.heap.size pic sc ps sh rd dr fa mi hn hX d) mX6_rowRefusal vX6_rowRefusal kX6_115 (zRj_of rfl) (zlt hn rfl) hX.1 rfl rfl hl.1 rfl (Nat.le_of_ble_eq_true rfl) dX6_copy_2 ⟨Nat.le_refl _, Nat.le_refl _⟩) (fun r_2 F_1 hp_3 H locs hZ => ?_)
  obtain ⟨rfl, rfl⟩ := hp_3
  refine lv_aload_n hx hb dX6_copy_5 rfl (lv_at hl 0 rfl) ?_
  refine lv_iload_n hx hb dX6_copy_6 rfl (lv_at hl 3 rfl) ?_
  refine zgoi hZ hA (zrunV (As := [.int e0]) (rest := [.int (sRowR sh d)]) (k := 0) hC hZ (c_X6_rowRefusal l D cy n ad F H.size pic sc ps sh rd dr fa mi hn hX e0) mX6_rowRefusal vX6_rowRefusal kX6_115 (zRj_of rfl) (zlt hn rfl) hX.1 rfl rfl hl.1 rfl (Nat.le_of_ble_eq_true rfl) dX6_copy_7 ⟨Nat.le_refl _, Nat.le_refl _⟩) (fun r_5 F_4 hp_6 H locs hZ => ?_)
  obtain ⟨rfl, rfl⟩ := hp_6
  refine zgoi hZ hA (zrunS (As := [.int (sRowR sh d), .int (sRowR sh e0)]) (rest := []) hC hZ (c_X6_firstRefusal l D cy n ad F H.size (sRowR sh d) (sRowR sh e0)) mX6_firstRefusal sX6_firstRefusal kX6_204 (zRj_of rfl) rfl hl.1 rfl (Nat.le_of_ble_eq_true rfl) dX6_copy_10 ⟨Nat.le_refl _, Nat.le_refl _⟩) (fun r_8 F_7 hp_9 H locs hZ => ?_)
  obtain ⟨rfl, rfl⟩ := hp_9
  refine lv_istore (lv' := [(6, .int (sFirst (sRowR sh d) (sRowR sh e0))), (0, .ref (ad 0)), (1, .int d), (2, .int i), (3, .int e0), (4, .int j), (5, .int q)]) hx hb dX6_copy_13 hl (by decide) rfl (fun ls hl => ?_)
  refine lv_iload hx hb dX6_copy_15 (lv_at hl 0 rfl) ?_
  refine lv_if_eq (tgt := 23) hx hb dX6_copy_17 (by decide) (fun c_17 => ?_) (fun c_17 => ?_)
  · refine lv_aload_n hx hb dX6_copy_23 rfl (lv_at hl 1 rfl) ?_
    refine zget hC hZ fX6_25 (zlt hn rfl) hX.1 rfl dX6_copy_24 ?_
    refine lv_iload_n hx hb dX6_copy_27 rfl (lv_at hl 2 rfl) ?_
    have hz := sFirst_0 (sRowR_le sh d) (sRowR_le sh e0) c_17
    have hsd := sRowR_0 hz.1
    have hse := sRowR_0 hz.2
    refine zaald hC hZ (zlt hn rfl) hX.2.2.2.1 (C := RX4) rfl hsd.1.1 hsd.1.2 (by decide) rfl dX6_copy_28 ?_
    refine lv_astore (lv' := [(7, .ref (ad (26 + 3 * (iN d)))), (6, .int (sFirst (sRowR sh d) (sRowR sh e0))), (0, .ref (ad 0)), (1, .int d), (2, .int i), (3, .int e0), (4, .int j), (5, .int q)]) hx hb dX6_copy_29 hl (by decide) rfl (fun ls hl => ?_)
    refine lv_aload_n hx hb dX6_copy_31 rfl (lv_at hl 2 rfl) ?_
    refine zget hC hZ fX6_25 (zlt hn rfl) hX.1 rfl dX6_copy_32 ?_
    refine lv_iload_n hx hb dX6_copy_35 rfl (lv_at hl 5 rfl) ?_
    refine zaald hC hZ (zlt hn rfl) hX.2.2.2.1 (C := RX4) rfl hse.1.1 hse.1.2 (by decide) rfl dX6_copy_36 ?_
    refine lv_astore (lv' := [(8, .ref (ad (26 + 3 * (iN e0)))), (7, .ref (ad (26 + 3 * (iN d)))), (6, .int (sFirst (sRowR sh d) (sRowR sh e0))), (0, .ref (ad 0)), (1, .int d), (2, .int i), (3, .int e0), (4, .int j), (5, .int q)]) hx hb dX6_copy_37 hl (by decide) rfl (fun ls hl => ?_)
    refine lv_aload hx hb dX6_copy_39 (lv_at hl 1 rfl) ?_
    refine zget hC hZ fX6_118 (by have := hsd.1.2; omega) (hX.2.2.2.2.1 (iN d) hsd.1.2).1 rfl dX6_copy_41 ?_
    refine lv_aload hx hb dX6_copy_44 (lv_at hl 0 rfl) ?_
    refine zget hC hZ fX6_118 (by have := hse.1.2; omega) (hX.2.2.2.2.1 (iN e0) hse.1.2).1 rfl dX6_copy_46 ?_
    refine lv_icmp_eq (tgt := 55) hx hb dX6_copy_49 (by decide) (fun c_49 => ?_) (fun c_49 => ?_)
    · refine lv_aload hx hb dX6_copy_55 (lv_at hl 1 rfl) ?_
      refine lv_iload_n hx hb dX6_copy_57 rfl (lv_at hl 5 rfl) ?_
      refine lv_iload hx hb dX6_copy_58 (lv_at hl 8 rfl) ?_
      refine zgoi hZ hA (zrunV (As := [.int i, .int q]) (rest := []) (k := 26 + 3 * (iN d)) hC hZ (c_X4_hasStretch l D cy n ad F H.size (26 + 3 * (iN d)) (sh (iN d)) (by have := hsd.1.2; omega) (hX.2.2.2.2.1 (iN d) hsd.1.2) i q) mX4_hasStretch vX4_hasStretch kX6_288 (zRj_of rfl) (by have := hsd.1.2; omega) (hX.2.2.2.2.1 (iN d) hsd.1.2).1 rfl rfl hl.1 rfl (Nat.le_of_ble_eq_true rfl) dX6_copy_60 ⟨Nat.le_refl _, Nat.le_refl _⟩) (fun r_11 F_10 hp_12 H locs hZ => ?_)
      obtain ⟨hp_12, rfl⟩ := hp_12
      by_cases b_13 : bStretch (sh (iN d)).2.2.2.1 i q
      · rw [if_pos b_13] at hp_12
        subst hp_12
        refine lv_if_eq (tgt := 78) hx hb dX6_copy_63 (by decide) (fun h => absurd (show (1 : Int32) = 0 from h) (by decide)) (fun _ => ?_)
        refine lv_aload hx hb dX6_copy_66 (lv_at hl 0 rfl) ?_
        refine lv_iload hx hb dX6_copy_68 (lv_at hl 7 rfl) ?_
        refine lv_iload hx hb dX6_copy_70 (lv_at hl 8 rfl) ?_
        refine zgoi hZ hA (zrunV (As := [.int j, .int q]) (rest := []) (k := 26 + 3 * (iN e0)) hC hZ (c_X4_hasStretch l D cy n ad F H.size (26 + 3 * (iN e0)) (sh (iN e0)) (by have := hse.1.2; omega) (hX.2.2.2.2.1 (iN e0) hse.1.2) j q) mX4_hasStretch vX4_hasStretch kX6_288 (zRj_of rfl) (by have := hse.1.2; omega) (hX.2.2.2.2.1 (iN e0) hse.1.2).1 rfl rfl hl.1 rfl (Nat.le_of_ble_eq_true rfl) dX6_copy_72 ⟨Nat.le_refl _, Nat.le_refl _⟩) (fun r_15 F_14 hp_16 H locs hZ => ?_)
        obtain ⟨hp_16, rfl⟩ := hp_16
        by_cases b_17 : bStretch (sh (iN e0)).2.2.2.1 j q
        · rw [if_pos b_17] at hp_16
          subst hp_16
          refine lv_if_ne (tgt := 81) hx hb dX6_copy_75 (by decide) (fun _ => ?_) (fun h => absurd (show (1 : Int32) = 0 from h) (by decide))
          refine lv_aload hx hb dX6_copy_81 (lv_at hl 1 rfl) ?_
          refine zget hC hZ fX6_291 (by have := hsd.1.2; omega) (hX.2.2.2.2.1 (iN d) hsd.1.2).1 rfl dX6_copy_83 ?_
          refine lv_iload_n hx hb dX6_copy_86 rfl (lv_at hl 5 rfl) ?_
          refine lv_aload hx hb dX6_copy_87 (lv_at hl 0 rfl) ?_
          refine zget hC hZ fX6_291 (by have := hse.1.2; omega) (hX.2.2.2.2.1 (iN e0) hse.1.2).1 rfl dX6_copy_89 ?_
          refine lv_iload hx hb dX6_copy_92 (lv_at hl 7 rfl) ?_
          refine lv_iload hx hb dX6_copy_94 (lv_at hl 8 rfl) ?_
          have hgd := hG.2.2 _ hsd.1.2
          have hge := hG.2.2 _ hse.1.2
          have hbi := bStretch_in b_13 hgd.2.1 hgd.2.2.1
          have hbj := bStretch_in b_17 hge.2.1 hge.2.2.1
          refine zcopy (rest := []) (k0 := 26 + 3 * (iN d) + 2) (k1 := 26 + 3 * (iN e0) + 2) hC hZ (gt_of 602 (by decide +kernel) rfl) (gt_of 604 (by decide +kernel) rfl) (gt_of 603 (by decide +kernel) rfl) (gt_of 59 (by decide +kernel) rfl) hl.1 (by have := hsd.1.2; omega) (by have := hse.1.2; omega) (hX.2.2.2.2.1 (iN d) hsd.1.2).2.2 (hX.2.2.2.2.1 (iN e0) hse.1.2).2.2 hbi.1 hbj.1 hbi.2.1 hbi.2.2 hbj.2.2 (zRj_of rfl) (by decide) dX6_copy_96 (fun F_18 hF_19 H locs hZ => ?_)
          have hsf_22 := RSh_elem (hX.2.2.2.2.1 _ hse.1.2) hF_19
          have hX_20 : RX ad cy F_18 pic sc ps (va_up sh (iN e0) ((sh (iN e0)).1, (sh (iN e0)).2.1, (sh (iN e0)).2.2.1, (sh (iN e0)).2.2.2.1, va_cpy (sh (iN d)).2.2.2.2 (sh (iN e0)).2.2.2.2 (iN i) (iN j) (iN q))) rd dr fa mi := rx_shelf hse.1.2 hX hsf_22.1 hsf_22.2
          have hf_21 := fr56_bl fr56_rf hsf_22.2 (by have := hse.1.2; omega)
          refine lv_iload hx hb dX6_copy_99 (lv_at hl 8 rfl) ?_
          have hq0 : q = sCopy sh d i e0 j q := by unfold sCopy; rw [if_pos c_17, if_pos c_49, if_pos ⟨b_13, b_17⟩]
          have hq1 : sCopyS sh d i e0 j q = (va_up sh (iN e0) ((sh (iN e0)).1, (sh (iN e0)).2.1, (sh (iN e0)).2.2.1, (sh (iN e0)).2.2.2.1, va_cpy (sh (iN d)).2.2.2.2 (sh (iN e0)).2.2.2.2 (iN i) (iN j) (iN q))) := if_pos ⟨c_17, c_49, b_13, b_17⟩
          exact zireti hC hZ hr hlocks ⟨hq0, by rw [hq1]; exact hX_20, hf_21⟩ dX6_copy_101
        · rw [if_neg b_17] at hp_16
          subst hp_16
          refine lv_if_ne (tgt := 81) hx hb dX6_copy_75 (by decide) (fun h => absurd (show (0 : Int32) = 0 by decide) h) (fun _ => ?_)
          refine lv_bipush (v := (-13)) hx hb dX6_copy_78 (by decide) ?_
          have hq0 : (-13 : Int32) = sCopy sh d i e0 j q := by unfold sCopy; rw [if_pos c_17, if_pos c_49, if_neg (fun h => b_17 h.2)]
          have hq1 : sCopyS sh d i e0 j q = sh := if_neg (fun h => b_17 h.2.2.2)
          exact zireti hC hZ hr hlocks ⟨hq0, by rw [hq1]; exact hX, fr56_rf⟩ dX6_copy_80
      · rw [if_neg b_13] at hp_12
        subst hp_12
        refine lv_if_eq (tgt := 78) hx hb dX6_copy_63 (by decide) (fun _ => ?_) (fun h => absurd (show (0 : Int32) = 0 by decide) h)
        refine lv_bipush (v := (-13)) hx hb dX6_copy_78 (by decide) ?_
        have hq0 : (-13 : Int32) = sCopy sh d i e0 j q := by unfold sCopy; rw [if_pos c_17, if_pos c_49, if_neg (fun h => b_13 h.1)]
        have hq1 : sCopyS sh d i e0 j q = sh := if_neg (fun h => b_13 h.2.2.1)
        exact zireti hC hZ hr hlocks ⟨hq0, by rw [hq1]; exact hX, fr56_rf⟩ dX6_copy_80
    · refine lv_bipush (v := (-12)) hx hb dX6_copy_52 (by decide) ?_
      have hq0 : (-12 : Int32) = sCopy sh d i e0 j q := by unfold sCopy; rw [if_pos c_17, if_neg c_49]
      have hq1 : sCopyS sh d i e0 j q = sh := if_neg (fun h => c_49 h.2.1)
      exact zireti hC hZ hr hlocks ⟨hq0, by rw [hq1]; exact hX, fr56_rf⟩ dX6_copy_54
  · refine lv_iload hx hb dX6_copy_20 (lv_at hl 0 rfl) ?_
    have hq0 : (sFirst (sRowR sh d) (sRowR sh e0)) = sCopy sh d i e0 j q := (if_neg c_17).symm
    have hq1 : sCopyS sh d i e0 j q = sh := if_neg (fun h => c_17 h.1)
    exact zireti hC hZ hr hlocks ⟨hq0, by rw [hq1]; exact hX, fr56_rf⟩ dX6_copy_22
