theorem mX7_leave : zMd yX7_leave cX7_leave 1 (some .int) 0 := ⟨by decide +kernel, gt_of 933 (by decide +kernel) rfl, gt_of 52 (by decide +kernel) rfl, by decide⟩
theorem dX7_leave_0 : decode cX7_leave 0 = .ok (.aload_n 0, 1) := by decide +kernel
theorem dX7_leave_1 : decode cX7_leave 1 = .ok (.iconst 0, 1) := by decide +kernel
theorem dX7_leave_2 : decode cX7_leave 2 = .ok (.putfield 57, 3) := by decide +kernel
theorem pX7_57 : zFldP RX7 57 7 12 false .int := ⟨RX7, TX7, 39, tyX7, rfl, inX7, by decide, rfl, Or.inl (gt_of 770 (by decide +kernel) rfl), tyX7_ok, nmX7, rfl, by decide +kernel, fun h => by cases h⟩
theorem dX7_leave_5 : decode cX7_leave 5 = .ok (.aload_n 0, 1) := by decide +kernel
theorem dX7_leave_6 : decode cX7_leave 6 = .ok (.getfield 120, 3) := by decide +kernel
theorem dX7_leave_9 : decode cX7_leave 9 = .ok (.ifCond .ne 6, 3) := by decide +kernel
theorem dX7_leave_15 : decode cX7_leave 15 = .ok (.aload_n 0, 1) := by decide +kernel
theorem dX7_leave_16 : decode cX7_leave 16 = .ok (.dup, 1) := by decide +kernel
theorem dX7_leave_17 : decode cX7_leave 17 = .ok (.getfield 120, 3) := by decide +kernel
theorem dX7_leave_20 : decode cX7_leave 20 = .ok (.iconst 1, 1) := by decide +kernel
theorem dX7_leave_21 : decode cX7_leave 21 = .ok (.isub, 1) := by decide +kernel
theorem dX7_leave_22 : decode cX7_leave 22 = .ok (.putfield 120, 3) := by decide +kernel
theorem dX7_leave_25 : decode cX7_leave 25 = .ok (.aload_n 0, 1) := by decide +kernel
theorem dX7_leave_26 : decode cX7_leave 26 = .ok (.getfield 120, 3) := by decide +kernel
theorem dX7_leave_29 : decode cX7_leave 29 = .ok (.ireturn, 1) := by decide +kernel
theorem dX7_leave_12 : decode cX7_leave 12 = .ok (.bipush (-3), 2) := by decide +kernel
theorem dX7_leave_14 : decode cX7_leave 14 = .ok (.ireturn, 1) := by decide +kernel
set_option maxRecDepth 100000 in
theorem c_X7_leave (l : Launch) (D : va_G) (cy : Nat → Nat) (n : Nat) (ad : Nat → Nat) (F : Nat → va_E) (sz : Nat) (th0 pic : Int32) (sc ps : Scn) (sh : Nat → Shf) (hn : 68 ≤ n) (hX : RM ad cy F th0 pic sc ps sh) (hG : gX sc ps sh) : Met l yX7_leave (zw yX7_leave cX7_leave 1 (some .int)) (rmL 0) (zPc D cy n ad F sz [.ref (ad 56)]) (va_Qi (fun r F1 => r = (if 0 < sc.2.2.2.1 then sc.2.2.2.1 - 1 else -3) ∧ RM ad cy F1 0 pic (if 0 < sc.2.2.2.1 then (sc.1, sc.2.1, sc.2.2.1, sc.2.2.2.1 - 1, sc.2.2.2.2) else sc) ps sh ∧ frM F F1) (zB D n ad) (zA n ad sz)) 0 0 (zA n ad sz) := by
  refine zmet (by decide +kernel) (Nat.le_of_ble_eq_true rfl) (fun p e s m args below meth c ls hC hsz hZ hA hr hlocks hnm hl => ?_)
  have hC : zC p m c cX7_leave 1 s args RX7 D cy := hC
  have hx := hC.1.1
  have hb := hC.1.2.1
  have hl : lv_has ls 1 [(0, .ref (ad 56))] := hl
  obtain ⟨bs, en, u, st, kk, dw, ho, sv, ia, tk, told, pl, nu, im, hw, kd, fg, so, mn, rw0, bt, hM, h57, h58, h59, h60, h61, h62, h63, h64, h65, h66, h67, hR⟩ := hX
  have hRS := hR.2.2
  have hHW := rX_hw hR
  refine lv_aload_n hx hb dX7_leave_0 rfl (lv_at hl 0 rfl) ?_
  refine lv_iconst (v := 0) hx hb dX7_leave_1 (by decide) ?_
  refine zput (E := oModel ad sc.1 sc.2.1 sc.2.2.2.1 sc.2.2.2.2 0 bs en u st kk dw ho sv pic ia tk) hC hZ pX7_57 (zlt hn rfl) hM rfl rfl rfl (Nat.le_of_ble_eq_true rfl) dX7_leave_2 (fun F_1 hF_2 H locs hZ => ?_)
  have h_3 := zeq hF_2
  refine lv_aload_n hx hb dX7_leave_5 rfl (lv_at hl 0 rfl) ?_
  refine zget hC hZ fX7_120 (zlt hn rfl) h_3 rfl dX7_leave_6 ?_
  refine lv_if_ne (tgt := 15) hx hb dX7_leave_9 (by decide) (fun c_9 => ?_) (fun c_9 => ?_)
  · refine lv_aload_n hx hb dX7_leave_15 rfl (lv_at hl 0 rfl) ?_
    refine lv_dup hx hb dX7_leave_16 rfl ?_
    refine zget hC hZ fX7_120 (zlt hn rfl) h_3 rfl dX7_leave_17 ?_
    refine lv_iconst (v := 1) hx hb dX7_leave_20 (by decide) ?_
    refine lv_isub hx hb dX7_leave_21 ?_
    refine zput (E := oModel ad sc.1 sc.2.1 (sc.2.2.2.1 - 1) sc.2.2.2.2 0 bs en u st kk dw ho sv pic ia tk) hC hZ pX7_120 (zlt hn rfl) h_3 rfl rfl rfl (Nat.le_of_ble_eq_true rfl) dX7_leave_22 (fun F_4 hF_5 H locs hZ => ?_)
    have h_6 := zeq hF_5
    refine lv_aload_n hx hb dX7_leave_25 rfl (lv_at hl 0 rfl) ?_
    refine zget hC hZ fX7_120 (zlt hn rfl) h_6 rfl dX7_leave_26 ?_
    have hq : ((sc.2.2.2.1 - 1) : Int32) = if 0 < sc.2.2.2.1 then sc.2.2.2.1 - 1 else -3 := by rw [if_pos (tc_pos hG.1 c_9)]
    have htc := tc_n hG.1
    have hlt9 : iN (sc.2.2.2.1 - 1) ≤ iN sc.2.2.2.1 := tc_less htc c_9
    have hfm_7 : frM F F_4 := (frM_up (frM_up frM_rf hF_2 (by decide) (by decide)) hF_5 (by decide) (by decide))
    exact zireti hC hZ hr hlocks ⟨hq, (by rw [if_pos (tc_pos hG.1 c_9)]; exact ⟨⟨bs, en, u, st, kk, dw, ho, sv, ia, tk, told, pl, nu, im, hw, kd, fg, so, mn, rw0, bt, h_6, (zne hF_5 (by decide) (zne hF_2 (by decide) h57)), (zne hF_5 (by decide) (zne hF_2 (by decide) h58)), (zne hF_5 (by decide) (zne hF_2 (by decide) h59)), (zne hF_5 (by decide) (zne hF_2 (by decide) h60)), (zne hF_5 (by decide) (zne hF_2 (by decide) h61)), (zne hF_5 (by decide) (zne hF_2 (by decide) h62)), (zne hF_5 (by decide) (zne hF_2 (by decide) h63)), (zne hF_5 (by decide) (zne hF_2 (by decide) h64)), (zne hF_5 (by decide) (zne hF_2 (by decide) h65)), (zne hF_5 (by decide) (zne hF_2 (by decide) h66)), (zne hF_5 (by decide) (zne hF_2 (by decide) h67)), ⟨fun i hi => hR.1 i (Nat.lt_of_lt_of_le hi hlt9), hR.2⟩⟩, hfm_7⟩)⟩ dX7_leave_29
  · refine lv_bipush (v := (-3)) hx hb dX7_leave_12 (by decide) ?_
    have hq : ((-3) : Int32) = if 0 < sc.2.2.2.1 then sc.2.2.2.1 - 1 else -3 := by rw [if_neg (by rw [c_9]; decide)]
    have hfm_8 : frM F F_1 := (frM_up frM_rf hF_2 (by decide) (by decide))
    exact zireti hC hZ hr hlocks ⟨hq, (by rw [if_neg (by rw [c_9]; decide)]; exact ⟨⟨bs, en, u, st, kk, dw, ho, sv, ia, tk, told, pl, nu, im, hw, kd, fg, so, mn, rw0, bt, h_3, (zne hF_2 (by decide) h57), (zne hF_2 (by decide) h58), (zne hF_2 (by decide) h59), (zne hF_2 (by decide) h60), (zne hF_2 (by decide) h61), (zne hF_2 (by decide) h62), (zne hF_2 (by decide) h63), (zne hF_2 (by decide) h64), (zne hF_2 (by decide) h65), (zne hF_2 (by decide) h66), (zne hF_2 (by decide) h67), hR⟩, hfm_8⟩)⟩ dX7_leave_14

theorem mX7_anew : zMd yX7_anew cX7_anew 2 (some .int) 0 := ⟨by decide +kernel, gt_of 967 (by decide +kernel) rfl, gt_of 52 (by decide +kernel) rfl, by decide⟩
theorem dX7_anew_0 : decode cX7_anew 0 = .ok (.aload_n 0, 1) := by decide +kernel
theorem dX7_anew_1 : decode cX7_anew 1 = .ok (.iconst 0, 1) := by decide +kernel
theorem dX7_anew_2 : decode cX7_anew 2 = .ok (.putfield 57, 3) := by decide +kernel
theorem dX7_anew_5 : decode cX7_anew 5 = .ok (.aload_n 0, 1) := by decide +kernel
theorem dX7_anew_6 : decode cX7_anew 6 = .ok (.getfield 148, 3) := by decide +kernel
theorem dX7_anew_9 : decode cX7_anew 9 = .ok (.istore_n 1, 1) := by decide +kernel
theorem dX7_anew_10 : decode cX7_anew 10 = .ok (.aload_n 0, 1) := by decide +kernel
theorem dX7_anew_11 : decode cX7_anew 11 = .ok (.invokevirtual 178, 3) := by decide +kernel
theorem dX7_anew_14 : decode cX7_anew 14 = .ok (.iload_n 1, 1) := by decide +kernel
theorem dX7_anew_15 : decode cX7_anew 15 = .ok (.ireturn, 1) := by decide +kernel
set_option maxRecDepth 100000 in
theorem c_X7_anew (l : Launch) (D : va_G) (cy : Nat → Nat) (n : Nat) (ad : Nat → Nat) (F : Nat → va_E) (sz : Nat) (th0 pic : Int32) (sc ps : Scn) (sh : Nat → Shf) (hn : 68 ≤ n) (hX : RM ad cy F th0 pic sc ps sh) (hG : gX sc ps sh) : Met l yX7_anew (zw yX7_anew cX7_anew 2 (some .int)) (rmL 1) (zPc D cy n ad F sz [.ref (ad 56)]) (va_Qi (fun r F1 => r = sc.2.2.2.2.1 ∧ RM ad cy F1 0 pic (sc.1, sc.2.1, sc.2.2.1, sc.2.2.2.1, sCC) ps sh ∧ frM F F1) (zB D n ad) (zA n ad sz)) 0 0 (zA n ad sz) := by
  refine zmet (by decide +kernel) (Nat.le_of_ble_eq_true rfl) (fun p e s m args below meth c ls hC hsz hZ hA hr hlocks hnm hl => ?_)
  have hC : zC p m c cX7_anew 2 s args RX7 D cy := hC
  have hx := hC.1.1
  have hb := hC.1.2.1
  have hl : lv_has ls 2 [(0, .ref (ad 56))] := hl
  obtain ⟨bs, en, u, st, kk, dw, ho, sv, ia, tk, told, pl, nu, im, hw, kd, fg, so, mn, rw0, bt, hM, h57, h58, h59, h60, h61, h62, h63, h64, h65, h66, h67, hR⟩ := hX
  have hRS := hR.2.2
  have hHW := rX_hw hR
  refine lv_aload_n hx hb dX7_anew_0 rfl (lv_at hl 0 rfl) ?_
  refine lv_iconst (v := 0) hx hb dX7_anew_1 (by decide) ?_
  refine zput (E := oModel ad sc.1 sc.2.1 sc.2.2.2.1 sc.2.2.2.2 0 bs en u st kk dw ho sv pic ia tk) hC hZ pX7_57 (zlt hn rfl) hM rfl rfl rfl (Nat.le_of_ble_eq_true rfl) dX7_anew_2 (fun F_1 hF_2 H locs hZ => ?_)
  have h_3 := zeq hF_2
  refine lv_aload_n hx hb dX7_anew_5 rfl (lv_at hl 0 rfl) ?_
  refine zget hC hZ fX7_148 (zlt hn rfl) h_3 rfl dX7_anew_6 ?_
  refine lv_istore_n (lv' := [(1, .int sc.2.2.2.2.1), (0, .ref (ad 56))]) hx hb dX7_anew_9 rfl hl (by decide) rfl (fun ls hl => ?_)
  refine lv_aload_n hx hb dX7_anew_10 rfl (lv_at hl 1 rfl) ?_
  refine zgov hZ hA (zrunV (As := []) (rest := []) (k := 56) hC hZ (c_X7_begin l D cy n ad F_1 H.size sc.1 sc.2.1 sc.2.2.2.1 sc.2.2.2.2 0 bs en u st kk dw ho sv pic ia tk hn h_3) mX7_begin vX7_begin kX7_178 (zRj_of rfl) (zlt hn rfl) h_3 rfl rfl hl.1 rfl (Nat.le_of_ble_eq_true rfl) dX7_anew_11 ⟨Nat.le_refl _, Nat.le_refl _⟩) (fun F_4 hp_6 H locs hZ => ?_)
  have h_7 := zeq hp_6
  refine lv_iload_n hx hb dX7_anew_14 rfl (lv_at hl 0 rfl) ?_
  have hq : (sc.2.2.2.2.1 : Int32) = sc.2.2.2.2.1 := by rfl
  have hfm_8 : frM F F_4 := (frM_up (frM_up frM_rf hF_2 (by decide) (by decide)) hp_6 (by decide) (by decide))
  exact zireti hC hZ hr hlocks ⟨hq, ⟨bs, en, u, st, kk, dw, ho, sv, ia, tk, told, pl, nu, im, hw, kd, fg, so, mn, rw0, bt, h_7, (zne hp_6 (by decide) (zne hF_2 (by decide) h57)), (zne hp_6 (by decide) (zne hF_2 (by decide) h58)), (zne hp_6 (by decide) (zne hF_2 (by decide) h59)), (zne hp_6 (by decide) (zne hF_2 (by decide) h60)), (zne hp_6 (by decide) (zne hF_2 (by decide) h61)), (zne hp_6 (by decide) (zne hF_2 (by decide) h62)), (zne hp_6 (by decide) (zne hF_2 (by decide) h63)), (zne hp_6 (by decide) (zne hF_2 (by decide) h64)), (zne hp_6 (by decide) (zne hF_2 (by decide) h65)), (zne hp_6 (by decide) (zne hF_2 (by decide) h66)), (zne hp_6 (by decide) (zne hF_2 (by decide) h67)), hR⟩, hfm_8⟩ dX7_anew_15

theorem mX7_state : zMd yX7_state cX7_state 2 (some .int) 1 := ⟨by decide +kernel, gt_of 975 (by decide +kernel) rfl, gt_of 52 (by decide +kernel) rfl, by decide⟩
theorem dX7_state_0 : decode cX7_state 0 = .ok (.aload_n 0, 1) := by decide +kernel
theorem dX7_state_1 : decode cX7_state 1 = .ok (.iconst 0, 1) := by decide +kernel
theorem dX7_state_2 : decode cX7_state 2 = .ok (.putfield 57, 3) := by decide +kernel
theorem dX7_state_5 : decode cX7_state 5 = .ok (.iload_n 1, 1) := by decide +kernel
theorem dX7_state_6 : decode cX7_state 6 = .ok (.tableswitch 80 0 5 #[38, 43, 48, 53, 58, 63], 38) := by decide +kernel
theorem dX7_state_44 : decode cX7_state 44 = .ok (.aload_n 0, 1) := by decide +kernel
theorem dX7_state_45 : decode cX7_state 45 = .ok (.getfield 148, 3) := by decide +kernel
theorem dX7_state_48 : decode cX7_state 48 = .ok (.ireturn, 1) := by decide +kernel
theorem dX7_state_49 : decode cX7_state 49 = .ok (.aload_n 0, 1) := by decide +kernel
theorem dX7_state_50 : decode cX7_state 50 = .ok (.getfield 154, 3) := by decide +kernel
theorem dX7_state_53 : decode cX7_state 53 = .ok (.ireturn, 1) := by decide +kernel
theorem dX7_state_54 : decode cX7_state 54 = .ok (.aload_n 0, 1) := by decide +kernel
theorem dX7_state_55 : decode cX7_state 55 = .ok (.getfield 151, 3) := by decide +kernel
theorem dX7_state_58 : decode cX7_state 58 = .ok (.ireturn, 1) := by decide +kernel
theorem dX7_state_59 : decode cX7_state 59 = .ok (.aload_n 0, 1) := by decide +kernel
theorem dX7_state_60 : decode cX7_state 60 = .ok (.getfield 67, 3) := by decide +kernel
theorem dX7_state_63 : decode cX7_state 63 = .ok (.ireturn, 1) := by decide +kernel
theorem dX7_state_64 : decode cX7_state 64 = .ok (.aload_n 0, 1) := by decide +kernel
theorem dX7_state_65 : decode cX7_state 65 = .ok (.getfield 160, 3) := by decide +kernel
theorem dX7_state_68 : decode cX7_state 68 = .ok (.ireturn, 1) := by decide +kernel
theorem dX7_state_69 : decode cX7_state 69 = .ok (.aload_n 0, 1) := by decide +kernel
theorem dX7_state_70 : decode cX7_state 70 = .ok (.getfield 67, 3) := by decide +kernel
theorem dX7_state_73 : decode cX7_state 73 = .ok (.aload_n 0, 1) := by decide +kernel
theorem dX7_state_74 : decode cX7_state 74 = .ok (.getfield 16, 3) := by decide +kernel
theorem dX7_state_77 : decode cX7_state 77 = .ok (.if_icmp .ne 7, 3) := by decide +kernel
theorem dX7_state_84 : decode cX7_state 84 = .ok (.iconst 0, 1) := by decide +kernel
theorem dX7_state_85 : decode cX7_state 85 = .ok (.ireturn, 1) := by decide +kernel
theorem dX7_state_80 : decode cX7_state 80 = .ok (.iconst 1, 1) := by decide +kernel
theorem dX7_state_81 : decode cX7_state 81 = .ok (.goto 4, 3) := by decide +kernel
theorem dX7_state_86 : decode cX7_state 86 = .ok (.iconst (-1), 1) := by decide +kernel
theorem dX7_state_87 : decode cX7_state 87 = .ok (.ireturn, 1) := by decide +kernel
set_option maxRecDepth 100000 in
theorem c_X7_state (l : Launch) (D : va_G) (cy : Nat → Nat) (n : Nat) (ad : Nat → Nat) (F : Nat → va_E) (sz : Nat) (th0 pic : Int32) (sc ps : Scn) (sh : Nat → Shf) (hn : 68 ≤ n) (hX : RM ad cy F th0 pic sc ps sh) (hG : gX sc ps sh) (what : Int32) : Met l yX7_state (zw yX7_state cX7_state 2 (some .int)) (rmL 0) (zPc D cy n ad F sz [.ref (ad 56), .int what]) (va_Qi (fun r F1 => r = sState sc what ∧ RM ad cy F1 0 pic sc ps sh ∧ frM F F1) (zB D n ad) (zA n ad sz)) 0 0 (zA n ad sz) := by
  refine zmet (by decide +kernel) (Nat.le_of_ble_eq_true rfl) (fun p e s m args below meth c ls hC hsz hZ hA hr hlocks hnm hl => ?_)
  have hC : zC p m c cX7_state 2 s args RX7 D cy := hC
  have hx := hC.1.1
  have hb := hC.1.2.1
  have hl : lv_has ls 2 [(0, .ref (ad 56)), (1, .int what)] := hl
  obtain ⟨bs, en, u, st, kk, dw, ho, sv, ia, tk, told, pl, nu, im, hw, kd, fg, so, mn, rw0, bt, hM, h57, h58, h59, h60, h61, h62, h63, h64, h65, h66, h67, hR⟩ := hX
  have hRS := hR.2.2
  have hHW := rX_hw hR
  refine lv_aload_n hx hb dX7_state_0 rfl (lv_at hl 0 rfl) ?_
  refine lv_iconst (v := 0) hx hb dX7_state_1 (by decide) ?_
  refine zput (E := oModel ad sc.1 sc.2.1 sc.2.2.2.1 sc.2.2.2.2 0 bs en u st kk dw ho sv pic ia tk) hC hZ pX7_57 (zlt hn rfl) hM rfl rfl rfl (Nat.le_of_ble_eq_true rfl) dX7_state_2 (fun F_1 hF_2 H locs hZ => ?_)
  have h_3 := zeq hF_2
  refine lv_iload_n hx hb dX7_state_5 rfl (lv_at hl 1 rfl) ?_
  by_cases c_6_0 : what = 0
  · refine lv_tableIn (off := 38) (tgt := 44) hx hb dX7_state_6 (by rw [c_6_0]; decide) (by rw [c_6_0]; decide) (by rw [c_6_0]; rfl) (by decide) ?_
    refine lv_aload_n hx hb dX7_state_44 rfl (lv_at hl 0 rfl) ?_
    refine zget hC hZ fX7_148 (zlt hn rfl) h_3 rfl dX7_state_45 ?_
    have hq : (sc.2.2.2.2.1 : Int32) = sState sc what := by unfold sState; simp [c_6_0]
    have hfm_4 : frM F F_1 := (frM_up frM_rf hF_2 (by decide) (by decide))
    exact zireti hC hZ hr hlocks ⟨hq, ⟨bs, en, u, st, kk, dw, ho, sv, ia, tk, told, pl, nu, im, hw, kd, fg, so, mn, rw0, bt, h_3, (zne hF_2 (by decide) h57), (zne hF_2 (by decide) h58), (zne hF_2 (by decide) h59), (zne hF_2 (by decide) h60), (zne hF_2 (by decide) h61), (zne hF_2 (by decide) h62), (zne hF_2 (by decide) h63), (zne hF_2 (by decide) h64), (zne hF_2 (by decide) h65), (zne hF_2 (by decide) h66), (zne hF_2 (by decide) h67), hR⟩, hfm_4⟩ dX7_state_48
  · by_cases c_6_1 : what = 1
    · refine lv_tableIn (off := 43) (tgt := 49) hx hb dX7_state_6 (by rw [c_6_1]; decide) (by rw [c_6_1]; decide) (by rw [c_6_1]; rfl) (by decide) ?_
      refine lv_aload_n hx hb dX7_state_49 rfl (lv_at hl 0 rfl) ?_
      refine zget hC hZ fX7_154 (zlt hn rfl) h_3 rfl dX7_state_50 ?_
      have hq : (sc.2.2.2.2.2.1 : Int32) = sState sc what := by unfold sState; simp [c_6_0, c_6_1]
      have hfm_5 : frM F F_1 := (frM_up frM_rf hF_2 (by decide) (by decide))
      exact zireti hC hZ hr hlocks ⟨hq, ⟨bs, en, u, st, kk, dw, ho, sv, ia, tk, told, pl, nu, im, hw, kd, fg, so, mn, rw0, bt, h_3, (zne hF_2 (by decide) h57), (zne hF_2 (by decide) h58), (zne hF_2 (by decide) h59), (zne hF_2 (by decide) h60), (zne hF_2 (by decide) h61), (zne hF_2 (by decide) h62), (zne hF_2 (by decide) h63), (zne hF_2 (by decide) h64), (zne hF_2 (by decide) h65), (zne hF_2 (by decide) h66), (zne hF_2 (by decide) h67), hR⟩, hfm_5⟩ dX7_state_53
    · by_cases c_6_2 : what = 2
      · refine lv_tableIn (off := 48) (tgt := 54) hx hb dX7_state_6 (by rw [c_6_2]; decide) (by rw [c_6_2]; decide) (by rw [c_6_2]; rfl) (by decide) ?_
        refine lv_aload_n hx hb dX7_state_54 rfl (lv_at hl 0 rfl) ?_
        refine zget hC hZ fX7_151 (zlt hn rfl) h_3 rfl dX7_state_55 ?_
        have hq : (sc.2.2.2.2.2.2.1 : Int32) = sState sc what := by unfold sState; simp [c_6_0, c_6_1, c_6_2]
        have hfm_6 : frM F F_1 := (frM_up frM_rf hF_2 (by decide) (by decide))
        exact zireti hC hZ hr hlocks ⟨hq, ⟨bs, en, u, st, kk, dw, ho, sv, ia, tk, told, pl, nu, im, hw, kd, fg, so, mn, rw0, bt, h_3, (zne hF_2 (by decide) h57), (zne hF_2 (by decide) h58), (zne hF_2 (by decide) h59), (zne hF_2 (by decide) h60), (zne hF_2 (by decide) h61), (zne hF_2 (by decide) h62), (zne hF_2 (by decide) h63), (zne hF_2 (by decide) h64), (zne hF_2 (by decide) h65), (zne hF_2 (by decide) h66), (zne hF_2 (by decide) h67), hR⟩, hfm_6⟩ dX7_state_58
      · by_cases c_6_3 : what = 3
        · refine lv_tableIn (off := 53) (tgt := 59) hx hb dX7_state_6 (by rw [c_6_3]; decide) (by rw [c_6_3]; decide) (by rw [c_6_3]; rfl) (by decide) ?_
          refine lv_aload_n hx hb dX7_state_59 rfl (lv_at hl 0 rfl) ?_
          refine zget hC hZ fX7_67 (zlt hn rfl) h_3 rfl dX7_state_60 ?_
          have hq : (sc.2.2.2.2.2.2.2.1 : Int32) = sState sc what := by unfold sState; simp [c_6_0, c_6_1, c_6_2, c_6_3]
          have hfm_7 : frM F F_1 := (frM_up frM_rf hF_2 (by decide) (by decide))
          exact zireti hC hZ hr hlocks ⟨hq, ⟨bs, en, u, st, kk, dw, ho, sv, ia, tk, told, pl, nu, im, hw, kd, fg, so, mn, rw0, bt, h_3, (zne hF_2 (by decide) h57), (zne hF_2 (by decide) h58), (zne hF_2 (by decide) h59), (zne hF_2 (by decide) h60), (zne hF_2 (by decide) h61), (zne hF_2 (by decide) h62), (zne hF_2 (by decide) h63), (zne hF_2 (by decide) h64), (zne hF_2 (by decide) h65), (zne hF_2 (by decide) h66), (zne hF_2 (by decide) h67), hR⟩, hfm_7⟩ dX7_state_63
        · by_cases c_6_4 : what = 4
          · refine lv_tableIn (off := 58) (tgt := 64) hx hb dX7_state_6 (by rw [c_6_4]; decide) (by rw [c_6_4]; decide) (by rw [c_6_4]; rfl) (by decide) ?_
            refine lv_aload_n hx hb dX7_state_64 rfl (lv_at hl 0 rfl) ?_
            refine zget hC hZ fX7_160 (zlt hn rfl) h_3 rfl dX7_state_65 ?_
            have hq : (sc.2.2.2.2.2.2.2.2 : Int32) = sState sc what := by unfold sState; simp [c_6_0, c_6_1, c_6_2, c_6_3, c_6_4]
            have hfm_8 : frM F F_1 := (frM_up frM_rf hF_2 (by decide) (by decide))
            exact zireti hC hZ hr hlocks ⟨hq, ⟨bs, en, u, st, kk, dw, ho, sv, ia, tk, told, pl, nu, im, hw, kd, fg, so, mn, rw0, bt, h_3, (zne hF_2 (by decide) h57), (zne hF_2 (by decide) h58), (zne hF_2 (by decide) h59), (zne hF_2 (by decide) h60), (zne hF_2 (by decide) h61), (zne hF_2 (by decide) h62), (zne hF_2 (by decide) h63), (zne hF_2 (by decide) h64), (zne hF_2 (by decide) h65), (zne hF_2 (by decide) h66), (zne hF_2 (by decide) h67), hR⟩, hfm_8⟩ dX7_state_68
          · by_cases c_6_5 : what = 5
            · refine lv_tableIn (off := 63) (tgt := 69) hx hb dX7_state_6 (by rw [c_6_5]; decide) (by rw [c_6_5]; decide) (by rw [c_6_5]; rfl) (by decide) ?_
              refine lv_aload_n hx hb dX7_state_69 rfl (lv_at hl 0 rfl) ?_
              refine zget hC hZ fX7_67 (zlt hn rfl) h_3 rfl dX7_state_70 ?_
              refine lv_aload_n hx hb dX7_state_73 rfl (lv_at hl 0 rfl) ?_
              refine zget hC hZ fX7_16 (zlt hn rfl) h_3 rfl dX7_state_74 ?_
              refine lv_icmp_ne (tgt := 84) hx hb dX7_state_77 (by decide) (fun c_77 => ?_) (fun c_77 => ?_)
              · refine lv_iconst (v := 0) hx hb dX7_state_84 (by decide) ?_
                have hq : (0 : Int32) = sState sc what := by unfold sState; rw [c_6_5]; exact (if_neg (fun h => c_77 (Int32.toInt_inj.mp (by have a := i32le.mp h; have b := hG.1.2.2.2.2.2.2.1.2.2.2.2.2; omega)))).symm
                have hfm_9 : frM F F_1 := (frM_up frM_rf hF_2 (by decide) (by decide))
                exact zireti hC hZ hr hlocks ⟨hq, ⟨bs, en, u, st, kk, dw, ho, sv, ia, tk, told, pl, nu, im, hw, kd, fg, so, mn, rw0, bt, h_3, (zne hF_2 (by decide) h57), (zne hF_2 (by decide) h58), (zne hF_2 (by decide) h59), (zne hF_2 (by decide) h60), (zne hF_2 (by decide) h61), (zne hF_2 (by decide) h62), (zne hF_2 (by decide) h63), (zne hF_2 (by decide) h64), (zne hF_2 (by decide) h65), (zne hF_2 (by decide) h66), (zne hF_2 (by decide) h67), hR⟩, hfm_9⟩ dX7_state_85
              · refine lv_iconst (v := 1) hx hb dX7_state_80 (by decide) ?_
                refine lv_goto (tgt := 85) hx hb dX7_state_81 (by decide) ?_
                have hq : (1 : Int32) = sState sc what := by unfold sState; rw [c_6_5]; exact (if_pos (by rw [c_77]; exact Int32.le_refl _)).symm
                have hfm_10 : frM F F_1 := (frM_up frM_rf hF_2 (by decide) (by decide))
                exact zireti hC hZ hr hlocks ⟨hq, ⟨bs, en, u, st, kk, dw, ho, sv, ia, tk, told, pl, nu, im, hw, kd, fg, so, mn, rw0, bt, h_3, (zne hF_2 (by decide) h57), (zne hF_2 (by decide) h58), (zne hF_2 (by decide) h59), (zne hF_2 (by decide) h60), (zne hF_2 (by decide) h61), (zne hF_2 (by decide) h62), (zne hF_2 (by decide) h63), (zne hF_2 (by decide) h64), (zne hF_2 (by decide) h65), (zne hF_2 (by decide) h66), (zne hF_2 (by decide) h67), hR⟩, hfm_10⟩ dX7_state_85
            · refine lv_tableOut (tgt := 86) hx hb dX7_state_6 (by have e0 : ¬ what.toInt = 0 := lv_neT (k := 0) c_6_0 rfl; have e1 : ¬ what.toInt = 1 := lv_neT (k := 1) c_6_1 rfl; have e2 : ¬ what.toInt = 2 := lv_neT (k := 2) c_6_2 rfl; have e3 : ¬ what.toInt = 3 := lv_neT (k := 3) c_6_3 rfl; have e4 : ¬ what.toInt = 4 := lv_neT (k := 4) c_6_4 rfl; have e5 : ¬ what.toInt = 5 := lv_neT (k := 5) c_6_5 rfl; omega) (by decide) ?_
              refine lv_iconst (v := (-1)) hx hb dX7_state_86 (by decide) ?_
              have hq : ((-1) : Int32) = sState sc what := by unfold sState; simp [c_6_0, c_6_1, c_6_2, c_6_3, c_6_4, c_6_5]
              have hfm_11 : frM F F_1 := (frM_up frM_rf hF_2 (by decide) (by decide))
              exact zireti hC hZ hr hlocks ⟨hq, ⟨bs, en, u, st, kk, dw, ho, sv, ia, tk, told, pl, nu, im, hw, kd, fg, so, mn, rw0, bt, h_3, (zne hF_2 (by decide) h57), (zne hF_2 (by decide) h58), (zne hF_2 (by decide) h59), (zne hF_2 (by decide) h60), (zne hF_2 (by decide) h61), (zne hF_2 (by decide) h62), (zne hF_2 (by decide) h63), (zne hF_2 (by decide) h64), (zne hF_2 (by decide) h65), (zne hF_2 (by decide) h66), (zne hF_2 (by decide) h67), hR⟩, hfm_11⟩ dX7_state_87

theorem mX7_count : zMd yX7_count cX7_count 2 (some .int) 1 := ⟨by decide +kernel, gt_of 1100 (by decide +kernel) rfl, gt_of 52 (by decide +kernel) rfl, by decide⟩
theorem dX7_count_0 : decode cX7_count 0 = .ok (.aload_n 0, 1) := by decide +kernel
theorem dX7_count_1 : decode cX7_count 1 = .ok (.iconst 0, 1) := by decide +kernel
theorem dX7_count_2 : decode cX7_count 2 = .ok (.putfield 57, 3) := by decide +kernel
theorem dX7_count_5 : decode cX7_count 5 = .ok (.iload_n 1, 1) := by decide +kernel
theorem dX7_count_6 : decode cX7_count 6 = .ok (.tableswitch 68 0 5 #[38, 43, 48, 53, 58, 63], 38) := by decide +kernel
theorem dX7_count_44 : decode cX7_count 44 = .ok (.aload_n 0, 1) := by decide +kernel
theorem dX7_count_45 : decode cX7_count 45 = .ok (.getfield 120, 3) := by decide +kernel
theorem dX7_count_48 : decode cX7_count 48 = .ok (.ireturn, 1) := by decide +kernel
theorem dX7_count_49 : decode cX7_count 49 = .ok (.aload_n 0, 1) := by decide +kernel
theorem dX7_count_50 : decode cX7_count 50 = .ok (.getfield 7, 3) := by decide +kernel
theorem dX7_count_53 : decode cX7_count 53 = .ok (.ireturn, 1) := by decide +kernel
theorem dX7_count_54 : decode cX7_count 54 = .ok (.aload_n 0, 1) := by decide +kernel
theorem dX7_count_55 : decode cX7_count 55 = .ok (.getfield 13, 3) := by decide +kernel
theorem dX7_count_58 : decode cX7_count 58 = .ok (.ireturn, 1) := by decide +kernel
theorem dX7_count_59 : decode cX7_count 59 = .ok (.aload_n 0, 1) := by decide +kernel
theorem dX7_count_60 : decode cX7_count 60 = .ok (.getfield 70, 3) := by decide +kernel
theorem dX7_count_63 : decode cX7_count 63 = .ok (.ireturn, 1) := by decide +kernel
theorem dX7_count_64 : decode cX7_count 64 = .ok (.aload_n 0, 1) := by decide +kernel
theorem dX7_count_65 : decode cX7_count 65 = .ok (.getfield 16, 3) := by decide +kernel
theorem dX7_count_68 : decode cX7_count 68 = .ok (.ireturn, 1) := by decide +kernel
theorem dX7_count_69 : decode cX7_count 69 = .ok (.aload_n 0, 1) := by decide +kernel
theorem dX7_count_70 : decode cX7_count 70 = .ok (.getfield 19, 3) := by decide +kernel
theorem dX7_count_73 : decode cX7_count 73 = .ok (.ireturn, 1) := by decide +kernel
theorem dX7_count_74 : decode cX7_count 74 = .ok (.iconst (-1), 1) := by decide +kernel
theorem dX7_count_75 : decode cX7_count 75 = .ok (.ireturn, 1) := by decide +kernel
set_option maxRecDepth 100000 in
theorem c_X7_count (l : Launch) (D : va_G) (cy : Nat → Nat) (n : Nat) (ad : Nat → Nat) (F : Nat → va_E) (sz : Nat) (th0 pic : Int32) (sc ps : Scn) (sh : Nat → Shf) (hn : 68 ≤ n) (hX : RM ad cy F th0 pic sc ps sh) (hG : gX sc ps sh) (what : Int32) : Met l yX7_count (zw yX7_count cX7_count 2 (some .int)) (rmL 0) (zPc D cy n ad F sz [.ref (ad 56), .int what]) (va_Qi (fun r F1 => r = (if bIn what 0 5 then (if what = 0 then sc.2.2.2.1 else sCh sc (what - 1)) else -1) ∧ RM ad cy F1 0 pic sc ps sh ∧ frM F F1) (zB D n ad) (zA n ad sz)) 0 0 (zA n ad sz) := by
  refine zmet (by decide +kernel) (Nat.le_of_ble_eq_true rfl) (fun p e s m args below meth c ls hC hsz hZ hA hr hlocks hnm hl => ?_)
  have hC : zC p m c cX7_count 2 s args RX7 D cy := hC
  have hx := hC.1.1
  have hb := hC.1.2.1
  have hl : lv_has ls 2 [(0, .ref (ad 56)), (1, .int what)] := hl
  obtain ⟨bs, en, u, st, kk, dw, ho, sv, ia, tk, told, pl, nu, im, hw, kd, fg, so, mn, rw0, bt, hM, h57, h58, h59, h60, h61, h62, h63, h64, h65, h66, h67, hR⟩ := hX
  have hRS := hR.2.2
  have hHW := rX_hw hR
  refine lv_aload_n hx hb dX7_count_0 rfl (lv_at hl 0 rfl) ?_
  refine lv_iconst (v := 0) hx hb dX7_count_1 (by decide) ?_
  refine zput (E := oModel ad sc.1 sc.2.1 sc.2.2.2.1 sc.2.2.2.2 0 bs en u st kk dw ho sv pic ia tk) hC hZ pX7_57 (zlt hn rfl) hM rfl rfl rfl (Nat.le_of_ble_eq_true rfl) dX7_count_2 (fun F_1 hF_2 H locs hZ => ?_)
  have h_3 := zeq hF_2
  refine lv_iload_n hx hb dX7_count_5 rfl (lv_at hl 1 rfl) ?_
  by_cases c_6_0 : what = 0
  · refine lv_tableIn (off := 38) (tgt := 44) hx hb dX7_count_6 (by rw [c_6_0]; decide) (by rw [c_6_0]; decide) (by rw [c_6_0]; rfl) (by decide) ?_
    refine lv_aload_n hx hb dX7_count_44 rfl (lv_at hl 0 rfl) ?_
    refine zget hC hZ fX7_120 (zlt hn rfl) h_3 rfl dX7_count_45 ?_
    have hq : (sc.2.2.2.1 : Int32) = (if bIn what 0 5 then (if what = 0 then sc.2.2.2.1 else sCh sc (what - 1)) else -1) := by rw [c_6_0]; rfl
    have hfm_4 : frM F F_1 := (frM_up frM_rf hF_2 (by decide) (by decide))
    exact zireti hC hZ hr hlocks ⟨hq, ⟨bs, en, u, st, kk, dw, ho, sv, ia, tk, told, pl, nu, im, hw, kd, fg, so, mn, rw0, bt, h_3, (zne hF_2 (by decide) h57), (zne hF_2 (by decide) h58), (zne hF_2 (by decide) h59), (zne hF_2 (by decide) h60), (zne hF_2 (by decide) h61), (zne hF_2 (by decide) h62), (zne hF_2 (by decide) h63), (zne hF_2 (by decide) h64), (zne hF_2 (by decide) h65), (zne hF_2 (by decide) h66), (zne hF_2 (by decide) h67), hR⟩, hfm_4⟩ dX7_count_48
  · by_cases c_6_1 : what = 1
    · refine lv_tableIn (off := 43) (tgt := 49) hx hb dX7_count_6 (by rw [c_6_1]; decide) (by rw [c_6_1]; decide) (by rw [c_6_1]; rfl) (by decide) ?_
      refine lv_aload_n hx hb dX7_count_49 rfl (lv_at hl 0 rfl) ?_
      refine zget hC hZ fX7_7 (zlt hn rfl) h_3 rfl dX7_count_50 ?_
      have hq : (sc.1.1 : Int32) = (if bIn what 0 5 then (if what = 0 then sc.2.2.2.1 else sCh sc (what - 1)) else -1) := by rw [c_6_1]; rfl
      have hfm_5 : frM F F_1 := (frM_up frM_rf hF_2 (by decide) (by decide))
      exact zireti hC hZ hr hlocks ⟨hq, ⟨bs, en, u, st, kk, dw, ho, sv, ia, tk, told, pl, nu, im, hw, kd, fg, so, mn, rw0, bt, h_3, (zne hF_2 (by decide) h57), (zne hF_2 (by decide) h58), (zne hF_2 (by decide) h59), (zne hF_2 (by decide) h60), (zne hF_2 (by decide) h61), (zne hF_2 (by decide) h62), (zne hF_2 (by decide) h63), (zne hF_2 (by decide) h64), (zne hF_2 (by decide) h65), (zne hF_2 (by decide) h66), (zne hF_2 (by decide) h67), hR⟩, hfm_5⟩ dX7_count_53
    · by_cases c_6_2 : what = 2
      · refine lv_tableIn (off := 48) (tgt := 54) hx hb dX7_count_6 (by rw [c_6_2]; decide) (by rw [c_6_2]; decide) (by rw [c_6_2]; rfl) (by decide) ?_
        refine lv_aload_n hx hb dX7_count_54 rfl (lv_at hl 0 rfl) ?_
        refine zget hC hZ fX7_13 (zlt hn rfl) h_3 rfl dX7_count_55 ?_
        have hq : (sc.1.2.1 : Int32) = (if bIn what 0 5 then (if what = 0 then sc.2.2.2.1 else sCh sc (what - 1)) else -1) := by rw [c_6_2]; rfl
        have hfm_6 : frM F F_1 := (frM_up frM_rf hF_2 (by decide) (by decide))
        exact zireti hC hZ hr hlocks ⟨hq, ⟨bs, en, u, st, kk, dw, ho, sv, ia, tk, told, pl, nu, im, hw, kd, fg, so, mn, rw0, bt, h_3, (zne hF_2 (by decide) h57), (zne hF_2 (by decide) h58), (zne hF_2 (by decide) h59), (zne hF_2 (by decide) h60), (zne hF_2 (by decide) h61), (zne hF_2 (by decide) h62), (zne hF_2 (by decide) h63), (zne hF_2 (by decide) h64), (zne hF_2 (by decide) h65), (zne hF_2 (by decide) h66), (zne hF_2 (by decide) h67), hR⟩, hfm_6⟩ dX7_count_58
      · by_cases c_6_3 : what = 3
        · refine lv_tableIn (off := 53) (tgt := 59) hx hb dX7_count_6 (by rw [c_6_3]; decide) (by rw [c_6_3]; decide) (by rw [c_6_3]; rfl) (by decide) ?_
          refine lv_aload_n hx hb dX7_count_59 rfl (lv_at hl 0 rfl) ?_
          refine zget hC hZ fX7_70 (zlt hn rfl) h_3 rfl dX7_count_60 ?_
          have hq : (sc.1.2.2.1 : Int32) = (if bIn what 0 5 then (if what = 0 then sc.2.2.2.1 else sCh sc (what - 1)) else -1) := by rw [c_6_3]; rfl
          have hfm_7 : frM F F_1 := (frM_up frM_rf hF_2 (by decide) (by decide))
          exact zireti hC hZ hr hlocks ⟨hq, ⟨bs, en, u, st, kk, dw, ho, sv, ia, tk, told, pl, nu, im, hw, kd, fg, so, mn, rw0, bt, h_3, (zne hF_2 (by decide) h57), (zne hF_2 (by decide) h58), (zne hF_2 (by decide) h59), (zne hF_2 (by decide) h60), (zne hF_2 (by decide) h61), (zne hF_2 (by decide) h62), (zne hF_2 (by decide) h63), (zne hF_2 (by decide) h64), (zne hF_2 (by decide) h65), (zne hF_2 (by decide) h66), (zne hF_2 (by decide) h67), hR⟩, hfm_7⟩ dX7_count_63
        · by_cases c_6_4 : what = 4
          · refine lv_tableIn (off := 58) (tgt := 64) hx hb dX7_count_6 (by rw [c_6_4]; decide) (by rw [c_6_4]; decide) (by rw [c_6_4]; rfl) (by decide) ?_
            refine lv_aload_n hx hb dX7_count_64 rfl (lv_at hl 0 rfl) ?_
            refine zget hC hZ fX7_16 (zlt hn rfl) h_3 rfl dX7_count_65 ?_
            have hq : (sc.2.1 : Int32) = (if bIn what 0 5 then (if what = 0 then sc.2.2.2.1 else sCh sc (what - 1)) else -1) := by rw [c_6_4]; rfl
            have hfm_8 : frM F F_1 := (frM_up frM_rf hF_2 (by decide) (by decide))
            exact zireti hC hZ hr hlocks ⟨hq, ⟨bs, en, u, st, kk, dw, ho, sv, ia, tk, told, pl, nu, im, hw, kd, fg, so, mn, rw0, bt, h_3, (zne hF_2 (by decide) h57), (zne hF_2 (by decide) h58), (zne hF_2 (by decide) h59), (zne hF_2 (by decide) h60), (zne hF_2 (by decide) h61), (zne hF_2 (by decide) h62), (zne hF_2 (by decide) h63), (zne hF_2 (by decide) h64), (zne hF_2 (by decide) h65), (zne hF_2 (by decide) h66), (zne hF_2 (by decide) h67), hR⟩, hfm_8⟩ dX7_count_68
          · by_cases c_6_5 : what = 5
            · refine lv_tableIn (off := 63) (tgt := 69) hx hb dX7_count_6 (by rw [c_6_5]; decide) (by rw [c_6_5]; decide) (by rw [c_6_5]; rfl) (by decide) ?_
              refine lv_aload_n hx hb dX7_count_69 rfl (lv_at hl 0 rfl) ?_
              refine zget hC hZ fX7_19 (zlt hn rfl) h_3 rfl dX7_count_70 ?_
              have hq : (sc.1.2.2.2 : Int32) = (if bIn what 0 5 then (if what = 0 then sc.2.2.2.1 else sCh sc (what - 1)) else -1) := by rw [c_6_5]; rfl
              have hfm_9 : frM F F_1 := (frM_up frM_rf hF_2 (by decide) (by decide))
              exact zireti hC hZ hr hlocks ⟨hq, ⟨bs, en, u, st, kk, dw, ho, sv, ia, tk, told, pl, nu, im, hw, kd, fg, so, mn, rw0, bt, h_3, (zne hF_2 (by decide) h57), (zne hF_2 (by decide) h58), (zne hF_2 (by decide) h59), (zne hF_2 (by decide) h60), (zne hF_2 (by decide) h61), (zne hF_2 (by decide) h62), (zne hF_2 (by decide) h63), (zne hF_2 (by decide) h64), (zne hF_2 (by decide) h65), (zne hF_2 (by decide) h66), (zne hF_2 (by decide) h67), hR⟩, hfm_9⟩ dX7_count_73
            · refine lv_tableOut (tgt := 74) hx hb dX7_count_6 (by have e0 : ¬ what.toInt = 0 := lv_neT (k := 0) c_6_0 rfl; have e1 : ¬ what.toInt = 1 := lv_neT (k := 1) c_6_1 rfl; have e2 : ¬ what.toInt = 2 := lv_neT (k := 2) c_6_2 rfl; have e3 : ¬ what.toInt = 3 := lv_neT (k := 3) c_6_3 rfl; have e4 : ¬ what.toInt = 4 := lv_neT (k := 4) c_6_4 rfl; have e5 : ¬ what.toInt = 5 := lv_neT (k := 5) c_6_5 rfl; omega) (by decide) ?_
              refine lv_iconst (v := (-1)) hx hb dX7_count_74 (by decide) ?_
              have hq : ((-1) : Int32) = (if bIn what 0 5 then (if what = 0 then sc.2.2.2.1 else sCh sc (what - 1)) else -1) := by exact (if_neg (not05 c_6_0 c_6_1 c_6_2 c_6_3 c_6_4 c_6_5)).symm
              have hfm_10 : frM F F_1 := (frM_up frM_rf hF_2 (by decide) (by decide))
              exact zireti hC hZ hr hlocks ⟨hq, ⟨bs, en, u, st, kk, dw, ho, sv, ia, tk, told, pl, nu, im, hw, kd, fg, so, mn, rw0, bt, h_3, (zne hF_2 (by decide) h57), (zne hF_2 (by decide) h58), (zne hF_2 (by decide) h59), (zne hF_2 (by decide) h60), (zne hF_2 (by decide) h61), (zne hF_2 (by decide) h62), (zne hF_2 (by decide) h63), (zne hF_2 (by decide) h64), (zne hF_2 (by decide) h65), (zne hF_2 (by decide) h66), (zne hF_2 (by decide) h67), hR⟩, hfm_10⟩ dX7_count_75

theorem mX7_tryOf : zMd yX7_tryOf cX7_tryOf 3 (some .int) 2 := ⟨by decide +kernel, gt_of 928 (by decide +kernel) rfl, gt_of 52 (by decide +kernel) rfl, by decide⟩
theorem dX7_tryOf_0 : decode cX7_tryOf 0 = .ok (.aload_n 0, 1) := by decide +kernel
theorem dX7_tryOf_1 : decode cX7_tryOf 1 = .ok (.iconst 0, 1) := by decide +kernel
theorem dX7_tryOf_2 : decode cX7_tryOf 2 = .ok (.putfield 57, 3) := by decide +kernel
theorem dX7_tryOf_5 : decode cX7_tryOf 5 = .ok (.iload_n 1, 1) := by decide +kernel
theorem dX7_tryOf_6 : decode cX7_tryOf 6 = .ok (.i2l, 1) := by decide +kernel
theorem dX7_tryOf_7 : decode cX7_tryOf 7 = .ok (.lconst 0, 1) := by decide +kernel
theorem dX7_tryOf_8 : decode cX7_tryOf 8 = .ok (.aload_n 0, 1) := by decide +kernel
theorem dX7_tryOf_9 : decode cX7_tryOf 9 = .ok (.getfield 120, 3) := by decide +kernel
theorem dX7_tryOf_12 : decode cX7_tryOf 12 = .ok (.iconst 1, 1) := by decide +kernel
theorem dX7_tryOf_13 : decode cX7_tryOf 13 = .ok (.isub, 1) := by decide +kernel
theorem dX7_tryOf_14 : decode cX7_tryOf 14 = .ok (.i2l, 1) := by decide +kernel
theorem dX7_tryOf_15 : decode cX7_tryOf 15 = .ok (.invokestatic 63, 3) := by decide +kernel
theorem dX7_tryOf_18 : decode cX7_tryOf 18 = .ok (.ifCond .eq 28, 3) := by decide +kernel
theorem dX7_tryOf_21 : decode cX7_tryOf 21 = .ok (.iload_n 2, 1) := by decide +kernel
theorem dX7_tryOf_22 : decode cX7_tryOf 22 = .ok (.i2l, 1) := by decide +kernel
theorem dX7_tryOf_23 : decode cX7_tryOf 23 = .ok (.lconst 0, 1) := by decide +kernel
theorem dX7_tryOf_24 : decode cX7_tryOf 24 = .ok (.ldc2_w 123, 3) := by decide +kernel
theorem qX7_123 : Cond.constantLong RX7 123 3 ∈ gtbl := gt_of 929 (by decide +kernel) rfl
theorem dX7_tryOf_27 : decode cX7_tryOf 27 = .ok (.invokestatic 63, 3) := by decide +kernel
theorem dX7_tryOf_30 : decode cX7_tryOf 30 = .ok (.ifCond .eq 16, 3) := by decide +kernel
theorem dX7_tryOf_33 : decode cX7_tryOf 33 = .ok (.aload_n 0, 1) := by decide +kernel
theorem dX7_tryOf_34 : decode cX7_tryOf 34 = .ok (.getfield 22, 3) := by decide +kernel
theorem dX7_tryOf_37 : decode cX7_tryOf 37 = .ok (.iconst 4, 1) := by decide +kernel
theorem dX7_tryOf_38 : decode cX7_tryOf 38 = .ok (.iload_n 1, 1) := by decide +kernel
theorem dX7_tryOf_39 : decode cX7_tryOf 39 = .ok (.imul, 1) := by decide +kernel
theorem dX7_tryOf_40 : decode cX7_tryOf 40 = .ok (.iload_n 2, 1) := by decide +kernel
theorem dX7_tryOf_41 : decode cX7_tryOf 41 = .ok (.iadd, 1) := by decide +kernel
theorem dX7_tryOf_42 : decode cX7_tryOf 42 = .ok (.iaload, 1) := by decide +kernel
theorem dX7_tryOf_43 : decode cX7_tryOf 43 = .ok (.goto 4, 3) := by decide +kernel
theorem dX7_tryOf_47 : decode cX7_tryOf 47 = .ok (.ireturn, 1) := by decide +kernel
theorem dX7_tryOf_46 : decode cX7_tryOf 46 = .ok (.iconst (-1), 1) := by decide +kernel
set_option maxRecDepth 100000 in
theorem c_X7_tryOf (l : Launch) (D : va_G) (cy : Nat → Nat) (n : Nat) (ad : Nat → Nat) (F : Nat → va_E) (sz : Nat) (th0 pic : Int32) (sc ps : Scn) (sh : Nat → Shf) (hn : 68 ≤ n) (hX : RM ad cy F th0 pic sc ps sh) (hG : gX sc ps sh) (i what : Int32) : Met l yX7_tryOf (zw yX7_tryOf cX7_tryOf 3 (some .int)) (rmL 1) (zPc D cy n ad F sz [.ref (ad 56), .int i, .int what]) (va_Qi (fun r F1 => r = (if bTry sc.2.2.2.1 i then (if what = 0 then (sc.2.2.1 (iN i)).1 else if what = 1 then (sc.2.2.1 (iN i)).2.1 else if what = 2 then (sc.2.2.1 (iN i)).2.2.1 else if what = 3 then (sc.2.2.1 (iN i)).2.2.2 else -1) else -1) ∧ RM ad cy F1 0 pic sc ps sh ∧ frM F F1) (zB D n ad) (zA n ad sz)) 0 0 (zA n ad sz) := by
  refine zmet (by decide +kernel) (Nat.le_of_ble_eq_true rfl) (fun p e s m args below meth c ls hC hsz hZ hA hr hlocks hnm hl => ?_)
  have hC : zC p m c cX7_tryOf 3 s args RX7 D cy := hC
  have hx := hC.1.1
  have hb := hC.1.2.1
  have hl : lv_has ls 3 [(0, .ref (ad 56)), (1, .int i), (2, .int what)] := hl
  obtain ⟨bs, en, u, st, kk, dw, ho, sv, ia, tk, told, pl, nu, im, hw, kd, fg, so, mn, rw0, bt, hM, h57, h58, h59, h60, h61, h62, h63, h64, h65, h66, h67, hR⟩ := hX
  have hRS := hR.2.2
  have hHW := rX_hw hR
  refine lv_aload_n hx hb dX7_tryOf_0 rfl (lv_at hl 0 rfl) ?_
  refine lv_iconst (v := 0) hx hb dX7_tryOf_1 (by decide) ?_
  refine zput (E := oModel ad sc.1 sc.2.1 sc.2.2.2.1 sc.2.2.2.2 0 bs en u st kk dw ho sv pic ia tk) hC hZ pX7_57 (zlt hn rfl) hM rfl rfl rfl (Nat.le_of_ble_eq_true rfl) dX7_tryOf_2 (fun F_1 hF_2 H locs hZ => ?_)
  have h_3 := zeq hF_2
  refine lv_iload_n hx hb dX7_tryOf_5 rfl (lv_at hl 1 rfl) ?_
  refine lv_i2l (v := (i).toInt64) hx hb dX7_tryOf_6 (by rfl) ?_
  refine lv_lconst (v := 0) hx hb dX7_tryOf_7 (by decide) ?_
  refine lv_aload_n hx hb dX7_tryOf_8 rfl (lv_at hl 0 rfl) ?_
  refine zget hC hZ fX7_120 (zlt hn rfl) h_3 rfl dX7_tryOf_9 ?_
  refine lv_iconst (v := 1) hx hb dX7_tryOf_12 (by decide) ?_
  refine lv_isub hx hb dX7_tryOf_13 ?_
  refine lv_i2l (v := (sc.2.2.2.1 - 1).toInt64) hx hb dX7_tryOf_14 (by rfl) ?_
  refine zgoi hZ hA (zrunS (As := [.long ((i).toInt64), .long 0, .long ((sc.2.2.2.1 - 1).toInt64)]) (rest := []) hC hZ (c_X7_in l D cy n ad F_1 H.size i 0 (sc.2.2.2.1 - 1) 0 ((sc.2.2.2.1 - 1).toInt64) (by decide) rfl) mX7_in sX7_in kX7_63 (zRj_of rfl) rfl hl.1 rfl (Nat.le_of_ble_eq_true rfl) dX7_tryOf_15 ⟨Nat.le_refl _, Nat.le_refl _⟩) (fun r_5 F_4 hp_6 H locs hZ => ?_)
  obtain ⟨hp_6, rfl⟩ := hp_6
  by_cases b_7 : bIn i 0 (sc.2.2.2.1 - 1)
  · rw [if_pos b_7] at hp_6
    subst hp_6
    refine lv_if_eq (tgt := 46) hx hb dX7_tryOf_18 (by decide) (fun h => absurd (show (1 : Int32) = 0 from h) (by decide)) (fun _ => ?_)
    refine lv_iload_n hx hb dX7_tryOf_21 rfl (lv_at hl 2 rfl) ?_
    refine lv_i2l (v := (what).toInt64) hx hb dX7_tryOf_22 (by rfl) ?_
    refine lv_lconst (v := 0) hx hb dX7_tryOf_23 (by decide) ?_
    refine lv_ldc2 (v := 3) hx hb hC.1.2.2.2.1 (hC.1.2.2.2.2 _ qX7_123) dX7_tryOf_24 ?_
    refine zgoi hZ hA (zrunS (As := [.long ((what).toInt64), .long 0, .long 3]) (rest := []) hC hZ (c_X7_in l D cy n ad F_1 H.size what 0 3 0 3 (by decide) (by decide)) mX7_in sX7_in kX7_63 (zRj_of rfl) rfl hl.1 rfl (Nat.le_of_ble_eq_true rfl) dX7_tryOf_27 ⟨Nat.le_refl _, Nat.le_refl _⟩) (fun r_9 F_8 hp_10 H locs hZ => ?_)
    obtain ⟨hp_10, rfl⟩ := hp_10
    by_cases b_11 : bIn what 0 3
    · rw [if_pos b_11] at hp_10
      subst hp_10
      refine lv_if_eq (tgt := 46) hx hb dX7_tryOf_30 (by decide) (fun h => absurd (show (1 : Int32) = 0 from h) (by decide)) (fun _ => ?_)
      refine lv_aload_n hx hb dX7_tryOf_33 rfl (lv_at hl 0 rfl) ?_
      refine zget hC hZ fX7_22 (zlt hn rfl) h_3 rfl dX7_tryOf_34 ?_
      refine lv_iconst (v := 4) hx hb dX7_tryOf_37 (by decide) ?_
      refine lv_iload_n hx hb dX7_tryOf_38 rfl (lv_at hl 1 rfl) ?_
      refine lv_imul hx hb dX7_tryOf_39 ?_
      refine lv_iload_n hx hb dX7_tryOf_40 rfl (lv_at hl 2 rfl) ?_
      refine lv_iadd hx hb dX7_tryOf_41 ?_
      have hti := bTry_m hG.1 b_7
      have hi9 := iN_at (N := 8) hti.1 hti.2.2 rfl
      have hw9 := bIn_n (N := 3) b_11 (by decide) rfl
      refine ziald hC hZ (zlt hn rfl) (zne hF_2 (by decide) h57) (ix4 hi9.1 hw9.1) (by omega) (by decide) dX7_tryOf_42 ?_
      refine lv_goto (tgt := 47) hx hb dX7_tryOf_43 (by decide) ?_
      have hti2 := bTry_m hG.1 b_7
      have hq : ((told (4 * iN i + iN what)) : Int32) = (if bTry sc.2.2.2.1 i then (if what = 0 then (sc.2.2.1 (iN i)).1 else if what = 1 then (sc.2.2.1 (iN i)).2.1 else if what = 2 then (sc.2.2.1 (iN i)).2.2.1 else if what = 3 then (sc.2.2.1 (iN i)).2.2.2 else -1) else -1) := by exact (toldM (hR.1 _ (tc_lt hG.1 hti2)) hw9).trans (if_pos hti2).symm
      have hfm_12 : frM F F_1 := (frM_up frM_rf hF_2 (by decide) (by decide))
      exact zireti hC hZ hr hlocks ⟨hq, ⟨bs, en, u, st, kk, dw, ho, sv, ia, tk, told, pl, nu, im, hw, kd, fg, so, mn, rw0, bt, h_3, (zne hF_2 (by decide) h57), (zne hF_2 (by decide) h58), (zne hF_2 (by decide) h59), (zne hF_2 (by decide) h60), (zne hF_2 (by decide) h61), (zne hF_2 (by decide) h62), (zne hF_2 (by decide) h63), (zne hF_2 (by decide) h64), (zne hF_2 (by decide) h65), (zne hF_2 (by decide) h66), (zne hF_2 (by decide) h67), hR⟩, hfm_12⟩ dX7_tryOf_47
    · rw [if_neg b_11] at hp_10
      subst hp_10
      refine lv_if_eq (tgt := 46) hx hb dX7_tryOf_30 (by decide) (fun _ => ?_) (fun h => absurd (show (0 : Int32) = 0 by decide) h)
      refine lv_iconst (v := (-1)) hx hb dX7_tryOf_46 (by decide) ?_
      have hti2 := bTry_m hG.1 b_7
      have hq : ((-1) : Int32) = (if bTry sc.2.2.2.1 i then (if what = 0 then (sc.2.2.1 (iN i)).1 else if what = 1 then (sc.2.2.1 (iN i)).2.1 else if what = 2 then (sc.2.2.1 (iN i)).2.2.1 else if what = 3 then (sc.2.2.1 (iN i)).2.2.2 else -1) else -1) := by exact ((if_pos hti2).trans (not03 b_11)).symm
      have hfm_13 : frM F F_1 := (frM_up frM_rf hF_2 (by decide) (by decide))
      exact zireti hC hZ hr hlocks ⟨hq, ⟨bs, en, u, st, kk, dw, ho, sv, ia, tk, told, pl, nu, im, hw, kd, fg, so, mn, rw0, bt, h_3, (zne hF_2 (by decide) h57), (zne hF_2 (by decide) h58), (zne hF_2 (by decide) h59), (zne hF_2 (by decide) h60), (zne hF_2 (by decide) h61), (zne hF_2 (by decide) h62), (zne hF_2 (by decide) h63), (zne hF_2 (by decide) h64), (zne hF_2 (by decide) h65), (zne hF_2 (by decide) h66), (zne hF_2 (by decide) h67), hR⟩, hfm_13⟩ dX7_tryOf_47
  · rw [if_neg b_7] at hp_6
    subst hp_6
    refine lv_if_eq (tgt := 46) hx hb dX7_tryOf_18 (by decide) (fun _ => ?_) (fun h => absurd (show (0 : Int32) = 0 by decide) h)
    refine lv_iconst (v := (-1)) hx hb dX7_tryOf_46 (by decide) ?_
    have hq : ((-1) : Int32) = (if bTry sc.2.2.2.1 i then (if what = 0 then (sc.2.2.1 (iN i)).1 else if what = 1 then (sc.2.2.1 (iN i)).2.1 else if what = 2 then (sc.2.2.1 (iN i)).2.2.1 else if what = 3 then (sc.2.2.1 (iN i)).2.2.2 else -1) else -1) := by exact (if_neg (fun h => b_7 (bTry_n hG.1 h))).symm
    have hfm_14 : frM F F_1 := (frM_up frM_rf hF_2 (by decide) (by decide))
    exact zireti hC hZ hr hlocks ⟨hq, ⟨bs, en, u, st, kk, dw, ho, sv, ia, tk, told, pl, nu, im, hw, kd, fg, so, mn, rw0, bt, h_3, (zne hF_2 (by decide) h57), (zne hF_2 (by decide) h58), (zne hF_2 (by decide) h59), (zne hF_2 (by decide) h60), (zne hF_2 (by decide) h61), (zne hF_2 (by decide) h62), (zne hF_2 (by decide) h63), (zne hF_2 (by decide) h64), (zne hF_2 (by decide) h65), (zne hF_2 (by decide) h66), (zne hF_2 (by decide) h67), hR⟩, hfm_14⟩ dX7_tryOf_47

theorem mX7_story : zMd yX7_story cX7_story 4 (some .int) 2 := ⟨by decide +kernel, gt_of 937 (by decide +kernel) rfl, gt_of 52 (by decide +kernel) rfl, by decide⟩
theorem dX7_story_0 : decode cX7_story 0 = .ok (.aload_n 0, 1) := by decide +kernel
theorem dX7_story_1 : decode cX7_story 1 = .ok (.iconst 0, 1) := by decide +kernel
theorem dX7_story_2 : decode cX7_story 2 = .ok (.putfield 57, 3) := by decide +kernel
theorem dX7_story_5 : decode cX7_story 5 = .ok (.iload_n 2, 1) := by decide +kernel
theorem dX7_story_6 : decode cX7_story 6 = .ok (.i2l, 1) := by decide +kernel
theorem dX7_story_7 : decode cX7_story 7 = .ok (.lconst 0, 1) := by decide +kernel
theorem dX7_story_8 : decode cX7_story 8 = .ok (.ldc2_w 140, 3) := by decide +kernel
theorem qX7_140 : Cond.constantLong RX7 140 2 ∈ gtbl := gt_of 938 (by decide +kernel) rfl
theorem dX7_story_11 : decode cX7_story 11 = .ok (.invokestatic 63, 3) := by decide +kernel
theorem dX7_story_14 : decode cX7_story 14 = .ok (.ifCond .ne 7, 3) := by decide +kernel
theorem dX7_story_21 : decode cX7_story 21 = .ok (.aload_n 0, 1) := by decide +kernel
theorem dX7_story_22 : decode cX7_story 22 = .ok (.iload_n 1, 1) := by decide +kernel
theorem dX7_story_23 : decode cX7_story 23 = .ok (.invokevirtual 142, 3) := by decide +kernel
theorem kX7_142 : zLk RX7 142 yX7_wrongStory := Or.inl (gt_of 939 (by decide +kernel) rfl)
theorem vX7_wrongStory : zMi yX7_wrongStory := ⟨gt_of 941 (by decide +kernel) rfl, gt_of 26 (by decide +kernel) rfl⟩
theorem dX7_story_26 : decode cX7_story 26 = .ok (.istore_n 3, 1) := by decide +kernel
theorem dX7_story_27 : decode cX7_story 27 = .ok (.iload_n 3, 1) := by decide +kernel
theorem dX7_story_28 : decode cX7_story 28 = .ok (.ifCond .ge 5, 3) := by decide +kernel
theorem dX7_story_33 : decode cX7_story 33 = .ok (.aload_n 0, 1) := by decide +kernel
theorem dX7_story_34 : decode cX7_story 34 = .ok (.iload_n 1, 1) := by decide +kernel
theorem dX7_story_35 : decode cX7_story 35 = .ok (.invokevirtual 145, 3) := by decide +kernel
theorem kX7_145 : zLk RX7 145 yX7_tellOn := Or.inl (gt_of 943 (by decide +kernel) rfl)
theorem vX7_tellOn : zMi yX7_tellOn := ⟨gt_of 945 (by decide +kernel) rfl, gt_of 27 (by decide +kernel) rfl⟩
theorem dX7_story_38 : decode cX7_story 38 = .ok (.iload_n 2, 1) := by decide +kernel
theorem dX7_story_39 : decode cX7_story 39 = .ok (.ifCond .ne 10, 3) := by decide +kernel
theorem dX7_story_49 : decode cX7_story 49 = .ok (.iload_n 2, 1) := by decide +kernel
theorem dX7_story_50 : decode cX7_story 50 = .ok (.iconst 1, 1) := by decide +kernel
theorem dX7_story_51 : decode cX7_story 51 = .ok (.if_icmp .ne 10, 3) := by decide +kernel
theorem dX7_story_61 : decode cX7_story 61 = .ok (.aload_n 0, 1) := by decide +kernel
theorem dX7_story_62 : decode cX7_story 62 = .ok (.getfield 131, 3) := by decide +kernel
theorem dX7_story_65 : decode cX7_story 65 = .ok (.ireturn, 1) := by decide +kernel
theorem dX7_story_54 : decode cX7_story 54 = .ok (.aload_n 0, 1) := by decide +kernel
theorem dX7_story_55 : decode cX7_story 55 = .ok (.getfield 128, 3) := by decide +kernel
theorem dX7_story_58 : decode cX7_story 58 = .ok (.goto 7, 3) := by decide +kernel
theorem dX7_story_42 : decode cX7_story 42 = .ok (.aload_n 0, 1) := by decide +kernel
theorem dX7_story_43 : decode cX7_story 43 = .ok (.getfield 125, 3) := by decide +kernel
theorem dX7_story_46 : decode cX7_story 46 = .ok (.goto 19, 3) := by decide +kernel
theorem dX7_story_31 : decode cX7_story 31 = .ok (.iload_n 3, 1) := by decide +kernel
theorem dX7_story_32 : decode cX7_story 32 = .ok (.ireturn, 1) := by decide +kernel
theorem dX7_story_17 : decode cX7_story 17 = .ok (.iconst (-1), 1) := by decide +kernel
theorem dX7_story_18 : decode cX7_story 18 = .ok (.goto 8, 3) := by decide +kernel
set_option maxRecDepth 100000 in
theorem c_X7_story (l : Launch) (D : va_G) (cy : Nat → Nat) (n : Nat) (ad : Nat → Nat) (F : Nat → va_E) (sz : Nat) (th0 pic : Int32) (sc ps : Scn) (sh : Nat → Shf) (hn : 68 ≤ n) (hX : RM ad cy F th0 pic sc ps sh) (hG : gX sc ps sh) (d what : Int32) : Met l yX7_story (zw yX7_story cX7_story 4 (some .int)) (rmL 2) (zPc D cy n ad F sz [.ref (ad 56), .int d, .int what]) (va_Qi (fun r F1 => r = zr (bIn what 0 2) (sStR sh d) (sStory sc (sh (iN d)).2.1 what) ∧ RM ad cy F1 0 pic sc ps sh ∧ frM F F1) (zB D n ad) (zA n ad sz)) 0 0 (zA n ad sz) := by
  refine zmet (by decide +kernel) (Nat.le_of_ble_eq_true rfl) (fun p e s m args below meth c ls hC hsz hZ hA hr hlocks hnm hl => ?_)
  have hC : zC p m c cX7_story 4 s args RX7 D cy := hC
  have hx := hC.1.1
  have hb := hC.1.2.1
  have hl : lv_has ls 4 [(0, .ref (ad 56)), (1, .int d), (2, .int what)] := hl
  obtain ⟨bs, en, u, st, kk, dw, ho, sv, ia, tk, told, pl, nu, im, hw, kd, fg, so, mn, rw0, bt, hM, h57, h58, h59, h60, h61, h62, h63, h64, h65, h66, h67, hR⟩ := hX
  have hRS := hR.2.2
  have hHW := rX_hw hR
  refine lv_aload_n hx hb dX7_story_0 rfl (lv_at hl 0 rfl) ?_
  refine lv_iconst (v := 0) hx hb dX7_story_1 (by decide) ?_
  refine zput (E := oModel ad sc.1 sc.2.1 sc.2.2.2.1 sc.2.2.2.2 0 bs en u st kk dw ho sv pic ia tk) hC hZ pX7_57 (zlt hn rfl) hM rfl rfl rfl (Nat.le_of_ble_eq_true rfl) dX7_story_2 (fun F_1 hF_2 H locs hZ => ?_)
  have h_3 := zeq hF_2
  refine lv_iload_n hx hb dX7_story_5 rfl (lv_at hl 2 rfl) ?_
  refine lv_i2l (v := (what).toInt64) hx hb dX7_story_6 (by rfl) ?_
  refine lv_lconst (v := 0) hx hb dX7_story_7 (by decide) ?_
  refine lv_ldc2 (v := 2) hx hb hC.1.2.2.2.1 (hC.1.2.2.2.2 _ qX7_140) dX7_story_8 ?_
  refine zgoi hZ hA (zrunS (As := [.long ((what).toInt64), .long 0, .long 2]) (rest := []) hC hZ (c_X7_in l D cy n ad F_1 H.size what 0 2 0 2 (by decide) (by decide)) mX7_in sX7_in kX7_63 (zRj_of rfl) rfl hl.1 rfl (Nat.le_of_ble_eq_true rfl) dX7_story_11 ⟨Nat.le_refl _, Nat.le_refl _⟩) (fun r_5 F_4 hp_6 H locs hZ => ?_)
  obtain ⟨hp_6, rfl⟩ := hp_6
  by_cases b_7 : bIn what 0 2
  · rw [if_pos b_7] at hp_6
    subst hp_6
    refine lv_if_ne (tgt := 21) hx hb dX7_story_14 (by decide) (fun _ => ?_) (fun h => absurd (show (1 : Int32) = 0 from h) (by decide))
    refine lv_aload_n hx hb dX7_story_21 rfl (lv_at hl 0 rfl) ?_
    refine lv_iload_n hx hb dX7_story_22 rfl (lv_at hl 1 rfl) ?_
    refine zgoi hZ hA (zrunV (As := [.int d]) (rest := []) (k := 56) hC hZ (c_X7_wrongStory l D cy n ad F_1 H.size sc.1 sc.2.1 sc.2.2.2.1 sc.2.2.2.2 0 bs en u st kk dw ho sv pic ia tk hn h_3 hw (zne hF_2 (by decide) h61) d) mX7_wrongStory vX7_wrongStory kX7_142 (zRj_of rfl) (zlt hn rfl) h_3 rfl rfl hl.1 rfl (Nat.le_of_ble_eq_true rfl) dX7_story_23 ⟨Nat.le_refl _, Nat.le_refl _⟩) (fun r_9 F_8 hp_10 H locs hZ => ?_)
    rw [mStR_eq hHW] at hp_10
    obtain ⟨rfl, rfl⟩ := hp_10
    refine lv_istore_n (lv' := [(3, .int (sStR sh d)), (0, .ref (ad 56)), (1, .int d), (2, .int what)]) hx hb dX7_story_26 rfl hl (by decide) rfl (fun ls hl => ?_)
    refine lv_iload_n hx hb dX7_story_27 rfl (lv_at hl 0 rfl) ?_
    refine lv_if_ge (tgt := 33) hx hb dX7_story_28 (by decide) (fun c_28 => ?_) (fun c_28 => ?_)
    · refine lv_aload_n hx hb dX7_story_33 rfl (lv_at hl 1 rfl) ?_
      refine lv_iload_n hx hb dX7_story_34 rfl (lv_at hl 2 rfl) ?_
      have hz_11 : (sStR sh d) = 0 := sStR_ge (Int32.not_lt.mpr c_28)
      have hs := sStR_0 hz_11
      have hd := hs.1
      have ht : (sh (iN d)).2.1 = (kd (iN d), fg (iN d)) := (hRS _ hd.2).2.1 hs.2
      have hgt : gT (kd (iN d), fg (iN d)) := by rw [← ht]; exact (hG.2.2 _ hd.2).1 hs.2
      refine zgov hZ hA (zrunV (As := [.int d]) (rest := []) (k := 56) hC hZ (c_X7_tellOn l D cy n ad F_1 H.size sc.1 sc.2.1 sc.2.2.2.1 sc.2.2.2.2 0 bs en u st kk dw ho sv pic ia tk hn h_3 kd (zne hF_2 (by decide) h62) fg (zne hF_2 (by decide) h63) d hd) mX7_tellOn vX7_tellOn kX7_145 (zRj_of rfl) (zlt hn rfl) h_3 rfl rfl hl.1 rfl (Nat.le_of_ble_eq_true rfl) dX7_story_35 ⟨Nat.le_refl _, Nat.le_refl _⟩) (fun F_12 hp_14 H locs hZ => ?_)
      have h_15 := zeq hp_14
      refine lv_iload_n hx hb dX7_story_38 rfl (lv_at hl 3 rfl) ?_
      refine lv_if_ne (tgt := 49) hx hb dX7_story_39 (by decide) (fun c_39 => ?_) (fun c_39 => ?_)
      · refine lv_iload_n hx hb dX7_story_49 rfl (lv_at hl 3 rfl) ?_
        refine lv_iconst (v := 1) hx hb dX7_story_50 (by decide) ?_
        refine lv_icmp_ne (tgt := 61) hx hb dX7_story_51 (by decide) (fun c_51 => ?_) (fun c_51 => ?_)
        · refine lv_aload_n hx hb dX7_story_61 rfl (lv_at hl 1 rfl) ?_
          refine zget hC hZ fX7_131 (zlt hn rfl) h_15 rfl dX7_story_62 ?_
          have hv : ((sHold (kd (iN d), fg (iN d))) : Int32) = sStory sc (sh (iN d)).2.1 what := by rw [ht]; unfold sStory; simp [c_39, c_51]
          have hq : ((sHold (kd (iN d), fg (iN d))) : Int32) = zr (bIn what 0 2) (sStR sh d) (sStory sc (sh (iN d)).2.1 what) := by exact hv.trans (zr_ok b_7 hz_11).symm
          have hfm_16 : frM F F_12 := (frM_up (frM_up frM_rf hF_2 (by decide) (by decide)) hp_14 (by decide) (by decide))
          exact zireti hC hZ hr hlocks ⟨hq, ⟨bs, en, u, st, (sKick (kd (iN d), fg (iN d)) sc.1), (sDraw (kd (iN d), fg (iN d))), (sHold (kd (iN d), fg (iN d))), sv, ia, tk, told, pl, nu, im, hw, kd, fg, so, mn, rw0, bt, h_15, (zne hp_14 (by decide) (zne hF_2 (by decide) h57)), (zne hp_14 (by decide) (zne hF_2 (by decide) h58)), (zne hp_14 (by decide) (zne hF_2 (by decide) h59)), (zne hp_14 (by decide) (zne hF_2 (by decide) h60)), (zne hp_14 (by decide) (zne hF_2 (by decide) h61)), (zne hp_14 (by decide) (zne hF_2 (by decide) h62)), (zne hp_14 (by decide) (zne hF_2 (by decide) h63)), (zne hp_14 (by decide) (zne hF_2 (by decide) h64)), (zne hp_14 (by decide) (zne hF_2 (by decide) h65)), (zne hp_14 (by decide) (zne hF_2 (by decide) h66)), (zne hp_14 (by decide) (zne hF_2 (by decide) h67)), hR⟩, hfm_16⟩ dX7_story_65
        · refine lv_aload_n hx hb dX7_story_54 rfl (lv_at hl 1 rfl) ?_
          refine zget hC hZ fX7_128 (zlt hn rfl) h_15 rfl dX7_story_55 ?_
          refine lv_goto (tgt := 65) hx hb dX7_story_58 (by decide) ?_
          have hv : ((sDraw (kd (iN d), fg (iN d))) : Int32) = sStory sc (sh (iN d)).2.1 what := by rw [ht]; unfold sStory; simp [c_39, c_51]
          have hq : ((sDraw (kd (iN d), fg (iN d))) : Int32) = zr (bIn what 0 2) (sStR sh d) (sStory sc (sh (iN d)).2.1 what) := by exact hv.trans (zr_ok b_7 hz_11).symm
          have hfm_17 : frM F F_12 := (frM_up (frM_up frM_rf hF_2 (by decide) (by decide)) hp_14 (by decide) (by decide))
          exact zireti hC hZ hr hlocks ⟨hq, ⟨bs, en, u, st, (sKick (kd (iN d), fg (iN d)) sc.1), (sDraw (kd (iN d), fg (iN d))), (sHold (kd (iN d), fg (iN d))), sv, ia, tk, told, pl, nu, im, hw, kd, fg, so, mn, rw0, bt, h_15, (zne hp_14 (by decide) (zne hF_2 (by decide) h57)), (zne hp_14 (by decide) (zne hF_2 (by decide) h58)), (zne hp_14 (by decide) (zne hF_2 (by decide) h59)), (zne hp_14 (by decide) (zne hF_2 (by decide) h60)), (zne hp_14 (by decide) (zne hF_2 (by decide) h61)), (zne hp_14 (by decide) (zne hF_2 (by decide) h62)), (zne hp_14 (by decide) (zne hF_2 (by decide) h63)), (zne hp_14 (by decide) (zne hF_2 (by decide) h64)), (zne hp_14 (by decide) (zne hF_2 (by decide) h65)), (zne hp_14 (by decide) (zne hF_2 (by decide) h66)), (zne hp_14 (by decide) (zne hF_2 (by decide) h67)), hR⟩, hfm_17⟩ dX7_story_65
      · refine lv_aload_n hx hb dX7_story_42 rfl (lv_at hl 1 rfl) ?_
        refine zget hC hZ fX7_125 (zlt hn rfl) h_15 rfl dX7_story_43 ?_
        refine lv_goto (tgt := 65) hx hb dX7_story_46 (by decide) ?_
        have hv : ((sKick (kd (iN d), fg (iN d)) sc.1) : Int32) = sStory sc (sh (iN d)).2.1 what := by rw [ht]; unfold sStory; simp [c_39]
        have hq : ((sKick (kd (iN d), fg (iN d)) sc.1) : Int32) = zr (bIn what 0 2) (sStR sh d) (sStory sc (sh (iN d)).2.1 what) := by exact hv.trans (zr_ok b_7 hz_11).symm
        have hfm_18 : frM F F_12 := (frM_up (frM_up frM_rf hF_2 (by decide) (by decide)) hp_14 (by decide) (by decide))
        exact zireti hC hZ hr hlocks ⟨hq, ⟨bs, en, u, st, (sKick (kd (iN d), fg (iN d)) sc.1), (sDraw (kd (iN d), fg (iN d))), (sHold (kd (iN d), fg (iN d))), sv, ia, tk, told, pl, nu, im, hw, kd, fg, so, mn, rw0, bt, h_15, (zne hp_14 (by decide) (zne hF_2 (by decide) h57)), (zne hp_14 (by decide) (zne hF_2 (by decide) h58)), (zne hp_14 (by decide) (zne hF_2 (by decide) h59)), (zne hp_14 (by decide) (zne hF_2 (by decide) h60)), (zne hp_14 (by decide) (zne hF_2 (by decide) h61)), (zne hp_14 (by decide) (zne hF_2 (by decide) h62)), (zne hp_14 (by decide) (zne hF_2 (by decide) h63)), (zne hp_14 (by decide) (zne hF_2 (by decide) h64)), (zne hp_14 (by decide) (zne hF_2 (by decide) h65)), (zne hp_14 (by decide) (zne hF_2 (by decide) h66)), (zne hp_14 (by decide) (zne hF_2 (by decide) h67)), hR⟩, hfm_18⟩ dX7_story_65
    · refine lv_iload_n hx hb dX7_story_31 rfl (lv_at hl 0 rfl) ?_
      have hz_19 : (sStR sh d) < 0 := Int32.not_le.mp c_28
      have hq : ((sStR sh d) : Int32) = zr (bIn what 0 2) (sStR sh d) (sStory sc (sh (iN d)).2.1 what) := by exact (zr_rf b_7 (neg_n0 hz_19)).symm
      have hfm_20 : frM F F_1 := (frM_up frM_rf hF_2 (by decide) (by decide))
      exact zireti hC hZ hr hlocks ⟨hq, ⟨bs, en, u, st, kk, dw, ho, sv, ia, tk, told, pl, nu, im, hw, kd, fg, so, mn, rw0, bt, h_3, (zne hF_2 (by decide) h57), (zne hF_2 (by decide) h58), (zne hF_2 (by decide) h59), (zne hF_2 (by decide) h60), (zne hF_2 (by decide) h61), (zne hF_2 (by decide) h62), (zne hF_2 (by decide) h63), (zne hF_2 (by decide) h64), (zne hF_2 (by decide) h65), (zne hF_2 (by decide) h66), (zne hF_2 (by decide) h67), hR⟩, hfm_20⟩ dX7_story_32
  · rw [if_neg b_7] at hp_6
    subst hp_6
    refine lv_if_ne (tgt := 21) hx hb dX7_story_14 (by decide) (fun h => absurd (show (0 : Int32) = 0 by decide) h) (fun _ => ?_)
    refine lv_iconst (v := (-1)) hx hb dX7_story_17 (by decide) ?_
    refine lv_goto (tgt := 26) hx hb dX7_story_18 (by decide) ?_
    refine lv_istore_n (lv' := [(3, .int (-1)), (0, .ref (ad 56)), (1, .int d), (2, .int what)]) hx hb dX7_story_26 rfl hl (by decide) rfl (fun ls hl => ?_)
    refine lv_iload_n hx hb dX7_story_27 rfl (lv_at hl 0 rfl) ?_
    refine lv_if_ge (tgt := 33) hx hb dX7_story_28 (by decide) (fun h => absurd (show (0 : Int32) ≤ (-1) from h) (by decide)) (fun _ => ?_)
    refine lv_iload_n hx hb dX7_story_31 rfl (lv_at hl 0 rfl) ?_
    have hq : ((-1) : Int32) = zr (bIn what 0 2) (sStR sh d) (sStory sc (sh (iN d)).2.1 what) := by exact (zr_no b_7).symm
    have hfm_21 : frM F F_1 := (frM_up frM_rf hF_2 (by decide) (by decide))
    exact zireti hC hZ hr hlocks ⟨hq, ⟨bs, en, u, st, kk, dw, ho, sv, ia, tk, told, pl, nu, im, hw, kd, fg, so, mn, rw0, bt, h_3, (zne hF_2 (by decide) h57), (zne hF_2 (by decide) h58), (zne hF_2 (by decide) h59), (zne hF_2 (by decide) h60), (zne hF_2 (by decide) h61), (zne hF_2 (by decide) h62), (zne hF_2 (by decide) h63), (zne hF_2 (by decide) h64), (zne hF_2 (by decide) h65), (zne hF_2 (by decide) h66), (zne hF_2 (by decide) h67), hR⟩, hfm_21⟩ dX7_story_32

theorem mX7_waits : zMd yX7_waits cX7_waits 2 (some .int) 1 := ⟨by decide +kernel, gt_of 1127 (by decide +kernel) rfl, gt_of 52 (by decide +kernel) rfl, by decide⟩
theorem dX7_waits_0 : decode cX7_waits 0 = .ok (.aload_n 0, 1) := by decide +kernel
theorem dX7_waits_1 : decode cX7_waits 1 = .ok (.iconst 0, 1) := by decide +kernel
theorem dX7_waits_2 : decode cX7_waits 2 = .ok (.putfield 57, 3) := by decide +kernel
theorem dX7_waits_5 : decode cX7_waits 5 = .ok (.aload_n 0, 1) := by decide +kernel
theorem dX7_waits_6 : decode cX7_waits 6 = .ok (.iload_n 1, 1) := by decide +kernel
theorem dX7_waits_7 : decode cX7_waits 7 = .ok (.invokevirtual 142, 3) := by decide +kernel
theorem dX7_waits_10 : decode cX7_waits 10 = .ok (.ifCond .ge 14, 3) := by decide +kernel
theorem dX7_waits_24 : decode cX7_waits 24 = .ok (.aload_n 0, 1) := by decide +kernel
theorem dX7_waits_25 : decode cX7_waits 25 = .ok (.iload_n 1, 1) := by decide +kernel
theorem dX7_waits_26 : decode cX7_waits 26 = .ok (.invokevirtual 254, 3) := by decide +kernel
theorem kX7_254 : zLk RX7 254 yX7_waitOf := Or.inl (gt_of 1128 (by decide +kernel) rfl)
theorem vX7_waitOf : zMi yX7_waitOf := ⟨gt_of 1130 (by decide +kernel) rfl, gt_of 43 (by decide +kernel) rfl⟩
theorem dX7_waits_29 : decode cX7_waits 29 = .ok (.ireturn, 1) := by decide +kernel
theorem dX7_waits_13 : decode cX7_waits 13 = .ok (.aload_n 0, 1) := by decide +kernel
theorem dX7_waits_14 : decode cX7_waits 14 = .ok (.iload_n 1, 1) := by decide +kernel
theorem dX7_waits_15 : decode cX7_waits 15 = .ok (.invokevirtual 142, 3) := by decide +kernel
theorem dX7_waits_18 : decode cX7_waits 18 = .ok (.invokestatic 227, 3) := by decide +kernel
theorem kX7_227 : zLk RX7 227 yX7_far := Or.inl (gt_of 1040 (by decide +kernel) rfl)
theorem sX7_far : Cond.static yX7_far ∈ gtbl := gt_of 1041 (by decide +kernel) rfl
theorem dX7_waits_21 : decode cX7_waits 21 = .ok (.goto 8, 3) := by decide +kernel
set_option maxRecDepth 100000 in
theorem c_X7_waits (l : Launch) (D : va_G) (cy : Nat → Nat) (n : Nat) (ad : Nat → Nat) (F : Nat → va_E) (sz : Nat) (th0 pic : Int32) (sc ps : Scn) (sh : Nat → Shf) (hn : 68 ≤ n) (hX : RM ad cy F th0 pic sc ps sh) (hG : gX sc ps sh) (d : Int32) : Met l yX7_waits (zw yX7_waits cX7_waits 2 (some .int)) (rmL 2) (zPc D cy n ad F sz [.ref (ad 56), .int d]) (va_Qi (fun r F1 => r = (if sStR sh d = 0 then sWait (sh (iN d)).2.1 else -1000000000 + sStR sh d) ∧ RM ad cy F1 0 pic sc ps sh ∧ frM F F1) (zB D n ad) (zA n ad sz)) 0 0 (zA n ad sz) := by
  refine zmet (by decide +kernel) (Nat.le_of_ble_eq_true rfl) (fun p e s m args below meth c ls hC hsz hZ hA hr hlocks hnm hl => ?_)
  have hC : zC p m c cX7_waits 2 s args RX7 D cy := hC
  have hx := hC.1.1
  have hb := hC.1.2.1
  have hl : lv_has ls 2 [(0, .ref (ad 56)), (1, .int d)] := hl
  obtain ⟨bs, en, u, st, kk, dw, ho, sv, ia, tk, told, pl, nu, im, hw, kd, fg, so, mn, rw0, bt, hM, h57, h58, h59, h60, h61, h62, h63, h64, h65, h66, h67, hR⟩ := hX
  have hRS := hR.2.2
  have hHW := rX_hw hR
  refine lv_aload_n hx hb dX7_waits_0 rfl (lv_at hl 0 rfl) ?_
  refine lv_iconst (v := 0) hx hb dX7_waits_1 (by decide) ?_
  refine zput (E := oModel ad sc.1 sc.2.1 sc.2.2.2.1 sc.2.2.2.2 0 bs en u st kk dw ho sv pic ia tk) hC hZ pX7_57 (zlt hn rfl) hM rfl rfl rfl (Nat.le_of_ble_eq_true rfl) dX7_waits_2 (fun F_1 hF_2 H locs hZ => ?_)
  have h_3 := zeq hF_2
  refine lv_aload_n hx hb dX7_waits_5 rfl (lv_at hl 0 rfl) ?_
  refine lv_iload_n hx hb dX7_waits_6 rfl (lv_at hl 1 rfl) ?_
  refine zgoi hZ hA (zrunV (As := [.int d]) (rest := []) (k := 56) hC hZ (c_X7_wrongStory l D cy n ad F_1 H.size sc.1 sc.2.1 sc.2.2.2.1 sc.2.2.2.2 0 bs en u st kk dw ho sv pic ia tk hn h_3 hw (zne hF_2 (by decide) h61) d) mX7_wrongStory vX7_wrongStory kX7_142 (zRj_of rfl) (zlt hn rfl) h_3 rfl rfl hl.1 rfl (Nat.le_of_ble_eq_true rfl) dX7_waits_7 ⟨Nat.le_refl _, Nat.le_refl _⟩) (fun r_5 F_4 hp_6 H locs hZ => ?_)
  rw [mStR_eq hHW] at hp_6
  obtain ⟨rfl, rfl⟩ := hp_6
  refine lv_if_ge (tgt := 24) hx hb dX7_waits_10 (by decide) (fun c_10 => ?_) (fun c_10 => ?_)
  · refine lv_aload_n hx hb dX7_waits_24 rfl (lv_at hl 0 rfl) ?_
    refine lv_iload_n hx hb dX7_waits_25 rfl (lv_at hl 1 rfl) ?_
    have hz_7 : (sStR sh d) = 0 := sStR_ge (Int32.not_lt.mpr c_10)
    have hs := sStR_0 hz_7
    have hd := hs.1
    have ht : (sh (iN d)).2.1 = (kd (iN d), fg (iN d)) := (hRS _ hd.2).2.1 hs.2
    have hgt : gT (kd (iN d), fg (iN d)) := by rw [← ht]; exact (hG.2.2 _ hd.2).1 hs.2
    refine zgoi hZ hA (zrunV (As := [.int d]) (rest := []) (k := 56) hC hZ (c_X7_waitOf l D cy n ad F_1 H.size sc.1 sc.2.1 sc.2.2.2.1 sc.2.2.2.2 0 bs en u st kk dw ho sv pic ia tk hn h_3 kd (zne hF_2 (by decide) h62) fg (zne hF_2 (by decide) h63) d hd hgt) mX7_waitOf vX7_waitOf kX7_254 (zRj_of rfl) (zlt hn rfl) h_3 rfl rfl hl.1 rfl (Nat.le_of_ble_eq_true rfl) dX7_waits_26 ⟨Nat.le_refl _, Nat.le_refl _⟩) (fun r_9 F_8 hp_10 H locs hZ => ?_)
    obtain ⟨rfl, rfl⟩ := hp_10
    have hq : ((sWait (kd (iN d), fg (iN d))) : Int32) = (if sStR sh d = 0 then sWait (sh (iN d)).2.1 else -1000000000 + sStR sh d) := by rw [if_pos hz_7, ht]
    have hfm_11 : frM F F_1 := (frM_up frM_rf hF_2 (by decide) (by decide))
    exact zireti hC hZ hr hlocks ⟨hq, ⟨bs, en, u, st, kk, dw, ho, sv, ia, tk, told, pl, nu, im, hw, kd, fg, so, mn, rw0, bt, h_3, (zne hF_2 (by decide) h57), (zne hF_2 (by decide) h58), (zne hF_2 (by decide) h59), (zne hF_2 (by decide) h60), (zne hF_2 (by decide) h61), (zne hF_2 (by decide) h62), (zne hF_2 (by decide) h63), (zne hF_2 (by decide) h64), (zne hF_2 (by decide) h65), (zne hF_2 (by decide) h66), (zne hF_2 (by decide) h67), hR⟩, hfm_11⟩ dX7_waits_29
  · refine lv_aload_n hx hb dX7_waits_13 rfl (lv_at hl 0 rfl) ?_
    refine lv_iload_n hx hb dX7_waits_14 rfl (lv_at hl 1 rfl) ?_
    refine zgoi hZ hA (zrunV (As := [.int d]) (rest := []) (k := 56) hC hZ (c_X7_wrongStory l D cy n ad F_1 H.size sc.1 sc.2.1 sc.2.2.2.1 sc.2.2.2.2 0 bs en u st kk dw ho sv pic ia tk hn h_3 hw (zne hF_2 (by decide) h61) d) mX7_wrongStory vX7_wrongStory kX7_142 (zRj_of rfl) (zlt hn rfl) h_3 rfl rfl hl.1 rfl (Nat.le_of_ble_eq_true rfl) dX7_waits_15 ⟨Nat.le_refl _, Nat.le_refl _⟩) (fun r_13 F_12 hp_14 H locs hZ => ?_)
    rw [mStR_eq hHW] at hp_14
    obtain ⟨rfl, rfl⟩ := hp_14
    refine zgoi hZ hA (zrunS (As := [.int (sStR sh d)]) (rest := []) hC hZ (c_X7_far l D cy n ad F_1 H.size (sStR sh d)) mX7_far sX7_far kX7_227 (zRj_of rfl) rfl hl.1 rfl (Nat.le_of_ble_eq_true rfl) dX7_waits_18 ⟨Nat.le_refl _, Nat.le_refl _⟩) (fun r_16 F_15 hp_17 H locs hZ => ?_)
    obtain ⟨rfl, rfl⟩ := hp_17
    refine lv_goto (tgt := 29) hx hb dX7_waits_21 (by decide) ?_
    have hz_18 : (sStR sh d) < 0 := Int32.not_le.mp c_10
    have hq : (((sStR sh d) - 1000000000) : Int32) = (if sStR sh d = 0 then sWait (sh (iN d)).2.1 else -1000000000 + sStR sh d) := by rw [if_neg (neg_n0 hz_18)]; exact far_m _
    have hfm_19 : frM F F_1 := (frM_up frM_rf hF_2 (by decide) (by decide))
    exact zireti hC hZ hr hlocks ⟨hq, ⟨bs, en, u, st, kk, dw, ho, sv, ia, tk, told, pl, nu, im, hw, kd, fg, so, mn, rw0, bt, h_3, (zne hF_2 (by decide) h57), (zne hF_2 (by decide) h58), (zne hF_2 (by decide) h59), (zne hF_2 (by decide) h60), (zne hF_2 (by decide) h61), (zne hF_2 (by decide) h62), (zne hF_2 (by decide) h63), (zne hF_2 (by decide) h64), (zne hF_2 (by decide) h65), (zne hF_2 (by decide) h66), (zne hF_2 (by decide) h67), hR⟩, hfm_19⟩ dX7_waits_29

theorem mX7_slant : zMd yX7_slant cX7_slant 4 (some .int) 2 := ⟨by decide +kernel, gt_of 1075 (by decide +kernel) rfl, gt_of 52 (by decide +kernel) rfl, by decide⟩
theorem dX7_slant_0 : decode cX7_slant 0 = .ok (.aload_n 0, 1) := by decide +kernel
theorem dX7_slant_1 : decode cX7_slant 1 = .ok (.iconst 0, 1) := by decide +kernel
theorem dX7_slant_2 : decode cX7_slant 2 = .ok (.putfield 57, 3) := by decide +kernel
theorem dX7_slant_5 : decode cX7_slant 5 = .ok (.iload_n 2, 1) := by decide +kernel
theorem dX7_slant_6 : decode cX7_slant 6 = .ok (.i2l, 1) := by decide +kernel
theorem dX7_slant_7 : decode cX7_slant 7 = .ok (.lconst 0, 1) := by decide +kernel
theorem dX7_slant_8 : decode cX7_slant 8 = .ok (.ldc2_w 233, 3) := by decide +kernel
theorem qX7_233 : Cond.constantLong RX7 233 100 ∈ gtbl := gt_of 1076 (by decide +kernel) rfl
theorem dX7_slant_11 : decode cX7_slant 11 = .ok (.invokestatic 63, 3) := by decide +kernel
theorem dX7_slant_14 : decode cX7_slant 14 = .ok (.ifCond .ne 7, 3) := by decide +kernel
theorem dX7_slant_21 : decode cX7_slant 21 = .ok (.aload_n 0, 1) := by decide +kernel
theorem dX7_slant_22 : decode cX7_slant 22 = .ok (.iload_n 1, 1) := by decide +kernel
theorem dX7_slant_23 : decode cX7_slant 23 = .ok (.invokevirtual 142, 3) := by decide +kernel
theorem dX7_slant_26 : decode cX7_slant 26 = .ok (.istore_n 3, 1) := by decide +kernel
theorem dX7_slant_27 : decode cX7_slant 27 = .ok (.iload_n 3, 1) := by decide +kernel
theorem dX7_slant_28 : decode cX7_slant 28 = .ok (.ifCond .ge 5, 3) := by decide +kernel
theorem dX7_slant_33 : decode cX7_slant 33 = .ok (.aload_n 0, 1) := by decide +kernel
theorem dX7_slant_34 : decode cX7_slant 34 = .ok (.iload_n 1, 1) := by decide +kernel
theorem dX7_slant_35 : decode cX7_slant 35 = .ok (.invokevirtual 145, 3) := by decide +kernel
theorem dX7_slant_38 : decode cX7_slant 38 = .ok (.aload_n 0, 1) := by decide +kernel
theorem dX7_slant_39 : decode cX7_slant 39 = .ok (.getfield 125, 3) := by decide +kernel
theorem dX7_slant_42 : decode cX7_slant 42 = .ok (.ifCond .ne 7, 3) := by decide +kernel
theorem dX7_slant_49 : decode cX7_slant 49 = .ok (.aload_n 0, 1) := by decide +kernel
theorem dX7_slant_50 : decode cX7_slant 50 = .ok (.invokevirtual 157, 3) := by decide +kernel
theorem dX7_slant_53 : decode cX7_slant 53 = .ok (.ifCond .gt 8, 3) := by decide +kernel
theorem dX7_slant_61 : decode cX7_slant 61 = .ok (.aload_n 0, 1) := by decide +kernel
theorem dX7_slant_62 : decode cX7_slant 62 = .ok (.getfield 125, 3) := by decide +kernel
theorem dX7_slant_65 : decode cX7_slant 65 = .ok (.aload_n 0, 1) := by decide +kernel
theorem dX7_slant_66 : decode cX7_slant 66 = .ok (.getfield 19, 3) := by decide +kernel
theorem dX7_slant_69 : decode cX7_slant 69 = .ok (.imul, 1) := by decide +kernel
theorem dX7_slant_70 : decode cX7_slant 70 = .ok (.bipush 100, 2) := by decide +kernel
theorem dX7_slant_72 : decode cX7_slant 72 = .ok (.iload_n 2, 1) := by decide +kernel
theorem dX7_slant_73 : decode cX7_slant 73 = .ok (.isub, 1) := by decide +kernel
theorem dX7_slant_74 : decode cX7_slant 74 = .ok (.imul, 1) := by decide +kernel
theorem dX7_slant_75 : decode cX7_slant 75 = .ok (.bipush 100, 2) := by decide +kernel
theorem dX7_slant_77 : decode cX7_slant 77 = .ok (.aload_n 0, 1) := by decide +kernel
theorem dX7_slant_78 : decode cX7_slant 78 = .ok (.invokevirtual 157, 3) := by decide +kernel
theorem dX7_slant_81 : decode cX7_slant 81 = .ok (.imul, 1) := by decide +kernel
theorem dX7_slant_82 : decode cX7_slant 82 = .ok (.idiv, 1) := by decide +kernel
theorem dX7_slant_83 : decode cX7_slant 83 = .ok (.ireturn, 1) := by decide +kernel
theorem dX7_slant_56 : decode cX7_slant 56 = .ok (.bipush (-4), 2) := by decide +kernel
theorem dX7_slant_58 : decode cX7_slant 58 = .ok (.goto 25, 3) := by decide +kernel
theorem dX7_slant_45 : decode cX7_slant 45 = .ok (.iconst 0, 1) := by decide +kernel
theorem dX7_slant_46 : decode cX7_slant 46 = .ok (.goto 37, 3) := by decide +kernel
theorem dX7_slant_31 : decode cX7_slant 31 = .ok (.iload_n 3, 1) := by decide +kernel
theorem dX7_slant_32 : decode cX7_slant 32 = .ok (.ireturn, 1) := by decide +kernel
theorem dX7_slant_17 : decode cX7_slant 17 = .ok (.iconst (-1), 1) := by decide +kernel
theorem dX7_slant_18 : decode cX7_slant 18 = .ok (.goto 8, 3) := by decide +kernel
set_option maxRecDepth 100000 in
theorem c_X7_slant (l : Launch) (D : va_G) (cy : Nat → Nat) (n : Nat) (ad : Nat → Nat) (F : Nat → va_E) (sz : Nat) (th0 pic : Int32) (sc ps : Scn) (sh : Nat → Shf) (hn : 68 ≤ n) (hX : RM ad cy F th0 pic sc ps sh) (hG : gX sc ps sh) (d q : Int32) : Met l yX7_slant (zw yX7_slant cX7_slant 4 (some .int)) (rmL 2) (zPc D cy n ad F sz [.ref (ad 56), .int d, .int q]) (va_Qi (fun r F1 => r = zr (bIn q 0 100) (sStR sh d) (sArchAt (sh (iN d)).2.1 sc.1 q) ∧ RM ad cy F1 0 pic sc ps sh ∧ frM F F1) (zB D n ad) (zA n ad sz)) 0 0 (zA n ad sz) := by
  refine zmet (by decide +kernel) (Nat.le_of_ble_eq_true rfl) (fun p e s m args below meth c ls hC hsz hZ hA hr hlocks hnm hl => ?_)
  have hC : zC p m c cX7_slant 4 s args RX7 D cy := hC
  have hx := hC.1.1
  have hb := hC.1.2.1
  have hl : lv_has ls 4 [(0, .ref (ad 56)), (1, .int d), (2, .int q)] := hl
  obtain ⟨bs, en, u, st, kk, dw, ho, sv, ia, tk, told, pl, nu, im, hw, kd, fg, so, mn, rw0, bt, hM, h57, h58, h59, h60, h61, h62, h63, h64, h65, h66, h67, hR⟩ := hX
  have hRS := hR.2.2
  have hHW := rX_hw hR
  refine lv_aload_n hx hb dX7_slant_0 rfl (lv_at hl 0 rfl) ?_
  refine lv_iconst (v := 0) hx hb dX7_slant_1 (by decide) ?_
  refine zput (E := oModel ad sc.1 sc.2.1 sc.2.2.2.1 sc.2.2.2.2 0 bs en u st kk dw ho sv pic ia tk) hC hZ pX7_57 (zlt hn rfl) hM rfl rfl rfl (Nat.le_of_ble_eq_true rfl) dX7_slant_2 (fun F_1 hF_2 H locs hZ => ?_)
  have h_3 := zeq hF_2
  refine lv_iload_n hx hb dX7_slant_5 rfl (lv_at hl 2 rfl) ?_
  refine lv_i2l (v := (q).toInt64) hx hb dX7_slant_6 (by rfl) ?_
  refine lv_lconst (v := 0) hx hb dX7_slant_7 (by decide) ?_
  refine lv_ldc2 (v := 100) hx hb hC.1.2.2.2.1 (hC.1.2.2.2.2 _ qX7_233) dX7_slant_8 ?_
  refine zgoi hZ hA (zrunS (As := [.long ((q).toInt64), .long 0, .long 100]) (rest := []) hC hZ (c_X7_in l D cy n ad F_1 H.size q 0 100 0 100 (by decide) (by decide)) mX7_in sX7_in kX7_63 (zRj_of rfl) rfl hl.1 rfl (Nat.le_of_ble_eq_true rfl) dX7_slant_11 ⟨Nat.le_refl _, Nat.le_refl _⟩) (fun r_5 F_4 hp_6 H locs hZ => ?_)
  obtain ⟨hp_6, rfl⟩ := hp_6
  by_cases b_7 : bIn q 0 100
  · rw [if_pos b_7] at hp_6
    subst hp_6
    refine lv_if_ne (tgt := 21) hx hb dX7_slant_14 (by decide) (fun _ => ?_) (fun h => absurd (show (1 : Int32) = 0 from h) (by decide))
    refine lv_aload_n hx hb dX7_slant_21 rfl (lv_at hl 0 rfl) ?_
    refine lv_iload_n hx hb dX7_slant_22 rfl (lv_at hl 1 rfl) ?_
    refine zgoi hZ hA (zrunV (As := [.int d]) (rest := []) (k := 56) hC hZ (c_X7_wrongStory l D cy n ad F_1 H.size sc.1 sc.2.1 sc.2.2.2.1 sc.2.2.2.2 0 bs en u st kk dw ho sv pic ia tk hn h_3 hw (zne hF_2 (by decide) h61) d) mX7_wrongStory vX7_wrongStory kX7_142 (zRj_of rfl) (zlt hn rfl) h_3 rfl rfl hl.1 rfl (Nat.le_of_ble_eq_true rfl) dX7_slant_23 ⟨Nat.le_refl _, Nat.le_refl _⟩) (fun r_9 F_8 hp_10 H locs hZ => ?_)
    rw [mStR_eq hHW] at hp_10
    obtain ⟨rfl, rfl⟩ := hp_10
    refine lv_istore_n (lv' := [(3, .int (sStR sh d)), (0, .ref (ad 56)), (1, .int d), (2, .int q)]) hx hb dX7_slant_26 rfl hl (by decide) rfl (fun ls hl => ?_)
    refine lv_iload_n hx hb dX7_slant_27 rfl (lv_at hl 0 rfl) ?_
    refine lv_if_ge (tgt := 33) hx hb dX7_slant_28 (by decide) (fun c_28 => ?_) (fun c_28 => ?_)
    · refine lv_aload_n hx hb dX7_slant_33 rfl (lv_at hl 1 rfl) ?_
      refine lv_iload_n hx hb dX7_slant_34 rfl (lv_at hl 2 rfl) ?_
      have hz_11 : (sStR sh d) = 0 := sStR_ge (Int32.not_lt.mpr c_28)
      have hs := sStR_0 hz_11
      have hd := hs.1
      have ht : (sh (iN d)).2.1 = (kd (iN d), fg (iN d)) := (hRS _ hd.2).2.1 hs.2
      have hgt : gT (kd (iN d), fg (iN d)) := by rw [← ht]; exact (hG.2.2 _ hd.2).1 hs.2
      refine zgov hZ hA (zrunV (As := [.int d]) (rest := []) (k := 56) hC hZ (c_X7_tellOn l D cy n ad F_1 H.size sc.1 sc.2.1 sc.2.2.2.1 sc.2.2.2.2 0 bs en u st kk dw ho sv pic ia tk hn h_3 kd (zne hF_2 (by decide) h62) fg (zne hF_2 (by decide) h63) d hd) mX7_tellOn vX7_tellOn kX7_145 (zRj_of rfl) (zlt hn rfl) h_3 rfl rfl hl.1 rfl (Nat.le_of_ble_eq_true rfl) dX7_slant_35 ⟨Nat.le_refl _, Nat.le_refl _⟩) (fun F_12 hp_14 H locs hZ => ?_)
      have h_15 := zeq hp_14
      refine lv_aload_n hx hb dX7_slant_38 rfl (lv_at hl 1 rfl) ?_
      refine zget hC hZ fX7_125 (zlt hn rfl) h_15 rfl dX7_slant_39 ?_
      refine lv_if_ne (tgt := 49) hx hb dX7_slant_42 (by decide) (fun c_42 => ?_) (fun c_42 => ?_)
      · refine lv_aload_n hx hb dX7_slant_49 rfl (lv_at hl 1 rfl) ?_
        refine zgoi hZ hA (zrunV (As := []) (rest := []) (k := 56) hC hZ (c_X7_less l D cy n ad F_12 H.size sc.1 sc.2.1 sc.2.2.2.1 sc.2.2.2.2 0 bs en u st (sKick (kd (iN d), fg (iN d)) sc.1) (sDraw (kd (iN d), fg (iN d))) (sHold (kd (iN d), fg (iN d))) sv pic ia tk hn h_15) mX7_less vX7_less kX7_157 (zRj_of rfl) (zlt hn rfl) h_15 rfl rfl hl.1 rfl (Nat.le_of_ble_eq_true rfl) dX7_slant_50 ⟨Nat.le_refl _, Nat.le_refl _⟩) (fun r_17 F_16 hp_18 H locs hZ => ?_)
        obtain ⟨rfl, rfl⟩ := hp_18
        refine lv_if_gt (tgt := 61) hx hb dX7_slant_53 (by decide) (fun c_53 => ?_) (fun c_53 => ?_)
        · refine lv_aload_n hx hb dX7_slant_61 rfl (lv_at hl 1 rfl) ?_
          refine zget hC hZ fX7_125 (zlt hn rfl) h_15 rfl dX7_slant_62 ?_
          refine lv_aload_n hx hb dX7_slant_65 rfl (lv_at hl 1 rfl) ?_
          refine zget hC hZ fX7_19 (zlt hn rfl) h_15 rfl dX7_slant_66 ?_
          refine lv_imul hx hb dX7_slant_69 ?_
          refine lv_bipush (v := 100) hx hb dX7_slant_70 (by decide) ?_
          refine lv_iload_n hx hb dX7_slant_72 rfl (lv_at hl 3 rfl) ?_
          refine lv_isub hx hb dX7_slant_73 ?_
          refine lv_imul hx hb dX7_slant_74 ?_
          refine lv_bipush (v := 100) hx hb dX7_slant_75 (by decide) ?_
          refine lv_aload_n hx hb dX7_slant_77 rfl (lv_at hl 1 rfl) ?_
          refine zgoi hZ hA (zrunV (As := []) (rest := [.int 100, .int (((sKick (kd (iN d), fg (iN d)) sc.1) * sc.1.2.2.2) * (100 - q))]) (k := 56) hC hZ (c_X7_less l D cy n ad F_12 H.size sc.1 sc.2.1 sc.2.2.2.1 sc.2.2.2.2 0 bs en u st (sKick (kd (iN d), fg (iN d)) sc.1) (sDraw (kd (iN d), fg (iN d))) (sHold (kd (iN d), fg (iN d))) sv pic ia tk hn h_15) mX7_less vX7_less kX7_157 (zRj_of rfl) (zlt hn rfl) h_15 rfl rfl hl.1 rfl (Nat.le_of_ble_eq_true rfl) dX7_slant_78 ⟨Nat.le_refl _, Nat.le_refl _⟩) (fun r_20 F_19 hp_21 H locs hZ => ?_)
          obtain ⟨rfl, rfl⟩ := hp_21
          refine lv_imul hx hb dX7_slant_81 ?_
          have hnz := less_nz hgt hG.1.1
          refine lv_idiv hx hb dX7_slant_82 hnz ?_
          have hv : (((((sKick (kd (iN d), fg (iN d)) sc.1) * sc.1.2.2.2) * (100 - q)) / (100 * (100 - (sKick (kd (iN d), fg (iN d)) sc.1) - (sDraw (kd (iN d), fg (iN d))) + (sHold (kd (iN d), fg (iN d)))))) : Int32) = sArchAt (sh (iN d)).2.1 sc.1 q := by rw [ht]; exact ((if_neg c_42).trans (if_neg (Int32.not_le.mpr c_53))).symm.trans (slantM hgt hG.1.1)
          have hq : (((((sKick (kd (iN d), fg (iN d)) sc.1) * sc.1.2.2.2) * (100 - q)) / (100 * (100 - (sKick (kd (iN d), fg (iN d)) sc.1) - (sDraw (kd (iN d), fg (iN d))) + (sHold (kd (iN d), fg (iN d)))))) : Int32) = zr (bIn q 0 100) (sStR sh d) (sArchAt (sh (iN d)).2.1 sc.1 q) := by exact hv.trans (zr_ok b_7 hz_11).symm
          have hfm_22 : frM F F_12 := (frM_up (frM_up frM_rf hF_2 (by decide) (by decide)) hp_14 (by decide) (by decide))
          exact zireti hC hZ hr hlocks ⟨hq, ⟨bs, en, u, st, (sKick (kd (iN d), fg (iN d)) sc.1), (sDraw (kd (iN d), fg (iN d))), (sHold (kd (iN d), fg (iN d))), sv, ia, tk, told, pl, nu, im, hw, kd, fg, so, mn, rw0, bt, h_15, (zne hp_14 (by decide) (zne hF_2 (by decide) h57)), (zne hp_14 (by decide) (zne hF_2 (by decide) h58)), (zne hp_14 (by decide) (zne hF_2 (by decide) h59)), (zne hp_14 (by decide) (zne hF_2 (by decide) h60)), (zne hp_14 (by decide) (zne hF_2 (by decide) h61)), (zne hp_14 (by decide) (zne hF_2 (by decide) h62)), (zne hp_14 (by decide) (zne hF_2 (by decide) h63)), (zne hp_14 (by decide) (zne hF_2 (by decide) h64)), (zne hp_14 (by decide) (zne hF_2 (by decide) h65)), (zne hp_14 (by decide) (zne hF_2 (by decide) h66)), (zne hp_14 (by decide) (zne hF_2 (by decide) h67)), hR⟩, hfm_22⟩ dX7_slant_83
        · refine lv_bipush (v := (-4)) hx hb dX7_slant_56 (by decide) ?_
          refine lv_goto (tgt := 83) hx hb dX7_slant_58 (by decide) ?_
          have hv : ((-4) : Int32) = sArchAt (sh (iN d)).2.1 sc.1 q := by rw [ht]; exact ((if_neg c_42).trans (if_pos (Int32.not_lt.mp c_53))).symm.trans (slantM hgt hG.1.1)
          have hq : ((-4) : Int32) = zr (bIn q 0 100) (sStR sh d) (sArchAt (sh (iN d)).2.1 sc.1 q) := by exact hv.trans (zr_ok b_7 hz_11).symm
          have hfm_23 : frM F F_12 := (frM_up (frM_up frM_rf hF_2 (by decide) (by decide)) hp_14 (by decide) (by decide))
          exact zireti hC hZ hr hlocks ⟨hq, ⟨bs, en, u, st, (sKick (kd (iN d), fg (iN d)) sc.1), (sDraw (kd (iN d), fg (iN d))), (sHold (kd (iN d), fg (iN d))), sv, ia, tk, told, pl, nu, im, hw, kd, fg, so, mn, rw0, bt, h_15, (zne hp_14 (by decide) (zne hF_2 (by decide) h57)), (zne hp_14 (by decide) (zne hF_2 (by decide) h58)), (zne hp_14 (by decide) (zne hF_2 (by decide) h59)), (zne hp_14 (by decide) (zne hF_2 (by decide) h60)), (zne hp_14 (by decide) (zne hF_2 (by decide) h61)), (zne hp_14 (by decide) (zne hF_2 (by decide) h62)), (zne hp_14 (by decide) (zne hF_2 (by decide) h63)), (zne hp_14 (by decide) (zne hF_2 (by decide) h64)), (zne hp_14 (by decide) (zne hF_2 (by decide) h65)), (zne hp_14 (by decide) (zne hF_2 (by decide) h66)), (zne hp_14 (by decide) (zne hF_2 (by decide) h67)), hR⟩, hfm_23⟩ dX7_slant_83
      · refine lv_iconst (v := 0) hx hb dX7_slant_45 (by decide) ?_
        refine lv_goto (tgt := 83) hx hb dX7_slant_46 (by decide) ?_
        have hv : (0 : Int32) = sArchAt (sh (iN d)).2.1 sc.1 q := by rw [ht]; exact (if_pos c_42).symm.trans (slantM hgt hG.1.1)
        have hq : (0 : Int32) = zr (bIn q 0 100) (sStR sh d) (sArchAt (sh (iN d)).2.1 sc.1 q) := by exact hv.trans (zr_ok b_7 hz_11).symm
        have hfm_24 : frM F F_12 := (frM_up (frM_up frM_rf hF_2 (by decide) (by decide)) hp_14 (by decide) (by decide))
        exact zireti hC hZ hr hlocks ⟨hq, ⟨bs, en, u, st, (sKick (kd (iN d), fg (iN d)) sc.1), (sDraw (kd (iN d), fg (iN d))), (sHold (kd (iN d), fg (iN d))), sv, ia, tk, told, pl, nu, im, hw, kd, fg, so, mn, rw0, bt, h_15, (zne hp_14 (by decide) (zne hF_2 (by decide) h57)), (zne hp_14 (by decide) (zne hF_2 (by decide) h58)), (zne hp_14 (by decide) (zne hF_2 (by decide) h59)), (zne hp_14 (by decide) (zne hF_2 (by decide) h60)), (zne hp_14 (by decide) (zne hF_2 (by decide) h61)), (zne hp_14 (by decide) (zne hF_2 (by decide) h62)), (zne hp_14 (by decide) (zne hF_2 (by decide) h63)), (zne hp_14 (by decide) (zne hF_2 (by decide) h64)), (zne hp_14 (by decide) (zne hF_2 (by decide) h65)), (zne hp_14 (by decide) (zne hF_2 (by decide) h66)), (zne hp_14 (by decide) (zne hF_2 (by decide) h67)), hR⟩, hfm_24⟩ dX7_slant_83
    · refine lv_iload_n hx hb dX7_slant_31 rfl (lv_at hl 0 rfl) ?_
      have hz_25 : (sStR sh d) < 0 := Int32.not_le.mp c_28
      have hq : ((sStR sh d) : Int32) = zr (bIn q 0 100) (sStR sh d) (sArchAt (sh (iN d)).2.1 sc.1 q) := by exact (zr_rf b_7 (neg_n0 hz_25)).symm
      have hfm_26 : frM F F_1 := (frM_up frM_rf hF_2 (by decide) (by decide))
      exact zireti hC hZ hr hlocks ⟨hq, ⟨bs, en, u, st, kk, dw, ho, sv, ia, tk, told, pl, nu, im, hw, kd, fg, so, mn, rw0, bt, h_3, (zne hF_2 (by decide) h57), (zne hF_2 (by decide) h58), (zne hF_2 (by decide) h59), (zne hF_2 (by decide) h60), (zne hF_2 (by decide) h61), (zne hF_2 (by decide) h62), (zne hF_2 (by decide) h63), (zne hF_2 (by decide) h64), (zne hF_2 (by decide) h65), (zne hF_2 (by decide) h66), (zne hF_2 (by decide) h67), hR⟩, hfm_26⟩ dX7_slant_32
  · rw [if_neg b_7] at hp_6
    subst hp_6
    refine lv_if_ne (tgt := 21) hx hb dX7_slant_14 (by decide) (fun h => absurd (show (0 : Int32) = 0 by decide) h) (fun _ => ?_)
    refine lv_iconst (v := (-1)) hx hb dX7_slant_17 (by decide) ?_
    refine lv_goto (tgt := 26) hx hb dX7_slant_18 (by decide) ?_
    refine lv_istore_n (lv' := [(3, .int (-1)), (0, .ref (ad 56)), (1, .int d), (2, .int q)]) hx hb dX7_slant_26 rfl hl (by decide) rfl (fun ls hl => ?_)
    refine lv_iload_n hx hb dX7_slant_27 rfl (lv_at hl 0 rfl) ?_
    refine lv_if_ge (tgt := 33) hx hb dX7_slant_28 (by decide) (fun h => absurd (show (0 : Int32) ≤ (-1) from h) (by decide)) (fun _ => ?_)
    refine lv_iload_n hx hb dX7_slant_31 rfl (lv_at hl 0 rfl) ?_
    have hq : ((-1) : Int32) = zr (bIn q 0 100) (sStR sh d) (sArchAt (sh (iN d)).2.1 sc.1 q) := by exact (zr_no b_7).symm
    have hfm_27 : frM F F_1 := (frM_up frM_rf hF_2 (by decide) (by decide))
    exact zireti hC hZ hr hlocks ⟨hq, ⟨bs, en, u, st, kk, dw, ho, sv, ia, tk, told, pl, nu, im, hw, kd, fg, so, mn, rw0, bt, h_3, (zne hF_2 (by decide) h57), (zne hF_2 (by decide) h58), (zne hF_2 (by decide) h59), (zne hF_2 (by decide) h60), (zne hF_2 (by decide) h61), (zne hF_2 (by decide) h62), (zne hF_2 (by decide) h63), (zne hF_2 (by decide) h64), (zne hF_2 (by decide) h65), (zne hF_2 (by decide) h66), (zne hF_2 (by decide) h67), hR⟩, hfm_27⟩ dX7_slant_32

theorem mX7_ahead : zMd yX7_ahead cX7_ahead 4 (some .int) 2 := ⟨by decide +kernel, gt_of 986 (by decide +kernel) rfl, gt_of 52 (by decide +kernel) rfl, by decide⟩
theorem dX7_ahead_0 : decode cX7_ahead 0 = .ok (.aload_n 0, 1) := by decide +kernel
theorem dX7_ahead_1 : decode cX7_ahead 1 = .ok (.iconst 0, 1) := by decide +kernel
theorem dX7_ahead_2 : decode cX7_ahead 2 = .ok (.putfield 57, 3) := by decide +kernel
theorem dX7_ahead_5 : decode cX7_ahead 5 = .ok (.iload_n 2, 1) := by decide +kernel
theorem dX7_ahead_6 : decode cX7_ahead 6 = .ok (.i2l, 1) := by decide +kernel
theorem dX7_ahead_7 : decode cX7_ahead 7 = .ok (.lconst 0, 1) := by decide +kernel
theorem dX7_ahead_8 : decode cX7_ahead 8 = .ok (.aload_n 0, 1) := by decide +kernel
theorem dX7_ahead_9 : decode cX7_ahead 9 = .ok (.getfield 120, 3) := by decide +kernel
theorem dX7_ahead_12 : decode cX7_ahead 12 = .ok (.iconst 1, 1) := by decide +kernel
theorem dX7_ahead_13 : decode cX7_ahead 13 = .ok (.isub, 1) := by decide +kernel
theorem dX7_ahead_14 : decode cX7_ahead 14 = .ok (.i2l, 1) := by decide +kernel
theorem dX7_ahead_15 : decode cX7_ahead 15 = .ok (.invokestatic 63, 3) := by decide +kernel
theorem dX7_ahead_18 : decode cX7_ahead 18 = .ok (.ifCond .ne 7, 3) := by decide +kernel
theorem dX7_ahead_25 : decode cX7_ahead 25 = .ok (.aload_n 0, 1) := by decide +kernel
theorem dX7_ahead_26 : decode cX7_ahead 26 = .ok (.iload_n 1, 1) := by decide +kernel
theorem dX7_ahead_27 : decode cX7_ahead 27 = .ok (.invokevirtual 142, 3) := by decide +kernel
theorem dX7_ahead_30 : decode cX7_ahead 30 = .ok (.istore_n 3, 1) := by decide +kernel
theorem dX7_ahead_31 : decode cX7_ahead 31 = .ok (.iload_n 3, 1) := by decide +kernel
theorem dX7_ahead_32 : decode cX7_ahead 32 = .ok (.ifCond .ge 7, 3) := by decide +kernel
theorem dX7_ahead_39 : decode cX7_ahead 39 = .ok (.aload_n 0, 1) := by decide +kernel
theorem dX7_ahead_40 : decode cX7_ahead 40 = .ok (.aload_n 0, 1) := by decide +kernel
theorem dX7_ahead_41 : decode cX7_ahead 41 = .ok (.getfield 38, 3) := by decide +kernel
theorem dX7_ahead_44 : decode cX7_ahead 44 = .ok (.iload_n 1, 1) := by decide +kernel
theorem dX7_ahead_45 : decode cX7_ahead 45 = .ok (.iaload, 1) := by decide +kernel
theorem dX7_ahead_46 : decode cX7_ahead 46 = .ok (.aload_n 0, 1) := by decide +kernel
theorem dX7_ahead_47 : decode cX7_ahead 47 = .ok (.getfield 41, 3) := by decide +kernel
theorem dX7_ahead_50 : decode cX7_ahead 50 = .ok (.iload_n 1, 1) := by decide +kernel
theorem dX7_ahead_51 : decode cX7_ahead 51 = .ok (.iaload, 1) := by decide +kernel
theorem dX7_ahead_52 : decode cX7_ahead 52 = .ok (.iload_n 2, 1) := by decide +kernel
theorem dX7_ahead_53 : decode cX7_ahead 53 = .ok (.invokevirtual 193, 3) := by decide +kernel
theorem dX7_ahead_56 : decode cX7_ahead 56 = .ok (.ireturn, 1) := by decide +kernel
theorem dX7_ahead_35 : decode cX7_ahead 35 = .ok (.iload_n 3, 1) := by decide +kernel
theorem dX7_ahead_36 : decode cX7_ahead 36 = .ok (.goto 20, 3) := by decide +kernel
theorem dX7_ahead_21 : decode cX7_ahead 21 = .ok (.iconst (-1), 1) := by decide +kernel
theorem dX7_ahead_22 : decode cX7_ahead 22 = .ok (.goto 8, 3) := by decide +kernel
set_option maxRecDepth 100000 in
theorem c_X7_ahead (l : Launch) (D : va_G) (cy : Nat → Nat) (n : Nat) (ad : Nat → Nat) (F : Nat → va_E) (sz : Nat) (th0 pic : Int32) (sc ps : Scn) (sh : Nat → Shf) (hn : 68 ≤ n) (hX : RM ad cy F th0 pic sc ps sh) (hG : gX sc ps sh) (d i : Int32) : Met l yX7_ahead (zw yX7_ahead cX7_ahead 4 (some .int)) (rmL 3) (zPc D cy n ad F sz [.ref (ad 56), .int d, .int i]) (va_Qi (fun r F1 => r = zr (bTry sc.2.2.2.1 i) (sStR sh d) (sArchAt (sh (iN d)).2.1 (sc.2.2.1 (iN i)) 0) ∧ RM ad cy F1 0 pic sc ps sh ∧ frM F F1) (zB D n ad) (zA n ad sz)) 0 0 (zA n ad sz) := by
  refine zmet (by decide +kernel) (Nat.le_of_ble_eq_true rfl) (fun p e s m args below meth c ls hC hsz hZ hA hr hlocks hnm hl => ?_)
  have hC : zC p m c cX7_ahead 4 s args RX7 D cy := hC
  have hx := hC.1.1
  have hb := hC.1.2.1
  have hl : lv_has ls 4 [(0, .ref (ad 56)), (1, .int d), (2, .int i)] := hl
  obtain ⟨bs, en, u, st, kk, dw, ho, sv, ia, tk, told, pl, nu, im, hw, kd, fg, so, mn, rw0, bt, hM, h57, h58, h59, h60, h61, h62, h63, h64, h65, h66, h67, hR⟩ := hX
  have hRS := hR.2.2
  have hHW := rX_hw hR
  refine lv_aload_n hx hb dX7_ahead_0 rfl (lv_at hl 0 rfl) ?_
  refine lv_iconst (v := 0) hx hb dX7_ahead_1 (by decide) ?_
  refine zput (E := oModel ad sc.1 sc.2.1 sc.2.2.2.1 sc.2.2.2.2 0 bs en u st kk dw ho sv pic ia tk) hC hZ pX7_57 (zlt hn rfl) hM rfl rfl rfl (Nat.le_of_ble_eq_true rfl) dX7_ahead_2 (fun F_1 hF_2 H locs hZ => ?_)
  have h_3 := zeq hF_2
  refine lv_iload_n hx hb dX7_ahead_5 rfl (lv_at hl 2 rfl) ?_
  refine lv_i2l (v := (i).toInt64) hx hb dX7_ahead_6 (by rfl) ?_
  refine lv_lconst (v := 0) hx hb dX7_ahead_7 (by decide) ?_
  refine lv_aload_n hx hb dX7_ahead_8 rfl (lv_at hl 0 rfl) ?_
  refine zget hC hZ fX7_120 (zlt hn rfl) h_3 rfl dX7_ahead_9 ?_
  refine lv_iconst (v := 1) hx hb dX7_ahead_12 (by decide) ?_
  refine lv_isub hx hb dX7_ahead_13 ?_
  refine lv_i2l (v := (sc.2.2.2.1 - 1).toInt64) hx hb dX7_ahead_14 (by rfl) ?_
  refine zgoi hZ hA (zrunS (As := [.long ((i).toInt64), .long 0, .long ((sc.2.2.2.1 - 1).toInt64)]) (rest := []) hC hZ (c_X7_in l D cy n ad F_1 H.size i 0 (sc.2.2.2.1 - 1) 0 ((sc.2.2.2.1 - 1).toInt64) (by decide) rfl) mX7_in sX7_in kX7_63 (zRj_of rfl) rfl hl.1 rfl (Nat.le_of_ble_eq_true rfl) dX7_ahead_15 ⟨Nat.le_refl _, Nat.le_refl _⟩) (fun r_5 F_4 hp_6 H locs hZ => ?_)
  obtain ⟨hp_6, rfl⟩ := hp_6
  by_cases b_7 : bIn i 0 (sc.2.2.2.1 - 1)
  · rw [if_pos b_7] at hp_6
    subst hp_6
    refine lv_if_ne (tgt := 25) hx hb dX7_ahead_18 (by decide) (fun _ => ?_) (fun h => absurd (show (1 : Int32) = 0 from h) (by decide))
    refine lv_aload_n hx hb dX7_ahead_25 rfl (lv_at hl 0 rfl) ?_
    refine lv_iload_n hx hb dX7_ahead_26 rfl (lv_at hl 1 rfl) ?_
    refine zgoi hZ hA (zrunV (As := [.int d]) (rest := []) (k := 56) hC hZ (c_X7_wrongStory l D cy n ad F_1 H.size sc.1 sc.2.1 sc.2.2.2.1 sc.2.2.2.2 0 bs en u st kk dw ho sv pic ia tk hn h_3 hw (zne hF_2 (by decide) h61) d) mX7_wrongStory vX7_wrongStory kX7_142 (zRj_of rfl) (zlt hn rfl) h_3 rfl rfl hl.1 rfl (Nat.le_of_ble_eq_true rfl) dX7_ahead_27 ⟨Nat.le_refl _, Nat.le_refl _⟩) (fun r_9 F_8 hp_10 H locs hZ => ?_)
    rw [mStR_eq hHW] at hp_10
    obtain ⟨rfl, rfl⟩ := hp_10
    refine lv_istore_n (lv' := [(3, .int (sStR sh d)), (0, .ref (ad 56)), (1, .int d), (2, .int i)]) hx hb dX7_ahead_30 rfl hl (by decide) rfl (fun ls hl => ?_)
    refine lv_iload_n hx hb dX7_ahead_31 rfl (lv_at hl 0 rfl) ?_
    refine lv_if_ge (tgt := 39) hx hb dX7_ahead_32 (by decide) (fun c_32 => ?_) (fun c_32 => ?_)
    · refine lv_aload_n hx hb dX7_ahead_39 rfl (lv_at hl 1 rfl) ?_
      refine lv_aload_n hx hb dX7_ahead_40 rfl (lv_at hl 1 rfl) ?_
      refine zget hC hZ fX7_38 (zlt hn rfl) h_3 rfl dX7_ahead_41 ?_
      refine lv_iload_n hx hb dX7_ahead_44 rfl (lv_at hl 2 rfl) ?_
      have hz_11 : (sStR sh d) = 0 := sStR_ge (Int32.not_lt.mpr c_32)
      have hs := sStR_0 hz_11
      have hd := hs.1
      have ht : (sh (iN d)).2.1 = (kd (iN d), fg (iN d)) := (hRS _ hd.2).2.1 hs.2
      have hgt : gT (kd (iN d), fg (iN d)) := by rw [← ht]; exact (hG.2.2 _ hd.2).1 hs.2
      refine ziald hC hZ (zlt hn rfl) (zne hF_2 (by decide) h62) hd.1 hd.2 (by decide) dX7_ahead_45 ?_
      refine lv_aload_n hx hb dX7_ahead_46 rfl (lv_at hl 1 rfl) ?_
      refine zget hC hZ fX7_41 (zlt hn rfl) h_3 rfl dX7_ahead_47 ?_
      refine lv_iload_n hx hb dX7_ahead_50 rfl (lv_at hl 2 rfl) ?_
      refine ziald hC hZ (zlt hn rfl) (zne hF_2 (by decide) h63) hd.1 hd.2 (by decide) dX7_ahead_51 ?_
      refine lv_iload_n hx hb dX7_ahead_52 rfl (lv_at hl 3 rfl) ?_
      have htj := bTry_m hG.1 b_7
      have hj9 := iN_at (N := 8) htj.1 htj.2.2 rfl
      refine W.eq (g2 := (F0 m 53 ls [.int (nI (iN i)), .int (fg (iN d)), .int (kd (iN d)), .ref (ad 56)])) (by rw [← hj9.1]) ?_
      have hti := bTry_m hG.1 b_7
      have hi9 := iN_at (N := 8) hti.1 hti.2.2 rfl
      refine zgoi hZ hA (zrunV (As := [.int (kd (iN d)), .int (fg (iN d)), .int (nI (iN i))]) (rest := []) (k := 56) hC hZ (c_X7_aheadOf l D cy n ad F_1 H.size sc.1 sc.2.1 sc.2.2.2.1 sc.2.2.2.2 0 bs en u st kk dw ho sv pic ia tk hn h_3 told (zne hF_2 (by decide) h57) ((kd (iN d)), (fg (iN d))) (iN i) (sc.2.2.1 (iN i)) hi9.2 (hR.1 _ (tc_lt hG.1 hti)) hgt (hG.1.2.2.2.1 _ hi9.2)) mX7_aheadOf vX7_aheadOf kX7_193 (zRj_of rfl) (zlt hn rfl) h_3 rfl rfl hl.1 rfl (Nat.le_of_ble_eq_true rfl) dX7_ahead_53 ⟨Nat.le_refl _, Nat.le_refl _⟩) (fun r_13 F_12 hp_14 H locs hZ => ?_)
      obtain ⟨rfl, hp_15⟩ := hp_14
      have h_16 := zeq hp_15
      have hv : ((sArchAt ((kd (iN d)), (fg (iN d))) (sc.2.2.1 (iN i)) 0) : Int32) = sArchAt (sh (iN d)).2.1 (sc.2.2.1 (iN i)) 0 := by rw [ht]
      have hq : ((sArchAt ((kd (iN d)), (fg (iN d))) (sc.2.2.1 (iN i)) 0) : Int32) = zr (bTry sc.2.2.2.1 i) (sStR sh d) (sArchAt (sh (iN d)).2.1 (sc.2.2.1 (iN i)) 0) := by exact hv.trans (zr_ok (bTry_m hG.1 b_7) hz_11).symm
      have hfm_17 : frM F F_12 := (frM_up (frM_up frM_rf hF_2 (by decide) (by decide)) hp_15 (by decide) (by decide))
      exact zireti hC hZ hr hlocks ⟨hq, ⟨bs, en, u, st, (sKick ((kd (iN d)), (fg (iN d))) (sc.2.2.1 (iN i))), (sDraw ((kd (iN d)), (fg (iN d)))), (sHold ((kd (iN d)), (fg (iN d)))), sv, ia, tk, told, pl, nu, im, hw, kd, fg, so, mn, rw0, bt, h_16, (zne hp_15 (by decide) (zne hF_2 (by decide) h57)), (zne hp_15 (by decide) (zne hF_2 (by decide) h58)), (zne hp_15 (by decide) (zne hF_2 (by decide) h59)), (zne hp_15 (by decide) (zne hF_2 (by decide) h60)), (zne hp_15 (by decide) (zne hF_2 (by decide) h61)), (zne hp_15 (by decide) (zne hF_2 (by decide) h62)), (zne hp_15 (by decide) (zne hF_2 (by decide) h63)), (zne hp_15 (by decide) (zne hF_2 (by decide) h64)), (zne hp_15 (by decide) (zne hF_2 (by decide) h65)), (zne hp_15 (by decide) (zne hF_2 (by decide) h66)), (zne hp_15 (by decide) (zne hF_2 (by decide) h67)), hR⟩, hfm_17⟩ dX7_ahead_56
    · refine lv_iload_n hx hb dX7_ahead_35 rfl (lv_at hl 0 rfl) ?_
      refine lv_goto (tgt := 56) hx hb dX7_ahead_36 (by decide) ?_
      have hz_18 : (sStR sh d) < 0 := Int32.not_le.mp c_32
      have hq : ((sStR sh d) : Int32) = zr (bTry sc.2.2.2.1 i) (sStR sh d) (sArchAt (sh (iN d)).2.1 (sc.2.2.1 (iN i)) 0) := by exact (zr_rf (bTry_m hG.1 b_7) (neg_n0 hz_18)).symm
      have hfm_19 : frM F F_1 := (frM_up frM_rf hF_2 (by decide) (by decide))
      exact zireti hC hZ hr hlocks ⟨hq, ⟨bs, en, u, st, kk, dw, ho, sv, ia, tk, told, pl, nu, im, hw, kd, fg, so, mn, rw0, bt, h_3, (zne hF_2 (by decide) h57), (zne hF_2 (by decide) h58), (zne hF_2 (by decide) h59), (zne hF_2 (by decide) h60), (zne hF_2 (by decide) h61), (zne hF_2 (by decide) h62), (zne hF_2 (by decide) h63), (zne hF_2 (by decide) h64), (zne hF_2 (by decide) h65), (zne hF_2 (by decide) h66), (zne hF_2 (by decide) h67), hR⟩, hfm_19⟩ dX7_ahead_56
  · rw [if_neg b_7] at hp_6
    subst hp_6
    refine lv_if_ne (tgt := 25) hx hb dX7_ahead_18 (by decide) (fun h => absurd (show (0 : Int32) = 0 by decide) h) (fun _ => ?_)
    refine lv_iconst (v := (-1)) hx hb dX7_ahead_21 (by decide) ?_
    refine lv_goto (tgt := 30) hx hb dX7_ahead_22 (by decide) ?_
    refine lv_istore_n (lv' := [(3, .int (-1)), (0, .ref (ad 56)), (1, .int d), (2, .int i)]) hx hb dX7_ahead_30 rfl hl (by decide) rfl (fun ls hl => ?_)
    refine lv_iload_n hx hb dX7_ahead_31 rfl (lv_at hl 0 rfl) ?_
    refine lv_if_ge (tgt := 39) hx hb dX7_ahead_32 (by decide) (fun h => absurd (show (0 : Int32) ≤ (-1) from h) (by decide)) (fun _ => ?_)
    refine lv_iload_n hx hb dX7_ahead_35 rfl (lv_at hl 0 rfl) ?_
    refine lv_goto (tgt := 56) hx hb dX7_ahead_36 (by decide) ?_
    have hq : ((-1) : Int32) = zr (bTry sc.2.2.2.1 i) (sStR sh d) (sArchAt (sh (iN d)).2.1 (sc.2.2.1 (iN i)) 0) := by exact (zr_no (fun h => b_7 (bTry_n hG.1 h))).symm
    have hfm_20 : frM F F_1 := (frM_up frM_rf hF_2 (by decide) (by decide))
    exact zireti hC hZ hr hlocks ⟨hq, ⟨bs, en, u, st, kk, dw, ho, sv, ia, tk, told, pl, nu, im, hw, kd, fg, so, mn, rw0, bt, h_3, (zne hF_2 (by decide) h57), (zne hF_2 (by decide) h58), (zne hF_2 (by decide) h59), (zne hF_2 (by decide) h60), (zne hF_2 (by decide) h61), (zne hF_2 (by decide) h62), (zne hF_2 (by decide) h63), (zne hF_2 (by decide) h64), (zne hF_2 (by decide) h65), (zne hF_2 (by decide) h66), (zne hF_2 (by decide) h67), hR⟩, hfm_20⟩ dX7_ahead_56

theorem mX7_rests : zMd yX7_rests cX7_rests 5 (some .int) 2 := ⟨by decide +kernel, gt_of 979 (by decide +kernel) rfl, gt_of 52 (by decide +kernel) rfl, by decide⟩
theorem dX7_rests_0 : decode cX7_rests 0 = .ok (.aload_n 0, 1) := by decide +kernel
theorem dX7_rests_1 : decode cX7_rests 1 = .ok (.iconst 0, 1) := by decide +kernel
theorem dX7_rests_2 : decode cX7_rests 2 = .ok (.putfield 57, 3) := by decide +kernel
theorem dX7_rests_5 : decode cX7_rests 5 = .ok (.iload_n 2, 1) := by decide +kernel
theorem dX7_rests_6 : decode cX7_rests 6 = .ok (.i2l, 1) := by decide +kernel
theorem dX7_rests_7 : decode cX7_rests 7 = .ok (.lconst 0, 1) := by decide +kernel
theorem dX7_rests_8 : decode cX7_rests 8 = .ok (.lconst 1, 1) := by decide +kernel
theorem dX7_rests_9 : decode cX7_rests 9 = .ok (.invokestatic 63, 3) := by decide +kernel
theorem dX7_rests_12 : decode cX7_rests 12 = .ok (.ifCond .ne 7, 3) := by decide +kernel
theorem dX7_rests_19 : decode cX7_rests 19 = .ok (.aload_n 0, 1) := by decide +kernel
theorem dX7_rests_20 : decode cX7_rests 20 = .ok (.iload_n 1, 1) := by decide +kernel
theorem dX7_rests_21 : decode cX7_rests 21 = .ok (.invokevirtual 142, 3) := by decide +kernel
theorem dX7_rests_24 : decode cX7_rests 24 = .ok (.istore_n 3, 1) := by decide +kernel
theorem dX7_rests_25 : decode cX7_rests 25 = .ok (.iload_n 3, 1) := by decide +kernel
theorem dX7_rests_26 : decode cX7_rests 26 = .ok (.ifCond .ge 5, 3) := by decide +kernel
theorem dX7_rests_31 : decode cX7_rests 31 = .ok (.aload_n 0, 1) := by decide +kernel
theorem dX7_rests_32 : decode cX7_rests 32 = .ok (.iload_n 1, 1) := by decide +kernel
theorem dX7_rests_33 : decode cX7_rests 33 = .ok (.invokevirtual 145, 3) := by decide +kernel
theorem dX7_rests_36 : decode cX7_rests 36 = .ok (.aload_n 0, 1) := by decide +kernel
theorem dX7_rests_37 : decode cX7_rests 37 = .ok (.getfield 125, 3) := by decide +kernel
theorem dX7_rests_40 : decode cX7_rests 40 = .ok (.ifCond .ne 5, 3) := by decide +kernel
theorem dX7_rests_45 : decode cX7_rests 45 = .ok (.aload_n 0, 1) := by decide +kernel
theorem dX7_rests_46 : decode cX7_rests 46 = .ok (.invokevirtual 157, 3) := by decide +kernel
theorem dX7_rests_49 : decode cX7_rests 49 = .ok (.ifCond .gt 6, 3) := by decide +kernel
theorem dX7_rests_55 : decode cX7_rests 55 = .ok (.aload_n 0, 1) := by decide +kernel
theorem dX7_rests_56 : decode cX7_rests 56 = .ok (.getfield 125, 3) := by decide +kernel
theorem dX7_rests_59 : decode cX7_rests 59 = .ok (.aload_n 0, 1) := by decide +kernel
theorem dX7_rests_60 : decode cX7_rests 60 = .ok (.invokevirtual 157, 3) := by decide +kernel
theorem dX7_rests_63 : decode cX7_rests 63 = .ok (.invokestatic 186, 3) := by decide +kernel
theorem kX7_186 : zLk RX7 186 yX7_divisor := Or.inl (gt_of 980 (by decide +kernel) rfl)
theorem sX7_divisor : Cond.static yX7_divisor ∈ gtbl := gt_of 981 (by decide +kernel) rfl
theorem dX7_rests_66 : decode cX7_rests 66 = .ok (.istore 4, 2) := by decide +kernel
theorem dX7_rests_68 : decode cX7_rests 68 = .ok (.iload_n 2, 1) := by decide +kernel
theorem dX7_rests_69 : decode cX7_rests 69 = .ok (.ifCond .ne 13, 3) := by decide +kernel
theorem dX7_rests_82 : decode cX7_rests 82 = .ok (.aload_n 0, 1) := by decide +kernel
theorem dX7_rests_83 : decode cX7_rests 83 = .ok (.invokevirtual 157, 3) := by decide +kernel
theorem dX7_rests_86 : decode cX7_rests 86 = .ok (.iload 4, 2) := by decide +kernel
theorem dX7_rests_88 : decode cX7_rests 88 = .ok (.idiv, 1) := by decide +kernel
theorem dX7_rests_89 : decode cX7_rests 89 = .ok (.ireturn, 1) := by decide +kernel
theorem dX7_rests_72 : decode cX7_rests 72 = .ok (.aload_n 0, 1) := by decide +kernel
theorem dX7_rests_73 : decode cX7_rests 73 = .ok (.getfield 125, 3) := by decide +kernel
theorem dX7_rests_76 : decode cX7_rests 76 = .ok (.iload 4, 2) := by decide +kernel
theorem dX7_rests_78 : decode cX7_rests 78 = .ok (.idiv, 1) := by decide +kernel
theorem dX7_rests_79 : decode cX7_rests 79 = .ok (.goto 10, 3) := by decide +kernel
theorem dX7_rests_52 : decode cX7_rests 52 = .ok (.bipush (-4), 2) := by decide +kernel
theorem dX7_rests_54 : decode cX7_rests 54 = .ok (.ireturn, 1) := by decide +kernel
theorem dX7_rests_43 : decode cX7_rests 43 = .ok (.iload_n 2, 1) := by decide +kernel
theorem dX7_rests_44 : decode cX7_rests 44 = .ok (.ireturn, 1) := by decide +kernel
theorem dX7_rests_29 : decode cX7_rests 29 = .ok (.iload_n 3, 1) := by decide +kernel
theorem dX7_rests_30 : decode cX7_rests 30 = .ok (.ireturn, 1) := by decide +kernel
theorem dX7_rests_15 : decode cX7_rests 15 = .ok (.iconst (-1), 1) := by decide +kernel
theorem dX7_rests_16 : decode cX7_rests 16 = .ok (.goto 8, 3) := by decide +kernel
set_option maxRecDepth 100000 in
theorem c_X7_rests (l : Launch) (D : va_G) (cy : Nat → Nat) (n : Nat) (ad : Nat → Nat) (F : Nat → va_E) (sz : Nat) (th0 pic : Int32) (sc ps : Scn) (sh : Nat → Shf) (hn : 68 ≤ n) (hX : RM ad cy F th0 pic sc ps sh) (hG : gX sc ps sh) (d part : Int32) : Met l yX7_rests (zw yX7_rests cX7_rests 5 (some .int)) (rmL 2) (zPc D cy n ad F sz [.ref (ad 56), .int d, .int part]) (va_Qi (fun r F1 => r = zr (bIn part 0 1) (sStR sh d) (sRests (sh (iN d)).2.1 sc.1 part) ∧ RM ad cy F1 0 pic sc ps sh ∧ frM F F1) (zB D n ad) (zA n ad sz)) 0 0 (zA n ad sz) := by
  refine zmet (by decide +kernel) (Nat.le_of_ble_eq_true rfl) (fun p e s m args below meth c ls hC hsz hZ hA hr hlocks hnm hl => ?_)
  have hC : zC p m c cX7_rests 5 s args RX7 D cy := hC
  have hx := hC.1.1
  have hb := hC.1.2.1
  have hl : lv_has ls 5 [(0, .ref (ad 56)), (1, .int d), (2, .int part)] := hl
  obtain ⟨bs, en, u, st, kk, dw, ho, sv, ia, tk, told, pl, nu, im, hw, kd, fg, so, mn, rw0, bt, hM, h57, h58, h59, h60, h61, h62, h63, h64, h65, h66, h67, hR⟩ := hX
  have hRS := hR.2.2
  have hHW := rX_hw hR
  refine lv_aload_n hx hb dX7_rests_0 rfl (lv_at hl 0 rfl) ?_
  refine lv_iconst (v := 0) hx hb dX7_rests_1 (by decide) ?_
  refine zput (E := oModel ad sc.1 sc.2.1 sc.2.2.2.1 sc.2.2.2.2 0 bs en u st kk dw ho sv pic ia tk) hC hZ pX7_57 (zlt hn rfl) hM rfl rfl rfl (Nat.le_of_ble_eq_true rfl) dX7_rests_2 (fun F_1 hF_2 H locs hZ => ?_)
  have h_3 := zeq hF_2
  refine lv_iload_n hx hb dX7_rests_5 rfl (lv_at hl 2 rfl) ?_
  refine lv_i2l (v := (part).toInt64) hx hb dX7_rests_6 (by rfl) ?_
  refine lv_lconst (v := 0) hx hb dX7_rests_7 (by decide) ?_
  refine lv_lconst (v := 1) hx hb dX7_rests_8 (by decide) ?_
  refine zgoi hZ hA (zrunS (As := [.long ((part).toInt64), .long 0, .long 1]) (rest := []) hC hZ (c_X7_in l D cy n ad F_1 H.size part 0 1 0 1 (by decide) (by decide)) mX7_in sX7_in kX7_63 (zRj_of rfl) rfl hl.1 rfl (Nat.le_of_ble_eq_true rfl) dX7_rests_9 ⟨Nat.le_refl _, Nat.le_refl _⟩) (fun r_5 F_4 hp_6 H locs hZ => ?_)
  obtain ⟨hp_6, rfl⟩ := hp_6
  by_cases b_7 : bIn part 0 1
  · rw [if_pos b_7] at hp_6
    subst hp_6
    refine lv_if_ne (tgt := 19) hx hb dX7_rests_12 (by decide) (fun _ => ?_) (fun h => absurd (show (1 : Int32) = 0 from h) (by decide))
    refine lv_aload_n hx hb dX7_rests_19 rfl (lv_at hl 0 rfl) ?_
    refine lv_iload_n hx hb dX7_rests_20 rfl (lv_at hl 1 rfl) ?_
    refine zgoi hZ hA (zrunV (As := [.int d]) (rest := []) (k := 56) hC hZ (c_X7_wrongStory l D cy n ad F_1 H.size sc.1 sc.2.1 sc.2.2.2.1 sc.2.2.2.2 0 bs en u st kk dw ho sv pic ia tk hn h_3 hw (zne hF_2 (by decide) h61) d) mX7_wrongStory vX7_wrongStory kX7_142 (zRj_of rfl) (zlt hn rfl) h_3 rfl rfl hl.1 rfl (Nat.le_of_ble_eq_true rfl) dX7_rests_21 ⟨Nat.le_refl _, Nat.le_refl _⟩) (fun r_9 F_8 hp_10 H locs hZ => ?_)
    rw [mStR_eq hHW] at hp_10
    obtain ⟨rfl, rfl⟩ := hp_10
    refine lv_istore_n (lv' := [(3, .int (sStR sh d)), (0, .ref (ad 56)), (1, .int d), (2, .int part)]) hx hb dX7_rests_24 rfl hl (by decide) rfl (fun ls hl => ?_)
    refine lv_iload_n hx hb dX7_rests_25 rfl (lv_at hl 0 rfl) ?_
    refine lv_if_ge (tgt := 31) hx hb dX7_rests_26 (by decide) (fun c_26 => ?_) (fun c_26 => ?_)
    · refine lv_aload_n hx hb dX7_rests_31 rfl (lv_at hl 1 rfl) ?_
      refine lv_iload_n hx hb dX7_rests_32 rfl (lv_at hl 2 rfl) ?_
      have hz_11 : (sStR sh d) = 0 := sStR_ge (Int32.not_lt.mpr c_26)
      have hs := sStR_0 hz_11
      have hd := hs.1
      have ht : (sh (iN d)).2.1 = (kd (iN d), fg (iN d)) := (hRS _ hd.2).2.1 hs.2
      have hgt : gT (kd (iN d), fg (iN d)) := by rw [← ht]; exact (hG.2.2 _ hd.2).1 hs.2
      refine zgov hZ hA (zrunV (As := [.int d]) (rest := []) (k := 56) hC hZ (c_X7_tellOn l D cy n ad F_1 H.size sc.1 sc.2.1 sc.2.2.2.1 sc.2.2.2.2 0 bs en u st kk dw ho sv pic ia tk hn h_3 kd (zne hF_2 (by decide) h62) fg (zne hF_2 (by decide) h63) d hd) mX7_tellOn vX7_tellOn kX7_145 (zRj_of rfl) (zlt hn rfl) h_3 rfl rfl hl.1 rfl (Nat.le_of_ble_eq_true rfl) dX7_rests_33 ⟨Nat.le_refl _, Nat.le_refl _⟩) (fun F_12 hp_14 H locs hZ => ?_)
      have h_15 := zeq hp_14
      refine lv_aload_n hx hb dX7_rests_36 rfl (lv_at hl 1 rfl) ?_
      refine zget hC hZ fX7_125 (zlt hn rfl) h_15 rfl dX7_rests_37 ?_
      refine lv_if_ne (tgt := 45) hx hb dX7_rests_40 (by decide) (fun c_40 => ?_) (fun c_40 => ?_)
      · refine lv_aload_n hx hb dX7_rests_45 rfl (lv_at hl 1 rfl) ?_
        refine zgoi hZ hA (zrunV (As := []) (rest := []) (k := 56) hC hZ (c_X7_less l D cy n ad F_12 H.size sc.1 sc.2.1 sc.2.2.2.1 sc.2.2.2.2 0 bs en u st (sKick (kd (iN d), fg (iN d)) sc.1) (sDraw (kd (iN d), fg (iN d))) (sHold (kd (iN d), fg (iN d))) sv pic ia tk hn h_15) mX7_less vX7_less kX7_157 (zRj_of rfl) (zlt hn rfl) h_15 rfl rfl hl.1 rfl (Nat.le_of_ble_eq_true rfl) dX7_rests_46 ⟨Nat.le_refl _, Nat.le_refl _⟩) (fun r_17 F_16 hp_18 H locs hZ => ?_)
        obtain ⟨rfl, rfl⟩ := hp_18
        refine lv_if_gt (tgt := 55) hx hb dX7_rests_49 (by decide) (fun c_49 => ?_) (fun c_49 => ?_)
        · refine lv_aload_n hx hb dX7_rests_55 rfl (lv_at hl 1 rfl) ?_
          refine zget hC hZ fX7_125 (zlt hn rfl) h_15 rfl dX7_rests_56 ?_
          refine lv_aload_n hx hb dX7_rests_59 rfl (lv_at hl 1 rfl) ?_
          refine zgoi hZ hA (zrunV (As := []) (rest := [.int (sKick (kd (iN d), fg (iN d)) sc.1)]) (k := 56) hC hZ (c_X7_less l D cy n ad F_12 H.size sc.1 sc.2.1 sc.2.2.2.1 sc.2.2.2.2 0 bs en u st (sKick (kd (iN d), fg (iN d)) sc.1) (sDraw (kd (iN d), fg (iN d))) (sHold (kd (iN d), fg (iN d))) sv pic ia tk hn h_15) mX7_less vX7_less kX7_157 (zRj_of rfl) (zlt hn rfl) h_15 rfl rfl hl.1 rfl (Nat.le_of_ble_eq_true rfl) dX7_rests_60 ⟨Nat.le_refl _, Nat.le_refl _⟩) (fun r_20 F_19 hp_21 H locs hZ => ?_)
          obtain ⟨rfl, rfl⟩ := hp_21
          have hkb := kick_n hgt hG.1.1
          have hlb := less_n hgt hG.1.1
          refine zgoi hZ hA (zrunS (As := [.int (sKick (kd (iN d), fg (iN d)) sc.1), .int (100 - (sKick (kd (iN d), fg (iN d)) sc.1) - (sDraw (kd (iN d), fg (iN d))) + (sHold (kd (iN d), fg (iN d))))]) (rest := []) hC hZ (c_X7_divisorQ l D cy n ad F_12 H.size (iN (sKick (kd (iN d), fg (iN d)) sc.1)) (iN (sLess (kd (iN d), fg (iN d)) sc.1)) (sKick (kd (iN d), fg (iN d)) sc.1) (sLess (kd (iN d), fg (iN d)) sc.1) hkb.2 hlb.2 hkb.1 hlb.1) mX7_divisor sX7_divisor kX7_186 (zRj_of rfl) rfl hl.1 rfl (Nat.le_of_ble_eq_true rfl) dX7_rests_63 ⟨Nat.le_refl _, Nat.le_refl _⟩) (fun r_23 F_22 hp_24 H locs hZ => ?_)
          obtain ⟨rfl, rfl⟩ := hp_24
          have hge := gcd_sGS hgt hG.1.1 c_40
          have hgz := gcd_nz hgt hG.1.1 c_40
          have hgp := gcd_gp hgt hG.1.1 c_40
          refine lv_istore (lv' := [(4, .int (nI (Nat.gcd (iN (sKick (kd (iN d), fg (iN d)) sc.1)) (iN (sLess (kd (iN d), fg (iN d)) sc.1))))), (3, .int (sStR sh d)), (0, .ref (ad 56)), (1, .int d), (2, .int part)]) hx hb dX7_rests_66 hl (by decide) rfl (fun ls hl => ?_)
          refine lv_iload_n hx hb dX7_rests_68 rfl (lv_at hl 4 rfl) ?_
          refine lv_if_ne (tgt := 82) hx hb dX7_rests_69 (by decide) (fun c_69 => ?_) (fun c_69 => ?_)
          · refine lv_aload_n hx hb dX7_rests_82 rfl (lv_at hl 2 rfl) ?_
            refine zgoi hZ hA (zrunV (As := []) (rest := []) (k := 56) hC hZ (c_X7_less l D cy n ad F_12 H.size sc.1 sc.2.1 sc.2.2.2.1 sc.2.2.2.2 0 bs en u st (sKick (kd (iN d), fg (iN d)) sc.1) (sDraw (kd (iN d), fg (iN d))) (sHold (kd (iN d), fg (iN d))) sv pic ia tk hn h_15) mX7_less vX7_less kX7_157 (zRj_of rfl) (zlt hn rfl) h_15 rfl rfl hl.1 rfl (Nat.le_of_ble_eq_true rfl) dX7_rests_83 ⟨Nat.le_refl _, Nat.le_refl _⟩) (fun r_26 F_25 hp_27 H locs hZ => ?_)
            obtain ⟨rfl, rfl⟩ := hp_27
            refine lv_iload hx hb dX7_rests_86 (lv_at hl 0 rfl) ?_
            refine lv_idiv hx hb dX7_rests_88 hgz ?_
            have hlp := less_pos hgt hG.1.1
            have hv : (((100 - (sKick (kd (iN d), fg (iN d)) sc.1) - (sDraw (kd (iN d), fg (iN d))) + (sHold (kd (iN d), fg (iN d)))) / (nI (Nat.gcd (iN (sKick (kd (iN d), fg (iN d)) sc.1)) (iN (sLess (kd (iN d), fg (iN d)) sc.1))))) : Int32) = sRests (sh (iN d)).2.1 sc.1 part := by rw [ht]; unfold sRests; rw [if_pos hlp, if_neg c_40, if_pos hgp, if_neg c_69, hge]; rfl
            have hq : (((100 - (sKick (kd (iN d), fg (iN d)) sc.1) - (sDraw (kd (iN d), fg (iN d))) + (sHold (kd (iN d), fg (iN d)))) / (nI (Nat.gcd (iN (sKick (kd (iN d), fg (iN d)) sc.1)) (iN (sLess (kd (iN d), fg (iN d)) sc.1))))) : Int32) = zr (bIn part 0 1) (sStR sh d) (sRests (sh (iN d)).2.1 sc.1 part) := by exact hv.trans (zr_ok b_7 hz_11).symm
            have hfm_28 : frM F F_12 := (frM_up (frM_up frM_rf hF_2 (by decide) (by decide)) hp_14 (by decide) (by decide))
            exact zireti hC hZ hr hlocks ⟨hq, ⟨bs, en, u, st, (sKick (kd (iN d), fg (iN d)) sc.1), (sDraw (kd (iN d), fg (iN d))), (sHold (kd (iN d), fg (iN d))), sv, ia, tk, told, pl, nu, im, hw, kd, fg, so, mn, rw0, bt, h_15, (zne hp_14 (by decide) (zne hF_2 (by decide) h57)), (zne hp_14 (by decide) (zne hF_2 (by decide) h58)), (zne hp_14 (by decide) (zne hF_2 (by decide) h59)), (zne hp_14 (by decide) (zne hF_2 (by decide) h60)), (zne hp_14 (by decide) (zne hF_2 (by decide) h61)), (zne hp_14 (by decide) (zne hF_2 (by decide) h62)), (zne hp_14 (by decide) (zne hF_2 (by decide) h63)), (zne hp_14 (by decide) (zne hF_2 (by decide) h64)), (zne hp_14 (by decide) (zne hF_2 (by decide) h65)), (zne hp_14 (by decide) (zne hF_2 (by decide) h66)), (zne hp_14 (by decide) (zne hF_2 (by decide) h67)), hR⟩, hfm_28⟩ dX7_rests_89
          · refine lv_aload_n hx hb dX7_rests_72 rfl (lv_at hl 2 rfl) ?_
            refine zget hC hZ fX7_125 (zlt hn rfl) h_15 rfl dX7_rests_73 ?_
            refine lv_iload hx hb dX7_rests_76 (lv_at hl 0 rfl) ?_
            refine lv_idiv hx hb dX7_rests_78 hgz ?_
            refine lv_goto (tgt := 89) hx hb dX7_rests_79 (by decide) ?_
            have hlp := less_pos hgt hG.1.1
            have hv : (((sKick (kd (iN d), fg (iN d)) sc.1) / (nI (Nat.gcd (iN (sKick (kd (iN d), fg (iN d)) sc.1)) (iN (sLess (kd (iN d), fg (iN d)) sc.1))))) : Int32) = sRests (sh (iN d)).2.1 sc.1 part := by rw [ht]; unfold sRests; rw [if_pos hlp, if_neg c_40, if_pos hgp, if_pos c_69, hge]
            have hq : (((sKick (kd (iN d), fg (iN d)) sc.1) / (nI (Nat.gcd (iN (sKick (kd (iN d), fg (iN d)) sc.1)) (iN (sLess (kd (iN d), fg (iN d)) sc.1))))) : Int32) = zr (bIn part 0 1) (sStR sh d) (sRests (sh (iN d)).2.1 sc.1 part) := by exact hv.trans (zr_ok b_7 hz_11).symm
            have hfm_29 : frM F F_12 := (frM_up (frM_up frM_rf hF_2 (by decide) (by decide)) hp_14 (by decide) (by decide))
            exact zireti hC hZ hr hlocks ⟨hq, ⟨bs, en, u, st, (sKick (kd (iN d), fg (iN d)) sc.1), (sDraw (kd (iN d), fg (iN d))), (sHold (kd (iN d), fg (iN d))), sv, ia, tk, told, pl, nu, im, hw, kd, fg, so, mn, rw0, bt, h_15, (zne hp_14 (by decide) (zne hF_2 (by decide) h57)), (zne hp_14 (by decide) (zne hF_2 (by decide) h58)), (zne hp_14 (by decide) (zne hF_2 (by decide) h59)), (zne hp_14 (by decide) (zne hF_2 (by decide) h60)), (zne hp_14 (by decide) (zne hF_2 (by decide) h61)), (zne hp_14 (by decide) (zne hF_2 (by decide) h62)), (zne hp_14 (by decide) (zne hF_2 (by decide) h63)), (zne hp_14 (by decide) (zne hF_2 (by decide) h64)), (zne hp_14 (by decide) (zne hF_2 (by decide) h65)), (zne hp_14 (by decide) (zne hF_2 (by decide) h66)), (zne hp_14 (by decide) (zne hF_2 (by decide) h67)), hR⟩, hfm_29⟩ dX7_rests_89
        · refine lv_bipush (v := (-4)) hx hb dX7_rests_52 (by decide) ?_
          have hlp := less_pos hgt hG.1.1
          have hv : ((-4) : Int32) = sRests (sh (iN d)).2.1 sc.1 part := by exact absurd hlp c_49
          have hq : ((-4) : Int32) = zr (bIn part 0 1) (sStR sh d) (sRests (sh (iN d)).2.1 sc.1 part) := by exact hv.trans (zr_ok b_7 hz_11).symm
          have hfm_30 : frM F F_12 := (frM_up (frM_up frM_rf hF_2 (by decide) (by decide)) hp_14 (by decide) (by decide))
          exact zireti hC hZ hr hlocks ⟨hq, ⟨bs, en, u, st, (sKick (kd (iN d), fg (iN d)) sc.1), (sDraw (kd (iN d), fg (iN d))), (sHold (kd (iN d), fg (iN d))), sv, ia, tk, told, pl, nu, im, hw, kd, fg, so, mn, rw0, bt, h_15, (zne hp_14 (by decide) (zne hF_2 (by decide) h57)), (zne hp_14 (by decide) (zne hF_2 (by decide) h58)), (zne hp_14 (by decide) (zne hF_2 (by decide) h59)), (zne hp_14 (by decide) (zne hF_2 (by decide) h60)), (zne hp_14 (by decide) (zne hF_2 (by decide) h61)), (zne hp_14 (by decide) (zne hF_2 (by decide) h62)), (zne hp_14 (by decide) (zne hF_2 (by decide) h63)), (zne hp_14 (by decide) (zne hF_2 (by decide) h64)), (zne hp_14 (by decide) (zne hF_2 (by decide) h65)), (zne hp_14 (by decide) (zne hF_2 (by decide) h66)), (zne hp_14 (by decide) (zne hF_2 (by decide) h67)), hR⟩, hfm_30⟩ dX7_rests_54
      · refine lv_iload_n hx hb dX7_rests_43 rfl (lv_at hl 3 rfl) ?_
        have hlp := less_pos hgt hG.1.1
        have hv : (part : Int32) = sRests (sh (iN d)).2.1 sc.1 part := by rw [ht]; unfold sRests; rw [if_pos hlp, if_pos c_40]
        have hq : (part : Int32) = zr (bIn part 0 1) (sStR sh d) (sRests (sh (iN d)).2.1 sc.1 part) := by exact hv.trans (zr_ok b_7 hz_11).symm
        have hfm_31 : frM F F_12 := (frM_up (frM_up frM_rf hF_2 (by decide) (by decide)) hp_14 (by decide) (by decide))
        exact zireti hC hZ hr hlocks ⟨hq, ⟨bs, en, u, st, (sKick (kd (iN d), fg (iN d)) sc.1), (sDraw (kd (iN d), fg (iN d))), (sHold (kd (iN d), fg (iN d))), sv, ia, tk, told, pl, nu, im, hw, kd, fg, so, mn, rw0, bt, h_15, (zne hp_14 (by decide) (zne hF_2 (by decide) h57)), (zne hp_14 (by decide) (zne hF_2 (by decide) h58)), (zne hp_14 (by decide) (zne hF_2 (by decide) h59)), (zne hp_14 (by decide) (zne hF_2 (by decide) h60)), (zne hp_14 (by decide) (zne hF_2 (by decide) h61)), (zne hp_14 (by decide) (zne hF_2 (by decide) h62)), (zne hp_14 (by decide) (zne hF_2 (by decide) h63)), (zne hp_14 (by decide) (zne hF_2 (by decide) h64)), (zne hp_14 (by decide) (zne hF_2 (by decide) h65)), (zne hp_14 (by decide) (zne hF_2 (by decide) h66)), (zne hp_14 (by decide) (zne hF_2 (by decide) h67)), hR⟩, hfm_31⟩ dX7_rests_44
    · refine lv_iload_n hx hb dX7_rests_29 rfl (lv_at hl 0 rfl) ?_
      have hz_32 : (sStR sh d) < 0 := Int32.not_le.mp c_26
      have hq : ((sStR sh d) : Int32) = zr (bIn part 0 1) (sStR sh d) (sRests (sh (iN d)).2.1 sc.1 part) := by exact (zr_rf b_7 (neg_n0 hz_32)).symm
      have hfm_33 : frM F F_1 := (frM_up frM_rf hF_2 (by decide) (by decide))
      exact zireti hC hZ hr hlocks ⟨hq, ⟨bs, en, u, st, kk, dw, ho, sv, ia, tk, told, pl, nu, im, hw, kd, fg, so, mn, rw0, bt, h_3, (zne hF_2 (by decide) h57), (zne hF_2 (by decide) h58), (zne hF_2 (by decide) h59), (zne hF_2 (by decide) h60), (zne hF_2 (by decide) h61), (zne hF_2 (by decide) h62), (zne hF_2 (by decide) h63), (zne hF_2 (by decide) h64), (zne hF_2 (by decide) h65), (zne hF_2 (by decide) h66), (zne hF_2 (by decide) h67), hR⟩, hfm_33⟩ dX7_rests_30
  · rw [if_neg b_7] at hp_6
    subst hp_6
    refine lv_if_ne (tgt := 19) hx hb dX7_rests_12 (by decide) (fun h => absurd (show (0 : Int32) = 0 by decide) h) (fun _ => ?_)
    refine lv_iconst (v := (-1)) hx hb dX7_rests_15 (by decide) ?_
    refine lv_goto (tgt := 24) hx hb dX7_rests_16 (by decide) ?_
    refine lv_istore_n (lv' := [(3, .int (-1)), (0, .ref (ad 56)), (1, .int d), (2, .int part)]) hx hb dX7_rests_24 rfl hl (by decide) rfl (fun ls hl => ?_)
    refine lv_iload_n hx hb dX7_rests_25 rfl (lv_at hl 0 rfl) ?_
    refine lv_if_ge (tgt := 31) hx hb dX7_rests_26 (by decide) (fun h => absurd (show (0 : Int32) ≤ (-1) from h) (by decide)) (fun _ => ?_)
    refine lv_iload_n hx hb dX7_rests_29 rfl (lv_at hl 0 rfl) ?_
    have hq : ((-1) : Int32) = zr (bIn part 0 1) (sStR sh d) (sRests (sh (iN d)).2.1 sc.1 part) := by exact (zr_no b_7).symm
    have hfm_34 : frM F F_1 := (frM_up frM_rf hF_2 (by decide) (by decide))
    exact zireti hC hZ hr hlocks ⟨hq, ⟨bs, en, u, st, kk, dw, ho, sv, ia, tk, told, pl, nu, im, hw, kd, fg, so, mn, rw0, bt, h_3, (zne hF_2 (by decide) h57), (zne hF_2 (by decide) h58), (zne hF_2 (by decide) h59), (zne hF_2 (by decide) h60), (zne hF_2 (by decide) h61), (zne hF_2 (by decide) h62), (zne hF_2 (by decide) h63), (zne hF_2 (by decide) h64), (zne hF_2 (by decide) h65), (zne hF_2 (by decide) h66), (zne hF_2 (by decide) h67), hR⟩, hfm_34⟩ dX7_rests_30
