theorem mX7_less : zMd yX7_less cX7_less 1 (some .int) 0 := ⟨by decide +kernel, gt_of 963 (by decide +kernel) rfl, gt_of 52 (by decide +kernel) rfl, by decide⟩
theorem dX7_less_0 : decode cX7_less 0 = .ok (.bipush 100, 2) := by decide +kernel
theorem dX7_less_2 : decode cX7_less 2 = .ok (.aload_n 0, 1) := by decide +kernel
theorem dX7_less_3 : decode cX7_less 3 = .ok (.getfield 125, 3) := by decide +kernel
theorem fX7_125 : zFld RX7 125 7 20 := ⟨RX7, TX7, 39, rfl, inX7, by decide, rfl, Or.inl (gt_of 778 (by decide +kernel) rfl)⟩
theorem dX7_less_6 : decode cX7_less 6 = .ok (.isub, 1) := by decide +kernel
theorem dX7_less_7 : decode cX7_less 7 = .ok (.aload_n 0, 1) := by decide +kernel
theorem dX7_less_8 : decode cX7_less 8 = .ok (.getfield 128, 3) := by decide +kernel
theorem fX7_128 : zFld RX7 128 7 21 := ⟨RX7, TX7, 39, rfl, inX7, by decide, rfl, Or.inl (gt_of 779 (by decide +kernel) rfl)⟩
theorem dX7_less_11 : decode cX7_less 11 = .ok (.isub, 1) := by decide +kernel
theorem dX7_less_12 : decode cX7_less 12 = .ok (.aload_n 0, 1) := by decide +kernel
theorem dX7_less_13 : decode cX7_less 13 = .ok (.getfield 131, 3) := by decide +kernel
theorem fX7_131 : zFld RX7 131 7 22 := ⟨RX7, TX7, 39, rfl, inX7, by decide, rfl, Or.inl (gt_of 780 (by decide +kernel) rfl)⟩
theorem dX7_less_16 : decode cX7_less 16 = .ok (.iadd, 1) := by decide +kernel
theorem dX7_less_17 : decode cX7_less 17 = .ok (.ireturn, 1) := by decide +kernel
set_option maxRecDepth 100000 in
theorem c_X7_less (l : Launch) (D : va_G) (cy : Nat → Nat) (n : Nat) (ad : Nat → Nat) (F : Nat → va_E) (sz : Nat) (b : Stg) (ln tc : Int32) (co : Crs) (th bs en : Int32) (u : Int32 × Int32) (st kk dw ho : Int32) (sv : Crs) (pic ia tk : Int32) (hn : 68 ≤ n) (hM : F 56 = oModel ad b ln tc co th bs en u st kk dw ho sv pic ia tk) : Met l yX7_less (zw yX7_less cX7_less 1 (some .int)) (rmL 0) (zPc D cy n ad F sz [.ref (ad 56)]) (va_Qi (fun r F1 => r = 100 - kk - dw + ho ∧ F = F1) (zB D n ad) (zA n ad sz)) 0 0 (zA n ad sz) := by
  refine zmet (by decide +kernel) (Nat.le_of_ble_eq_true rfl) (fun p e s m args below meth c ls hC hsz hZ hA hr hlocks hnm hl => ?_)
  have hC : zC p m c cX7_less 1 s args RX7 D cy := hC
  have hx := hC.1.1
  have hb := hC.1.2.1
  have hl : lv_has ls 1 [(0, .ref (ad 56))] := hl
  refine lv_bipush (v := 100) hx hb dX7_less_0 (by decide) ?_
  refine lv_aload_n hx hb dX7_less_2 rfl (lv_at hl 0 rfl) ?_
  refine zget hC hZ fX7_125 (zlt hn rfl) hM rfl dX7_less_3 ?_
  refine lv_isub hx hb dX7_less_6 ?_
  refine lv_aload_n hx hb dX7_less_7 rfl (lv_at hl 0 rfl) ?_
  refine zget hC hZ fX7_128 (zlt hn rfl) hM rfl dX7_less_8 ?_
  refine lv_isub hx hb dX7_less_11 ?_
  refine lv_aload_n hx hb dX7_less_12 rfl (lv_at hl 0 rfl) ?_
  refine zget hC hZ fX7_131 (zlt hn rfl) hM rfl dX7_less_13 ?_
  refine lv_iadd hx hb dX7_less_16 ?_
  have hq_1 : (((100 - kk) - dw) + ho) = (100 - kk - dw + ho) := by rfl
  exact zireti hC hZ hr hlocks ⟨hq_1, rfl⟩ dX7_less_17

theorem mX7_tell : zMd yX7_tell cX7_tell 7 none 5 := ⟨by decide +kernel, gt_of 950 (by decide +kernel) rfl, gt_of 52 (by decide +kernel) rfl, by decide⟩
theorem dX7_tell_0 : decode cX7_tell 0 = .ok (.iload_n 2, 1) := by decide +kernel
theorem dX7_tell_1 : decode cX7_tell 1 = .ok (.iload_n 3, 1) := by decide +kernel
theorem dX7_tell_2 : decode cX7_tell 2 = .ok (.imul, 1) := by decide +kernel
theorem dX7_tell_3 : decode cX7_tell 3 = .ok (.bipush 100, 2) := by decide +kernel
theorem dX7_tell_5 : decode cX7_tell 5 = .ok (.idiv, 1) := by decide +kernel
theorem dX7_tell_6 : decode cX7_tell 6 = .ok (.istore 6, 2) := by decide +kernel
theorem dX7_tell_8 : decode cX7_tell 8 = .ok (.aload_n 0, 1) := by decide +kernel
theorem dX7_tell_9 : decode cX7_tell 9 = .ok (.iconst 0, 1) := by decide +kernel
theorem dX7_tell_10 : decode cX7_tell 10 = .ok (.putfield 125, 3) := by decide +kernel
theorem pX7_125 : zFldP RX7 125 7 20 false .int := ⟨RX7, TX7, 39, tyX7, rfl, inX7, by decide, rfl, Or.inl (gt_of 778 (by decide +kernel) rfl), tyX7_ok, nmX7, rfl, by decide +kernel, fun h => by cases h⟩
theorem dX7_tell_13 : decode cX7_tell 13 = .ok (.iload_n 1, 1) := by decide +kernel
theorem dX7_tell_14 : decode cX7_tell 14 = .ok (.iconst 1, 1) := by decide +kernel
theorem dX7_tell_15 : decode cX7_tell 15 = .ok (.if_icmp .eq 8, 3) := by decide +kernel
theorem dX7_tell_23 : decode cX7_tell 23 = .ok (.aload_n 0, 1) := by decide +kernel
theorem dX7_tell_24 : decode cX7_tell 24 = .ok (.iload 6, 2) := by decide +kernel
theorem dX7_tell_26 : decode cX7_tell 26 = .ok (.putfield 125, 3) := by decide +kernel
theorem dX7_tell_29 : decode cX7_tell 29 = .ok (.iload_n 1, 1) := by decide +kernel
theorem dX7_tell_30 : decode cX7_tell 30 = .ok (.iconst 2, 1) := by decide +kernel
theorem dX7_tell_31 : decode cX7_tell 31 = .ok (.if_icmp .ne 18, 3) := by decide +kernel
theorem dX7_tell_49 : decode cX7_tell 49 = .ok (.iload_n 1, 1) := by decide +kernel
theorem dX7_tell_50 : decode cX7_tell 50 = .ok (.iconst 3, 1) := by decide +kernel
theorem dX7_tell_51 : decode cX7_tell 51 = .ok (.if_icmp .ne 29, 3) := by decide +kernel
theorem dX7_tell_80 : decode cX7_tell 80 = .ok (.iload_n 1, 1) := by decide +kernel
theorem dX7_tell_81 : decode cX7_tell 81 = .ok (.bipush 6, 2) := by decide +kernel
theorem dX7_tell_83 : decode cX7_tell 83 = .ok (.if_icmp .ne 11, 3) := by decide +kernel
theorem dX7_tell_94 : decode cX7_tell 94 = .ok (.aload_n 0, 1) := by decide +kernel
theorem dX7_tell_95 : decode cX7_tell 95 = .ok (.iload_n 1, 1) := by decide +kernel
theorem dX7_tell_96 : decode cX7_tell 96 = .ok (.iconst 4, 1) := by decide +kernel
theorem dX7_tell_97 : decode cX7_tell 97 = .ok (.if_icmp .ne 7, 3) := by decide +kernel
theorem dX7_tell_104 : decode cX7_tell 104 = .ok (.iconst 0, 1) := by decide +kernel
theorem dX7_tell_105 : decode cX7_tell 105 = .ok (.putfield 128, 3) := by decide +kernel
theorem pX7_128 : zFldP RX7 128 7 21 false .int := ⟨RX7, TX7, 39, tyX7, rfl, inX7, by decide, rfl, Or.inl (gt_of 779 (by decide +kernel) rfl), tyX7_ok, nmX7, rfl, by decide +kernel, fun h => by cases h⟩
theorem dX7_tell_108 : decode cX7_tell 108 = .ok (.aload_n 0, 1) := by decide +kernel
theorem dX7_tell_109 : decode cX7_tell 109 = .ok (.iload_n 1, 1) := by decide +kernel
theorem dX7_tell_110 : decode cX7_tell 110 = .ok (.iconst 5, 1) := by decide +kernel
theorem dX7_tell_111 : decode cX7_tell 111 = .ok (.if_icmp .ne 7, 3) := by decide +kernel
theorem dX7_tell_118 : decode cX7_tell 118 = .ok (.iload_n 1, 1) := by decide +kernel
theorem dX7_tell_119 : decode cX7_tell 119 = .ok (.bipush 6, 2) := by decide +kernel
theorem dX7_tell_121 : decode cX7_tell 121 = .ok (.if_icmp .ne 9, 3) := by decide +kernel
theorem dX7_tell_130 : decode cX7_tell 130 = .ok (.iconst 0, 1) := by decide +kernel
theorem dX7_tell_131 : decode cX7_tell 131 = .ok (.putfield 131, 3) := by decide +kernel
theorem pX7_131 : zFldP RX7 131 7 22 false .int := ⟨RX7, TX7, 39, tyX7, rfl, inX7, by decide, rfl, Or.inl (gt_of 780 (by decide +kernel) rfl), tyX7_ok, nmX7, rfl, by decide +kernel, fun h => by cases h⟩
theorem dX7_tell_134 : decode cX7_tell 134 = .ok (.return_, 1) := by decide +kernel
theorem dX7_tell_18 : decode cX7_tell 18 = .ok (.iload_n 1, 1) := by decide +kernel
theorem dX7_tell_19 : decode cX7_tell 19 = .ok (.iconst 4, 1) := by decide +kernel
theorem dX7_tell_20 : decode cX7_tell 20 = .ok (.if_icmp .ne 9, 3) := by decide +kernel
theorem dX7_tell_114 : decode cX7_tell 114 = .ok (.iload_n 2, 1) := by decide +kernel
theorem dX7_tell_115 : decode cX7_tell 115 = .ok (.goto 16, 3) := by decide +kernel
theorem dX7_tell_86 : decode cX7_tell 86 = .ok (.aload_n 0, 1) := by decide +kernel
theorem dX7_tell_87 : decode cX7_tell 87 = .ok (.iload 6, 2) := by decide +kernel
theorem dX7_tell_89 : decode cX7_tell 89 = .ok (.iconst 2, 1) := by decide +kernel
theorem dX7_tell_90 : decode cX7_tell 90 = .ok (.idiv, 1) := by decide +kernel
theorem dX7_tell_91 : decode cX7_tell 91 = .ok (.putfield 125, 3) := by decide +kernel
theorem dX7_tell_124 : decode cX7_tell 124 = .ok (.iload_n 2, 1) := by decide +kernel
theorem dX7_tell_125 : decode cX7_tell 125 = .ok (.iconst 4, 1) := by decide +kernel
theorem dX7_tell_126 : decode cX7_tell 126 = .ok (.idiv, 1) := by decide +kernel
theorem dX7_tell_127 : decode cX7_tell 127 = .ok (.goto 4, 3) := by decide +kernel
theorem dX7_tell_54 : decode cX7_tell 54 = .ok (.aload_n 0, 1) := by decide +kernel
theorem dX7_tell_55 : decode cX7_tell 55 = .ok (.iload 5, 2) := by decide +kernel
theorem dX7_tell_57 : decode cX7_tell 57 = .ok (.ifCond .ne 9, 3) := by decide +kernel
theorem dX7_tell_66 : decode cX7_tell 66 = .ok (.iload 5, 2) := by decide +kernel
theorem dX7_tell_68 : decode cX7_tell 68 = .ok (.iconst 1, 1) := by decide +kernel
theorem dX7_tell_69 : decode cX7_tell 69 = .ok (.if_icmp .ne 7, 3) := by decide +kernel
theorem dX7_tell_76 : decode cX7_tell 76 = .ok (.iconst 0, 1) := by decide +kernel
theorem dX7_tell_77 : decode cX7_tell 77 = .ok (.putfield 125, 3) := by decide +kernel
theorem dX7_tell_72 : decode cX7_tell 72 = .ok (.iload_n 2, 1) := by decide +kernel
theorem dX7_tell_73 : decode cX7_tell 73 = .ok (.goto 4, 3) := by decide +kernel
theorem dX7_tell_60 : decode cX7_tell 60 = .ok (.iload_n 2, 1) := by decide +kernel
theorem dX7_tell_61 : decode cX7_tell 61 = .ok (.iconst 2, 1) := by decide +kernel
theorem dX7_tell_62 : decode cX7_tell 62 = .ok (.idiv, 1) := by decide +kernel
theorem dX7_tell_63 : decode cX7_tell 63 = .ok (.goto 14, 3) := by decide +kernel
theorem dX7_tell_34 : decode cX7_tell 34 = .ok (.aload_n 0, 1) := by decide +kernel
theorem dX7_tell_35 : decode cX7_tell 35 = .ok (.iload 6, 2) := by decide +kernel
theorem dX7_tell_37 : decode cX7_tell 37 = .ok (.bipush 100, 2) := by decide +kernel
theorem dX7_tell_39 : decode cX7_tell 39 = .ok (.iload 4, 2) := by decide +kernel
theorem dX7_tell_41 : decode cX7_tell 41 = .ok (.isub, 1) := by decide +kernel
theorem dX7_tell_42 : decode cX7_tell 42 = .ok (.imul, 1) := by decide +kernel
theorem dX7_tell_43 : decode cX7_tell 43 = .ok (.bipush 100, 2) := by decide +kernel
theorem dX7_tell_45 : decode cX7_tell 45 = .ok (.idiv, 1) := by decide +kernel
theorem dX7_tell_46 : decode cX7_tell 46 = .ok (.putfield 125, 3) := by decide +kernel
theorem dX7_tell_100 : decode cX7_tell 100 = .ok (.iload_n 2, 1) := by decide +kernel
theorem dX7_tell_101 : decode cX7_tell 101 = .ok (.goto 4, 3) := by decide +kernel
set_option maxRecDepth 100000 in
theorem c_X7_tell (l : Launch) (D : va_G) (cy : Nat → Nat) (n : Nat) (ad : Nat → Nat) (F : Nat → va_E) (sz : Nat) (b : Stg) (ln tc : Int32) (co : Crs) (th bs en : Int32) (u : Int32 × Int32) (st kk dw ho : Int32) (sv : Crs) (pic ia tk : Int32) (hn : 68 ≤ n) (hM : F 56 = oModel ad b ln tc co th bs en u st kk dw ho sv pic ia tk) (t : Tal) (s0 : Stg) : Met l yX7_tell (zw yX7_tell cX7_tell 7 none) (rmL 0) (zPc D cy n ad F sz [.ref (ad 56), .int t.1, .int t.2, .int s0.1, .int s0.2.1, .int s0.2.2.1]) (va_Qv (fun F1 => F1 = va_up F 56 (oModel ad b ln tc co th bs en u st (sKick t s0) (sDraw t) (sHold t) sv pic ia tk)) (zB D n ad) (zA n ad sz)) 0 0 (zA n ad sz) := by
  refine zmet (by decide +kernel) (Nat.le_of_ble_eq_true rfl) (fun p e s m args below meth c ls hC hsz hZ hA hr hlocks hnm hl => ?_)
  have hC : zC p m c cX7_tell 7 s args RX7 D cy := hC
  have hx := hC.1.1
  have hb := hC.1.2.1
  have hl : lv_has ls 7 [(0, .ref (ad 56)), (1, .int t.1), (2, .int t.2), (3, .int s0.1), (4, .int s0.2.1), (5, .int s0.2.2.1)] := hl
  refine lv_iload_n hx hb dX7_tell_0 rfl (lv_at hl 2 rfl) ?_
  refine lv_iload_n hx hb dX7_tell_1 rfl (lv_at hl 3 rfl) ?_
  refine lv_imul hx hb dX7_tell_2 ?_
  refine lv_bipush (v := 100) hx hb dX7_tell_3 (by decide) ?_
  refine lv_idiv hx hb dX7_tell_5 (by decide) ?_
  refine lv_istore (lv' := [(6, .int ((t.2 * s0.1) / 100)), (0, .ref (ad 56)), (1, .int t.1), (2, .int t.2), (3, .int s0.1), (4, .int s0.2.1), (5, .int s0.2.2.1)]) hx hb dX7_tell_6 hl (by decide) rfl (fun ls hl => ?_)
  refine lv_aload_n hx hb dX7_tell_8 rfl (lv_at hl 1 rfl) ?_
  refine lv_iconst (v := 0) hx hb dX7_tell_9 (by decide) ?_
  refine zput (E := oModel ad b ln tc co th bs en u st 0 dw ho sv pic ia tk) hC hZ pX7_125 (zlt hn rfl) hM rfl rfl rfl (Nat.le_of_ble_eq_true rfl) dX7_tell_10 (fun F_1 hF_2 H locs hZ => ?_)
  have h_3 := zeq hF_2
  refine lv_iload_n hx hb dX7_tell_13 rfl (lv_at hl 2 rfl) ?_
  refine lv_iconst (v := 1) hx hb dX7_tell_14 (by decide) ?_
  refine lv_icmp_eq (tgt := 23) hx hb dX7_tell_15 (by decide) (fun c_15 => ?_) (fun c_15 => ?_)
  · refine lv_aload_n hx hb dX7_tell_23 rfl (lv_at hl 1 rfl) ?_
    refine lv_iload hx hb dX7_tell_24 (lv_at hl 0 rfl) ?_
    refine zput (E := oModel ad b ln tc co th bs en u st ((t.2 * s0.1) / 100) dw ho sv pic ia tk) hC hZ pX7_125 (zlt hn rfl) h_3 rfl rfl rfl (Nat.le_of_ble_eq_true rfl) dX7_tell_26 (fun F_4 hF_5 H locs hZ => ?_)
    have h_6 := zeq hF_5
    refine lv_iload_n hx hb dX7_tell_29 rfl (lv_at hl 2 rfl) ?_
    refine lv_iconst (v := 2) hx hb dX7_tell_30 (by decide) ?_
    refine lv_icmp_ne (tgt := 49) hx hb dX7_tell_31 (by decide) (fun _ => ?_) (fun h => absurd h (by rw [c_15]; decide))
    refine lv_iload_n hx hb dX7_tell_49 rfl (lv_at hl 2 rfl) ?_
    refine lv_iconst (v := 3) hx hb dX7_tell_50 (by decide) ?_
    refine lv_icmp_ne (tgt := 80) hx hb dX7_tell_51 (by decide) (fun _ => ?_) (fun h => absurd h (by rw [c_15]; decide))
    refine lv_iload_n hx hb dX7_tell_80 rfl (lv_at hl 2 rfl) ?_
    refine lv_bipush (v := 6) hx hb dX7_tell_81 (by decide) ?_
    refine lv_icmp_ne (tgt := 94) hx hb dX7_tell_83 (by decide) (fun _ => ?_) (fun h => absurd h (by rw [c_15]; decide))
    refine lv_aload_n hx hb dX7_tell_94 rfl (lv_at hl 1 rfl) ?_
    refine lv_iload_n hx hb dX7_tell_95 rfl (lv_at hl 2 rfl) ?_
    refine lv_iconst (v := 4) hx hb dX7_tell_96 (by decide) ?_
    refine lv_icmp_ne (tgt := 104) hx hb dX7_tell_97 (by decide) (fun _ => ?_) (fun h => absurd h (by rw [c_15]; decide))
    refine lv_iconst (v := 0) hx hb dX7_tell_104 (by decide) ?_
    refine zput (E := oModel ad b ln tc co th bs en u st ((t.2 * s0.1) / 100) 0 ho sv pic ia tk) hC hZ pX7_128 (zlt hn rfl) h_6 rfl rfl rfl (Nat.le_of_ble_eq_true rfl) dX7_tell_105 (fun F_7 hF_8 H locs hZ => ?_)
    have h_9 := zeq hF_8
    refine lv_aload_n hx hb dX7_tell_108 rfl (lv_at hl 1 rfl) ?_
    refine lv_iload_n hx hb dX7_tell_109 rfl (lv_at hl 2 rfl) ?_
    refine lv_iconst (v := 5) hx hb dX7_tell_110 (by decide) ?_
    refine lv_icmp_ne (tgt := 118) hx hb dX7_tell_111 (by decide) (fun _ => ?_) (fun h => absurd h (by rw [c_15]; decide))
    refine lv_iload_n hx hb dX7_tell_118 rfl (lv_at hl 2 rfl) ?_
    refine lv_bipush (v := 6) hx hb dX7_tell_119 (by decide) ?_
    refine lv_icmp_ne (tgt := 130) hx hb dX7_tell_121 (by decide) (fun _ => ?_) (fun h => absurd h (by rw [c_15]; decide))
    refine lv_iconst (v := 0) hx hb dX7_tell_130 (by decide) ?_
    refine zput (E := oModel ad b ln tc co th bs en u st ((t.2 * s0.1) / 100) 0 0 sv pic ia tk) hC hZ pX7_131 (zlt hn rfl) h_9 rfl rfl rfl (Nat.le_of_ble_eq_true rfl) dX7_tell_131 (fun F_10 hF_11 H locs hZ => ?_)
    have h_12 := zeq hF_11
    have ha : ((t.2 * s0.1) / 100) = sKick t s0 := by simp [sKick, sKK, sKT, c_15]
    have hb9 : (0 : Int32) = sDraw t := by simp [sDraw, c_15]
    have hc9 : (0 : Int32) = sHold t := by simp [sHold, c_15]
    have hq : F_10 = va_up F 56 (oModel ad b ln tc co th bs en u st (sKick t s0) (sDraw t) (sHold t) sv pic ia tk) := by
      rw [← ha, ← hb9, ← hc9, hF_11, hF_8, hF_5, hF_2]; simp only [bx_uu]
    exact zvret hC hZ hr hlocks hq dX7_tell_134
  · refine lv_iload_n hx hb dX7_tell_18 rfl (lv_at hl 2 rfl) ?_
    refine lv_iconst (v := 4) hx hb dX7_tell_19 (by decide) ?_
    refine lv_icmp_ne (tgt := 29) hx hb dX7_tell_20 (by decide) (fun c_20 => ?_) (fun c_20 => ?_)
    · refine lv_iload_n hx hb dX7_tell_29 rfl (lv_at hl 2 rfl) ?_
      refine lv_iconst (v := 2) hx hb dX7_tell_30 (by decide) ?_
      refine lv_icmp_ne (tgt := 49) hx hb dX7_tell_31 (by decide) (fun c_31 => ?_) (fun c_31 => ?_)
      · refine lv_iload_n hx hb dX7_tell_49 rfl (lv_at hl 2 rfl) ?_
        refine lv_iconst (v := 3) hx hb dX7_tell_50 (by decide) ?_
        refine lv_icmp_ne (tgt := 80) hx hb dX7_tell_51 (by decide) (fun c_51 => ?_) (fun c_51 => ?_)
        · refine lv_iload_n hx hb dX7_tell_80 rfl (lv_at hl 2 rfl) ?_
          refine lv_bipush (v := 6) hx hb dX7_tell_81 (by decide) ?_
          refine lv_icmp_ne (tgt := 94) hx hb dX7_tell_83 (by decide) (fun c_83 => ?_) (fun c_83 => ?_)
          · refine lv_aload_n hx hb dX7_tell_94 rfl (lv_at hl 1 rfl) ?_
            refine lv_iload_n hx hb dX7_tell_95 rfl (lv_at hl 2 rfl) ?_
            refine lv_iconst (v := 4) hx hb dX7_tell_96 (by decide) ?_
            refine lv_icmp_ne (tgt := 104) hx hb dX7_tell_97 (by decide) (fun _ => ?_) (fun h => absurd h c_20)
            refine lv_iconst (v := 0) hx hb dX7_tell_104 (by decide) ?_
            refine zput (E := oModel ad b ln tc co th bs en u st 0 0 ho sv pic ia tk) hC hZ pX7_128 (zlt hn rfl) h_3 rfl rfl rfl (Nat.le_of_ble_eq_true rfl) dX7_tell_105 (fun F_13 hF_14 H locs hZ => ?_)
            have h_15 := zeq hF_14
            refine lv_aload_n hx hb dX7_tell_108 rfl (lv_at hl 1 rfl) ?_
            refine lv_iload_n hx hb dX7_tell_109 rfl (lv_at hl 2 rfl) ?_
            refine lv_iconst (v := 5) hx hb dX7_tell_110 (by decide) ?_
            refine lv_icmp_ne (tgt := 118) hx hb dX7_tell_111 (by decide) (fun c_111 => ?_) (fun c_111 => ?_)
            · refine lv_iload_n hx hb dX7_tell_118 rfl (lv_at hl 2 rfl) ?_
              refine lv_bipush (v := 6) hx hb dX7_tell_119 (by decide) ?_
              refine lv_icmp_ne (tgt := 130) hx hb dX7_tell_121 (by decide) (fun _ => ?_) (fun h => absurd h c_83)
              refine lv_iconst (v := 0) hx hb dX7_tell_130 (by decide) ?_
              refine zput (E := oModel ad b ln tc co th bs en u st 0 0 0 sv pic ia tk) hC hZ pX7_131 (zlt hn rfl) h_15 rfl rfl rfl (Nat.le_of_ble_eq_true rfl) dX7_tell_131 (fun F_16 hF_17 H locs hZ => ?_)
              have h_18 := zeq hF_17
              have ha : (0 : Int32) = sKick t s0 := by simp [sKick, sKK, sKT, c_15, c_20, c_31, c_51, c_83, c_111]
              have hb9 : (0 : Int32) = sDraw t := by simp [sDraw, c_15, c_20, c_31, c_51, c_83, c_111]
              have hc9 : (0 : Int32) = sHold t := by simp [sHold, c_15, c_20, c_31, c_51, c_83, c_111]
              have hq : F_16 = va_up F 56 (oModel ad b ln tc co th bs en u st (sKick t s0) (sDraw t) (sHold t) sv pic ia tk) := by
                rw [← ha, ← hb9, ← hc9, hF_17, hF_14, hF_2]; simp only [bx_uu]
              exact zvret hC hZ hr hlocks hq dX7_tell_134
            · refine lv_iload_n hx hb dX7_tell_114 rfl (lv_at hl 3 rfl) ?_
              refine lv_goto (tgt := 131) hx hb dX7_tell_115 (by decide) ?_
              refine zput (E := oModel ad b ln tc co th bs en u st 0 0 t.2 sv pic ia tk) hC hZ pX7_131 (zlt hn rfl) h_15 rfl rfl rfl (Nat.le_of_ble_eq_true rfl) dX7_tell_131 (fun F_19 hF_20 H locs hZ => ?_)
              have h_21 := zeq hF_20
              have ha : (0 : Int32) = sKick t s0 := by simp [sKick, sKK, sKT, c_15, c_20, c_31, c_51, c_83, c_111]
              have hb9 : (0 : Int32) = sDraw t := by simp [sDraw, c_15, c_20, c_31, c_51, c_83, c_111]
              have hc9 : t.2 = sHold t := by simp [sHold, c_15, c_20, c_31, c_51, c_83, c_111]
              have hq : F_19 = va_up F 56 (oModel ad b ln tc co th bs en u st (sKick t s0) (sDraw t) (sHold t) sv pic ia tk) := by
                rw [← ha, ← hb9, ← hc9, hF_20, hF_14, hF_2]; simp only [bx_uu]
              exact zvret hC hZ hr hlocks hq dX7_tell_134
          · refine lv_aload_n hx hb dX7_tell_86 rfl (lv_at hl 1 rfl) ?_
            refine lv_iload hx hb dX7_tell_87 (lv_at hl 0 rfl) ?_
            refine lv_iconst (v := 2) hx hb dX7_tell_89 (by decide) ?_
            refine lv_idiv hx hb dX7_tell_90 (by decide) ?_
            refine zput (E := oModel ad b ln tc co th bs en u st (((t.2 * s0.1) / 100) / 2) dw ho sv pic ia tk) hC hZ pX7_125 (zlt hn rfl) h_3 rfl rfl rfl (Nat.le_of_ble_eq_true rfl) dX7_tell_91 (fun F_22 hF_23 H locs hZ => ?_)
            have h_24 := zeq hF_23
            refine lv_aload_n hx hb dX7_tell_94 rfl (lv_at hl 1 rfl) ?_
            refine lv_iload_n hx hb dX7_tell_95 rfl (lv_at hl 2 rfl) ?_
            refine lv_iconst (v := 4) hx hb dX7_tell_96 (by decide) ?_
            refine lv_icmp_ne (tgt := 104) hx hb dX7_tell_97 (by decide) (fun _ => ?_) (fun h => absurd h (by rw [c_83]; decide))
            refine lv_iconst (v := 0) hx hb dX7_tell_104 (by decide) ?_
            refine zput (E := oModel ad b ln tc co th bs en u st (((t.2 * s0.1) / 100) / 2) 0 ho sv pic ia tk) hC hZ pX7_128 (zlt hn rfl) h_24 rfl rfl rfl (Nat.le_of_ble_eq_true rfl) dX7_tell_105 (fun F_25 hF_26 H locs hZ => ?_)
            have h_27 := zeq hF_26
            refine lv_aload_n hx hb dX7_tell_108 rfl (lv_at hl 1 rfl) ?_
            refine lv_iload_n hx hb dX7_tell_109 rfl (lv_at hl 2 rfl) ?_
            refine lv_iconst (v := 5) hx hb dX7_tell_110 (by decide) ?_
            refine lv_icmp_ne (tgt := 118) hx hb dX7_tell_111 (by decide) (fun _ => ?_) (fun h => absurd h (by rw [c_83]; decide))
            refine lv_iload_n hx hb dX7_tell_118 rfl (lv_at hl 2 rfl) ?_
            refine lv_bipush (v := 6) hx hb dX7_tell_119 (by decide) ?_
            refine lv_icmp_ne (tgt := 130) hx hb dX7_tell_121 (by decide) (fun h => absurd c_83 h) (fun _ => ?_)
            refine lv_iload_n hx hb dX7_tell_124 rfl (lv_at hl 3 rfl) ?_
            refine lv_iconst (v := 4) hx hb dX7_tell_125 (by decide) ?_
            refine lv_idiv hx hb dX7_tell_126 (by decide) ?_
            refine lv_goto (tgt := 131) hx hb dX7_tell_127 (by decide) ?_
            refine zput (E := oModel ad b ln tc co th bs en u st (((t.2 * s0.1) / 100) / 2) 0 (t.2 / 4) sv pic ia tk) hC hZ pX7_131 (zlt hn rfl) h_27 rfl rfl rfl (Nat.le_of_ble_eq_true rfl) dX7_tell_131 (fun F_28 hF_29 H locs hZ => ?_)
            have h_30 := zeq hF_29
            have ha : (((t.2 * s0.1) / 100) / 2) = sKick t s0 := by simp [sKick, sKK, sKT, c_15, c_20, c_31, c_51, c_83]
            have hb9 : (0 : Int32) = sDraw t := by simp [sDraw, c_15, c_20, c_31, c_51, c_83]
            have hc9 : (t.2 / 4) = sHold t := by simp [sHold, c_15, c_20, c_31, c_51, c_83]
            have hq : F_28 = va_up F 56 (oModel ad b ln tc co th bs en u st (sKick t s0) (sDraw t) (sHold t) sv pic ia tk) := by
              rw [← ha, ← hb9, ← hc9, hF_29, hF_26, hF_23, hF_2]; simp only [bx_uu]
            exact zvret hC hZ hr hlocks hq dX7_tell_134
        · refine lv_aload_n hx hb dX7_tell_54 rfl (lv_at hl 1 rfl) ?_
          refine lv_iload hx hb dX7_tell_55 (lv_at hl 6 rfl) ?_
          refine lv_if_ne (tgt := 66) hx hb dX7_tell_57 (by decide) (fun c_57 => ?_) (fun c_57 => ?_)
          · refine lv_iload hx hb dX7_tell_66 (lv_at hl 6 rfl) ?_
            refine lv_iconst (v := 1) hx hb dX7_tell_68 (by decide) ?_
            refine lv_icmp_ne (tgt := 76) hx hb dX7_tell_69 (by decide) (fun c_69 => ?_) (fun c_69 => ?_)
            · refine lv_iconst (v := 0) hx hb dX7_tell_76 (by decide) ?_
              refine zput (E := oModel ad b ln tc co th bs en u st 0 dw ho sv pic ia tk) hC hZ pX7_125 (zlt hn rfl) h_3 rfl rfl rfl (Nat.le_of_ble_eq_true rfl) dX7_tell_77 (fun F_31 hF_32 H locs hZ => ?_)
              have h_33 := zeq hF_32
              refine lv_iload_n hx hb dX7_tell_80 rfl (lv_at hl 2 rfl) ?_
              refine lv_bipush (v := 6) hx hb dX7_tell_81 (by decide) ?_
              refine lv_icmp_ne (tgt := 94) hx hb dX7_tell_83 (by decide) (fun _ => ?_) (fun h => absurd h (by rw [c_51]; decide))
              refine lv_aload_n hx hb dX7_tell_94 rfl (lv_at hl 1 rfl) ?_
              refine lv_iload_n hx hb dX7_tell_95 rfl (lv_at hl 2 rfl) ?_
              refine lv_iconst (v := 4) hx hb dX7_tell_96 (by decide) ?_
              refine lv_icmp_ne (tgt := 104) hx hb dX7_tell_97 (by decide) (fun _ => ?_) (fun h => absurd h (by rw [c_51]; decide))
              refine lv_iconst (v := 0) hx hb dX7_tell_104 (by decide) ?_
              refine zput (E := oModel ad b ln tc co th bs en u st 0 0 ho sv pic ia tk) hC hZ pX7_128 (zlt hn rfl) h_33 rfl rfl rfl (Nat.le_of_ble_eq_true rfl) dX7_tell_105 (fun F_34 hF_35 H locs hZ => ?_)
              have h_36 := zeq hF_35
              refine lv_aload_n hx hb dX7_tell_108 rfl (lv_at hl 1 rfl) ?_
              refine lv_iload_n hx hb dX7_tell_109 rfl (lv_at hl 2 rfl) ?_
              refine lv_iconst (v := 5) hx hb dX7_tell_110 (by decide) ?_
              refine lv_icmp_ne (tgt := 118) hx hb dX7_tell_111 (by decide) (fun _ => ?_) (fun h => absurd h (by rw [c_51]; decide))
              refine lv_iload_n hx hb dX7_tell_118 rfl (lv_at hl 2 rfl) ?_
              refine lv_bipush (v := 6) hx hb dX7_tell_119 (by decide) ?_
              refine lv_icmp_ne (tgt := 130) hx hb dX7_tell_121 (by decide) (fun _ => ?_) (fun h => absurd h (by rw [c_51]; decide))
              refine lv_iconst (v := 0) hx hb dX7_tell_130 (by decide) ?_
              refine zput (E := oModel ad b ln tc co th bs en u st 0 0 0 sv pic ia tk) hC hZ pX7_131 (zlt hn rfl) h_36 rfl rfl rfl (Nat.le_of_ble_eq_true rfl) dX7_tell_131 (fun F_37 hF_38 H locs hZ => ?_)
              have h_39 := zeq hF_38
              have ha : (0 : Int32) = sKick t s0 := by simp [sKick, sKK, sKT, c_15, c_20, c_31, c_51, c_57, c_69]
              have hb9 : (0 : Int32) = sDraw t := by simp [sDraw, c_15, c_20, c_31, c_51, c_57, c_69]
              have hc9 : (0 : Int32) = sHold t := by simp [sHold, c_15, c_20, c_31, c_51, c_57, c_69]
              have hq : F_37 = va_up F 56 (oModel ad b ln tc co th bs en u st (sKick t s0) (sDraw t) (sHold t) sv pic ia tk) := by
                rw [← ha, ← hb9, ← hc9, hF_38, hF_35, hF_32, hF_2]; simp only [bx_uu]
              exact zvret hC hZ hr hlocks hq dX7_tell_134
            · refine lv_iload_n hx hb dX7_tell_72 rfl (lv_at hl 3 rfl) ?_
              refine lv_goto (tgt := 77) hx hb dX7_tell_73 (by decide) ?_
              refine zput (E := oModel ad b ln tc co th bs en u st t.2 dw ho sv pic ia tk) hC hZ pX7_125 (zlt hn rfl) h_3 rfl rfl rfl (Nat.le_of_ble_eq_true rfl) dX7_tell_77 (fun F_40 hF_41 H locs hZ => ?_)
              have h_42 := zeq hF_41
              refine lv_iload_n hx hb dX7_tell_80 rfl (lv_at hl 2 rfl) ?_
              refine lv_bipush (v := 6) hx hb dX7_tell_81 (by decide) ?_
              refine lv_icmp_ne (tgt := 94) hx hb dX7_tell_83 (by decide) (fun _ => ?_) (fun h => absurd h (by rw [c_51]; decide))
              refine lv_aload_n hx hb dX7_tell_94 rfl (lv_at hl 1 rfl) ?_
              refine lv_iload_n hx hb dX7_tell_95 rfl (lv_at hl 2 rfl) ?_
              refine lv_iconst (v := 4) hx hb dX7_tell_96 (by decide) ?_
              refine lv_icmp_ne (tgt := 104) hx hb dX7_tell_97 (by decide) (fun _ => ?_) (fun h => absurd h (by rw [c_51]; decide))
              refine lv_iconst (v := 0) hx hb dX7_tell_104 (by decide) ?_
              refine zput (E := oModel ad b ln tc co th bs en u st t.2 0 ho sv pic ia tk) hC hZ pX7_128 (zlt hn rfl) h_42 rfl rfl rfl (Nat.le_of_ble_eq_true rfl) dX7_tell_105 (fun F_43 hF_44 H locs hZ => ?_)
              have h_45 := zeq hF_44
              refine lv_aload_n hx hb dX7_tell_108 rfl (lv_at hl 1 rfl) ?_
              refine lv_iload_n hx hb dX7_tell_109 rfl (lv_at hl 2 rfl) ?_
              refine lv_iconst (v := 5) hx hb dX7_tell_110 (by decide) ?_
              refine lv_icmp_ne (tgt := 118) hx hb dX7_tell_111 (by decide) (fun _ => ?_) (fun h => absurd h (by rw [c_51]; decide))
              refine lv_iload_n hx hb dX7_tell_118 rfl (lv_at hl 2 rfl) ?_
              refine lv_bipush (v := 6) hx hb dX7_tell_119 (by decide) ?_
              refine lv_icmp_ne (tgt := 130) hx hb dX7_tell_121 (by decide) (fun _ => ?_) (fun h => absurd h (by rw [c_51]; decide))
              refine lv_iconst (v := 0) hx hb dX7_tell_130 (by decide) ?_
              refine zput (E := oModel ad b ln tc co th bs en u st t.2 0 0 sv pic ia tk) hC hZ pX7_131 (zlt hn rfl) h_45 rfl rfl rfl (Nat.le_of_ble_eq_true rfl) dX7_tell_131 (fun F_46 hF_47 H locs hZ => ?_)
              have h_48 := zeq hF_47
              have ha : t.2 = sKick t s0 := by simp [sKick, sKK, sKT, c_15, c_20, c_31, c_51, c_57, c_69]
              have hb9 : (0 : Int32) = sDraw t := by simp [sDraw, c_15, c_20, c_31, c_51, c_57, c_69]
              have hc9 : (0 : Int32) = sHold t := by simp [sHold, c_15, c_20, c_31, c_51, c_57, c_69]
              have hq : F_46 = va_up F 56 (oModel ad b ln tc co th bs en u st (sKick t s0) (sDraw t) (sHold t) sv pic ia tk) := by
                rw [← ha, ← hb9, ← hc9, hF_47, hF_44, hF_41, hF_2]; simp only [bx_uu]
              exact zvret hC hZ hr hlocks hq dX7_tell_134
          · refine lv_iload_n hx hb dX7_tell_60 rfl (lv_at hl 3 rfl) ?_
            refine lv_iconst (v := 2) hx hb dX7_tell_61 (by decide) ?_
            refine lv_idiv hx hb dX7_tell_62 (by decide) ?_
            refine lv_goto (tgt := 77) hx hb dX7_tell_63 (by decide) ?_
            refine zput (E := oModel ad b ln tc co th bs en u st (t.2 / 2) dw ho sv pic ia tk) hC hZ pX7_125 (zlt hn rfl) h_3 rfl rfl rfl (Nat.le_of_ble_eq_true rfl) dX7_tell_77 (fun F_49 hF_50 H locs hZ => ?_)
            have h_51 := zeq hF_50
            refine lv_iload_n hx hb dX7_tell_80 rfl (lv_at hl 2 rfl) ?_
            refine lv_bipush (v := 6) hx hb dX7_tell_81 (by decide) ?_
            refine lv_icmp_ne (tgt := 94) hx hb dX7_tell_83 (by decide) (fun _ => ?_) (fun h => absurd h (by rw [c_51]; decide))
            refine lv_aload_n hx hb dX7_tell_94 rfl (lv_at hl 1 rfl) ?_
            refine lv_iload_n hx hb dX7_tell_95 rfl (lv_at hl 2 rfl) ?_
            refine lv_iconst (v := 4) hx hb dX7_tell_96 (by decide) ?_
            refine lv_icmp_ne (tgt := 104) hx hb dX7_tell_97 (by decide) (fun _ => ?_) (fun h => absurd h (by rw [c_51]; decide))
            refine lv_iconst (v := 0) hx hb dX7_tell_104 (by decide) ?_
            refine zput (E := oModel ad b ln tc co th bs en u st (t.2 / 2) 0 ho sv pic ia tk) hC hZ pX7_128 (zlt hn rfl) h_51 rfl rfl rfl (Nat.le_of_ble_eq_true rfl) dX7_tell_105 (fun F_52 hF_53 H locs hZ => ?_)
            have h_54 := zeq hF_53
            refine lv_aload_n hx hb dX7_tell_108 rfl (lv_at hl 1 rfl) ?_
            refine lv_iload_n hx hb dX7_tell_109 rfl (lv_at hl 2 rfl) ?_
            refine lv_iconst (v := 5) hx hb dX7_tell_110 (by decide) ?_
            refine lv_icmp_ne (tgt := 118) hx hb dX7_tell_111 (by decide) (fun _ => ?_) (fun h => absurd h (by rw [c_51]; decide))
            refine lv_iload_n hx hb dX7_tell_118 rfl (lv_at hl 2 rfl) ?_
            refine lv_bipush (v := 6) hx hb dX7_tell_119 (by decide) ?_
            refine lv_icmp_ne (tgt := 130) hx hb dX7_tell_121 (by decide) (fun _ => ?_) (fun h => absurd h (by rw [c_51]; decide))
            refine lv_iconst (v := 0) hx hb dX7_tell_130 (by decide) ?_
            refine zput (E := oModel ad b ln tc co th bs en u st (t.2 / 2) 0 0 sv pic ia tk) hC hZ pX7_131 (zlt hn rfl) h_54 rfl rfl rfl (Nat.le_of_ble_eq_true rfl) dX7_tell_131 (fun F_55 hF_56 H locs hZ => ?_)
            have h_57 := zeq hF_56
            have ha : (t.2 / 2) = sKick t s0 := by simp [sKick, sKK, sKT, c_15, c_20, c_31, c_51, c_57]
            have hb9 : (0 : Int32) = sDraw t := by simp [sDraw, c_15, c_20, c_31, c_51, c_57]
            have hc9 : (0 : Int32) = sHold t := by simp [sHold, c_15, c_20, c_31, c_51, c_57]
            have hq : F_55 = va_up F 56 (oModel ad b ln tc co th bs en u st (sKick t s0) (sDraw t) (sHold t) sv pic ia tk) := by
              rw [← ha, ← hb9, ← hc9, hF_56, hF_53, hF_50, hF_2]; simp only [bx_uu]
            exact zvret hC hZ hr hlocks hq dX7_tell_134
      · refine lv_aload_n hx hb dX7_tell_34 rfl (lv_at hl 1 rfl) ?_
        refine lv_iload hx hb dX7_tell_35 (lv_at hl 0 rfl) ?_
        refine lv_bipush (v := 100) hx hb dX7_tell_37 (by decide) ?_
        refine lv_iload hx hb dX7_tell_39 (lv_at hl 5 rfl) ?_
        refine lv_isub hx hb dX7_tell_41 ?_
        refine lv_imul hx hb dX7_tell_42 ?_
        refine lv_bipush (v := 100) hx hb dX7_tell_43 (by decide) ?_
        refine lv_idiv hx hb dX7_tell_45 (by decide) ?_
        refine zput (E := oModel ad b ln tc co th bs en u st ((((t.2 * s0.1) / 100) * (100 - s0.2.1)) / 100) dw ho sv pic ia tk) hC hZ pX7_125 (zlt hn rfl) h_3 rfl rfl rfl (Nat.le_of_ble_eq_true rfl) dX7_tell_46 (fun F_58 hF_59 H locs hZ => ?_)
        have h_60 := zeq hF_59
        refine lv_iload_n hx hb dX7_tell_49 rfl (lv_at hl 2 rfl) ?_
        refine lv_iconst (v := 3) hx hb dX7_tell_50 (by decide) ?_
        refine lv_icmp_ne (tgt := 80) hx hb dX7_tell_51 (by decide) (fun _ => ?_) (fun h => absurd h (by rw [c_31]; decide))
        refine lv_iload_n hx hb dX7_tell_80 rfl (lv_at hl 2 rfl) ?_
        refine lv_bipush (v := 6) hx hb dX7_tell_81 (by decide) ?_
        refine lv_icmp_ne (tgt := 94) hx hb dX7_tell_83 (by decide) (fun _ => ?_) (fun h => absurd h (by rw [c_31]; decide))
        refine lv_aload_n hx hb dX7_tell_94 rfl (lv_at hl 1 rfl) ?_
        refine lv_iload_n hx hb dX7_tell_95 rfl (lv_at hl 2 rfl) ?_
        refine lv_iconst (v := 4) hx hb dX7_tell_96 (by decide) ?_
        refine lv_icmp_ne (tgt := 104) hx hb dX7_tell_97 (by decide) (fun _ => ?_) (fun h => absurd h (by rw [c_31]; decide))
        refine lv_iconst (v := 0) hx hb dX7_tell_104 (by decide) ?_
        refine zput (E := oModel ad b ln tc co th bs en u st ((((t.2 * s0.1) / 100) * (100 - s0.2.1)) / 100) 0 ho sv pic ia tk) hC hZ pX7_128 (zlt hn rfl) h_60 rfl rfl rfl (Nat.le_of_ble_eq_true rfl) dX7_tell_105 (fun F_61 hF_62 H locs hZ => ?_)
        have h_63 := zeq hF_62
        refine lv_aload_n hx hb dX7_tell_108 rfl (lv_at hl 1 rfl) ?_
        refine lv_iload_n hx hb dX7_tell_109 rfl (lv_at hl 2 rfl) ?_
        refine lv_iconst (v := 5) hx hb dX7_tell_110 (by decide) ?_
        refine lv_icmp_ne (tgt := 118) hx hb dX7_tell_111 (by decide) (fun _ => ?_) (fun h => absurd h (by rw [c_31]; decide))
        refine lv_iload_n hx hb dX7_tell_118 rfl (lv_at hl 2 rfl) ?_
        refine lv_bipush (v := 6) hx hb dX7_tell_119 (by decide) ?_
        refine lv_icmp_ne (tgt := 130) hx hb dX7_tell_121 (by decide) (fun _ => ?_) (fun h => absurd h (by rw [c_31]; decide))
        refine lv_iconst (v := 0) hx hb dX7_tell_130 (by decide) ?_
        refine zput (E := oModel ad b ln tc co th bs en u st ((((t.2 * s0.1) / 100) * (100 - s0.2.1)) / 100) 0 0 sv pic ia tk) hC hZ pX7_131 (zlt hn rfl) h_63 rfl rfl rfl (Nat.le_of_ble_eq_true rfl) dX7_tell_131 (fun F_64 hF_65 H locs hZ => ?_)
        have h_66 := zeq hF_65
        have ha : ((((t.2 * s0.1) / 100) * (100 - s0.2.1)) / 100) = sKick t s0 := by simp [sKick, sKK, sKT, c_15, c_20, c_31]
        have hb9 : (0 : Int32) = sDraw t := by simp [sDraw, c_15, c_20, c_31]
        have hc9 : (0 : Int32) = sHold t := by simp [sHold, c_15, c_20, c_31]
        have hq : F_64 = va_up F 56 (oModel ad b ln tc co th bs en u st (sKick t s0) (sDraw t) (sHold t) sv pic ia tk) := by
          rw [← ha, ← hb9, ← hc9, hF_65, hF_62, hF_59, hF_2]; simp only [bx_uu]
        exact zvret hC hZ hr hlocks hq dX7_tell_134
    · refine lv_aload_n hx hb dX7_tell_23 rfl (lv_at hl 1 rfl) ?_
      refine lv_iload hx hb dX7_tell_24 (lv_at hl 0 rfl) ?_
      refine zput (E := oModel ad b ln tc co th bs en u st ((t.2 * s0.1) / 100) dw ho sv pic ia tk) hC hZ pX7_125 (zlt hn rfl) h_3 rfl rfl rfl (Nat.le_of_ble_eq_true rfl) dX7_tell_26 (fun F_67 hF_68 H locs hZ => ?_)
      have h_69 := zeq hF_68
      refine lv_iload_n hx hb dX7_tell_29 rfl (lv_at hl 2 rfl) ?_
      refine lv_iconst (v := 2) hx hb dX7_tell_30 (by decide) ?_
      refine lv_icmp_ne (tgt := 49) hx hb dX7_tell_31 (by decide) (fun _ => ?_) (fun h => absurd h (by rw [c_20]; decide))
      refine lv_iload_n hx hb dX7_tell_49 rfl (lv_at hl 2 rfl) ?_
      refine lv_iconst (v := 3) hx hb dX7_tell_50 (by decide) ?_
      refine lv_icmp_ne (tgt := 80) hx hb dX7_tell_51 (by decide) (fun _ => ?_) (fun h => absurd h (by rw [c_20]; decide))
      refine lv_iload_n hx hb dX7_tell_80 rfl (lv_at hl 2 rfl) ?_
      refine lv_bipush (v := 6) hx hb dX7_tell_81 (by decide) ?_
      refine lv_icmp_ne (tgt := 94) hx hb dX7_tell_83 (by decide) (fun _ => ?_) (fun h => absurd h (by rw [c_20]; decide))
      refine lv_aload_n hx hb dX7_tell_94 rfl (lv_at hl 1 rfl) ?_
      refine lv_iload_n hx hb dX7_tell_95 rfl (lv_at hl 2 rfl) ?_
      refine lv_iconst (v := 4) hx hb dX7_tell_96 (by decide) ?_
      refine lv_icmp_ne (tgt := 104) hx hb dX7_tell_97 (by decide) (fun h => absurd c_20 h) (fun _ => ?_)
      refine lv_iload_n hx hb dX7_tell_100 rfl (lv_at hl 3 rfl) ?_
      refine lv_goto (tgt := 105) hx hb dX7_tell_101 (by decide) ?_
      refine zput (E := oModel ad b ln tc co th bs en u st ((t.2 * s0.1) / 100) t.2 ho sv pic ia tk) hC hZ pX7_128 (zlt hn rfl) h_69 rfl rfl rfl (Nat.le_of_ble_eq_true rfl) dX7_tell_105 (fun F_70 hF_71 H locs hZ => ?_)
      have h_72 := zeq hF_71
      refine lv_aload_n hx hb dX7_tell_108 rfl (lv_at hl 1 rfl) ?_
      refine lv_iload_n hx hb dX7_tell_109 rfl (lv_at hl 2 rfl) ?_
      refine lv_iconst (v := 5) hx hb dX7_tell_110 (by decide) ?_
      refine lv_icmp_ne (tgt := 118) hx hb dX7_tell_111 (by decide) (fun _ => ?_) (fun h => absurd h (by rw [c_20]; decide))
      refine lv_iload_n hx hb dX7_tell_118 rfl (lv_at hl 2 rfl) ?_
      refine lv_bipush (v := 6) hx hb dX7_tell_119 (by decide) ?_
      refine lv_icmp_ne (tgt := 130) hx hb dX7_tell_121 (by decide) (fun _ => ?_) (fun h => absurd h (by rw [c_20]; decide))
      refine lv_iconst (v := 0) hx hb dX7_tell_130 (by decide) ?_
      refine zput (E := oModel ad b ln tc co th bs en u st ((t.2 * s0.1) / 100) t.2 0 sv pic ia tk) hC hZ pX7_131 (zlt hn rfl) h_72 rfl rfl rfl (Nat.le_of_ble_eq_true rfl) dX7_tell_131 (fun F_73 hF_74 H locs hZ => ?_)
      have h_75 := zeq hF_74
      have ha : ((t.2 * s0.1) / 100) = sKick t s0 := by simp [sKick, sKK, sKT, c_15, c_20]
      have hb9 : t.2 = sDraw t := by simp [sDraw, c_15, c_20]
      have hc9 : (0 : Int32) = sHold t := by simp [sHold, c_15, c_20]
      have hq : F_73 = va_up F 56 (oModel ad b ln tc co th bs en u st (sKick t s0) (sDraw t) (sHold t) sv pic ia tk) := by
        rw [← ha, ← hb9, ← hc9, hF_74, hF_71, hF_68, hF_2]; simp only [bx_uu]
      exact zvret hC hZ hr hlocks hq dX7_tell_134

theorem mX7_tellOn : zMd yX7_tellOn cX7_tellOn 2 none 1 := ⟨by decide +kernel, gt_of 946 (by decide +kernel) rfl, gt_of 52 (by decide +kernel) rfl, by decide⟩
theorem dX7_tellOn_0 : decode cX7_tellOn 0 = .ok (.aload_n 0, 1) := by decide +kernel
theorem dX7_tellOn_1 : decode cX7_tellOn 1 = .ok (.aload_n 0, 1) := by decide +kernel
theorem dX7_tellOn_2 : decode cX7_tellOn 2 = .ok (.getfield 38, 3) := by decide +kernel
theorem fX7_38 : zFld RX7 38 7 33 := ⟨RX7, TX7, 39, rfl, inX7, by decide, rfl, Or.inl (gt_of 791 (by decide +kernel) rfl)⟩
theorem dX7_tellOn_5 : decode cX7_tellOn 5 = .ok (.iload_n 1, 1) := by decide +kernel
theorem dX7_tellOn_6 : decode cX7_tellOn 6 = .ok (.iaload, 1) := by decide +kernel
theorem dX7_tellOn_7 : decode cX7_tellOn 7 = .ok (.aload_n 0, 1) := by decide +kernel
theorem dX7_tellOn_8 : decode cX7_tellOn 8 = .ok (.getfield 41, 3) := by decide +kernel
theorem fX7_41 : zFld RX7 41 7 34 := ⟨RX7, TX7, 39, rfl, inX7, by decide, rfl, Or.inl (gt_of 792 (by decide +kernel) rfl)⟩
theorem dX7_tellOn_11 : decode cX7_tellOn 11 = .ok (.iload_n 1, 1) := by decide +kernel
theorem dX7_tellOn_12 : decode cX7_tellOn 12 = .ok (.iaload, 1) := by decide +kernel
theorem dX7_tellOn_13 : decode cX7_tellOn 13 = .ok (.aload_n 0, 1) := by decide +kernel
theorem dX7_tellOn_14 : decode cX7_tellOn 14 = .ok (.getfield 7, 3) := by decide +kernel
theorem fX7_7 : zFld RX7 7 7 0 := ⟨RX7, TX7, 39, rfl, inX7, by decide, rfl, Or.inl (gt_of 758 (by decide +kernel) rfl)⟩
theorem dX7_tellOn_17 : decode cX7_tellOn 17 = .ok (.aload_n 0, 1) := by decide +kernel
theorem dX7_tellOn_18 : decode cX7_tellOn 18 = .ok (.getfield 13, 3) := by decide +kernel
theorem fX7_13 : zFld RX7 13 7 1 := ⟨RX7, TX7, 39, rfl, inX7, by decide, rfl, Or.inl (gt_of 759 (by decide +kernel) rfl)⟩
theorem dX7_tellOn_21 : decode cX7_tellOn 21 = .ok (.aload_n 0, 1) := by decide +kernel
theorem dX7_tellOn_22 : decode cX7_tellOn 22 = .ok (.getfield 70, 3) := by decide +kernel
theorem fX7_70 : zFld RX7 70 7 2 := ⟨RX7, TX7, 39, rfl, inX7, by decide, rfl, Or.inl (gt_of 760 (by decide +kernel) rfl)⟩
theorem dX7_tellOn_25 : decode cX7_tellOn 25 = .ok (.invokevirtual 134, 3) := by decide +kernel
theorem kX7_134 : zLk RX7 134 yX7_tell := Or.inl (gt_of 947 (by decide +kernel) rfl)
theorem vX7_tell : zMi yX7_tell := ⟨gt_of 949 (by decide +kernel) rfl, gt_of 28 (by decide +kernel) rfl⟩
theorem dX7_tellOn_28 : decode cX7_tellOn 28 = .ok (.return_, 1) := by decide +kernel
set_option maxRecDepth 100000 in
theorem c_X7_tellOn (l : Launch) (D : va_G) (cy : Nat → Nat) (n : Nat) (ad : Nat → Nat) (F : Nat → va_E) (sz : Nat) (b : Stg) (ln tc : Int32) (co : Crs) (th bs en : Int32) (u : Int32 × Int32) (st kk dw ho : Int32) (sv : Crs) (pic ia tk : Int32) (hn : 68 ≤ n) (hM : F 56 = oModel ad b ln tc co th bs en u st kk dw ho sv pic ia tk) (kd : Nat → Int32) (h62 : F 62 = oInts cy 8 kd) (fg : Nat → Int32) (h63 : F 63 = oInts cy 8 fg) (d : Int32) (hd : d = nI (iN d) ∧ iN d < 8) : Met l yX7_tellOn (zw yX7_tellOn cX7_tellOn 2 none) (rmL 1) (zPc D cy n ad F sz [.ref (ad 56), .int d]) (va_Qv (fun F1 => F1 = va_up F 56 (oModel ad b ln tc co th bs en u st (sKick (kd (iN d), fg (iN d)) b) (sDraw (kd (iN d), fg (iN d))) (sHold (kd (iN d), fg (iN d))) sv pic ia tk)) (zB D n ad) (zA n ad sz)) 0 0 (zA n ad sz) := by
  refine zmet (by decide +kernel) (Nat.le_of_ble_eq_true rfl) (fun p e s m args below meth c ls hC hsz hZ hA hr hlocks hnm hl => ?_)
  have hC : zC p m c cX7_tellOn 2 s args RX7 D cy := hC
  have hx := hC.1.1
  have hb := hC.1.2.1
  have hl : lv_has ls 2 [(0, .ref (ad 56)), (1, .int d)] := hl
  refine lv_aload_n hx hb dX7_tellOn_0 rfl (lv_at hl 0 rfl) ?_
  refine lv_aload_n hx hb dX7_tellOn_1 rfl (lv_at hl 0 rfl) ?_
  refine zget hC hZ fX7_38 (zlt hn rfl) hM rfl dX7_tellOn_2 ?_
  refine lv_iload_n hx hb dX7_tellOn_5 rfl (lv_at hl 1 rfl) ?_
  refine ziald hC hZ (zlt hn rfl) h62 hd.1 hd.2 (by decide) dX7_tellOn_6 ?_
  refine lv_aload_n hx hb dX7_tellOn_7 rfl (lv_at hl 0 rfl) ?_
  refine zget hC hZ fX7_41 (zlt hn rfl) hM rfl dX7_tellOn_8 ?_
  refine lv_iload_n hx hb dX7_tellOn_11 rfl (lv_at hl 1 rfl) ?_
  refine ziald hC hZ (zlt hn rfl) h63 hd.1 hd.2 (by decide) dX7_tellOn_12 ?_
  refine lv_aload_n hx hb dX7_tellOn_13 rfl (lv_at hl 0 rfl) ?_
  refine zget hC hZ fX7_7 (zlt hn rfl) hM rfl dX7_tellOn_14 ?_
  refine lv_aload_n hx hb dX7_tellOn_17 rfl (lv_at hl 0 rfl) ?_
  refine zget hC hZ fX7_13 (zlt hn rfl) hM rfl dX7_tellOn_18 ?_
  refine lv_aload_n hx hb dX7_tellOn_21 rfl (lv_at hl 0 rfl) ?_
  refine zget hC hZ fX7_70 (zlt hn rfl) hM rfl dX7_tellOn_22 ?_
  refine zgov hZ hA (zrunV (As := [.int (kd (iN d)), .int (fg (iN d)), .int b.1, .int b.2.1, .int b.2.2.1]) (rest := []) (k := 56) hC hZ (c_X7_tell l D cy n ad F s.heap.size b ln tc co th bs en u st kk dw ho sv pic ia tk hn hM ((kd (iN d)), (fg (iN d))) b) mX7_tell vX7_tell kX7_134 (zRj_of rfl) (zlt hn rfl) hM rfl rfl hl.1 rfl (Nat.le_of_ble_eq_true rfl) dX7_tellOn_25 ⟨Nat.le_refl _, Nat.le_refl _⟩) (fun F_1 hp_3 H locs hZ => ?_)
  have h_4 := zeq hp_3
  exact zvret hC hZ hr hlocks hp_3 dX7_tellOn_28

theorem mX7_wrongStory : zMd yX7_wrongStory cX7_wrongStory 2 (some .int) 1 := ⟨by decide +kernel, gt_of 942 (by decide +kernel) rfl, gt_of 52 (by decide +kernel) rfl, by decide⟩
theorem dX7_wrongStory_0 : decode cX7_wrongStory 0 = .ok (.iload_n 1, 1) := by decide +kernel
theorem dX7_wrongStory_1 : decode cX7_wrongStory 1 = .ok (.i2l, 1) := by decide +kernel
theorem dX7_wrongStory_2 : decode cX7_wrongStory 2 = .ok (.lconst 0, 1) := by decide +kernel
theorem dX7_wrongStory_3 : decode cX7_wrongStory 3 = .ok (.ldc2_w 138, 3) := by decide +kernel
theorem qX7_138 : Cond.constantLong RX7 138 7 ∈ gtbl := gt_of 897 (by decide +kernel) rfl
theorem dX7_wrongStory_6 : decode cX7_wrongStory 6 = .ok (.invokestatic 63, 3) := by decide +kernel
theorem dX7_wrongStory_9 : decode cX7_wrongStory 9 = .ok (.ifCond .ne 7, 3) := by decide +kernel
theorem dX7_wrongStory_16 : decode cX7_wrongStory 16 = .ok (.aload_n 0, 1) := by decide +kernel
theorem dX7_wrongStory_17 : decode cX7_wrongStory 17 = .ok (.getfield 35, 3) := by decide +kernel
theorem fX7_35 : zFld RX7 35 7 32 := ⟨RX7, TX7, 39, rfl, inX7, by decide, rfl, Or.inl (gt_of 790 (by decide +kernel) rfl)⟩
theorem dX7_wrongStory_20 : decode cX7_wrongStory 20 = .ok (.iload_n 1, 1) := by decide +kernel
theorem dX7_wrongStory_21 : decode cX7_wrongStory 21 = .ok (.iaload, 1) := by decide +kernel
theorem dX7_wrongStory_22 : decode cX7_wrongStory 22 = .ok (.ifCond .ne 8, 3) := by decide +kernel
theorem dX7_wrongStory_30 : decode cX7_wrongStory 30 = .ok (.aload_n 0, 1) := by decide +kernel
theorem dX7_wrongStory_31 : decode cX7_wrongStory 31 = .ok (.getfield 35, 3) := by decide +kernel
theorem dX7_wrongStory_34 : decode cX7_wrongStory 34 = .ok (.iload_n 1, 1) := by decide +kernel
theorem dX7_wrongStory_35 : decode cX7_wrongStory 35 = .ok (.iaload, 1) := by decide +kernel
theorem dX7_wrongStory_36 : decode cX7_wrongStory 36 = .ok (.iconst 1, 1) := by decide +kernel
theorem dX7_wrongStory_37 : decode cX7_wrongStory 37 = .ok (.if_icmp .eq 8, 3) := by decide +kernel
theorem dX7_wrongStory_45 : decode cX7_wrongStory 45 = .ok (.iconst 0, 1) := by decide +kernel
theorem dX7_wrongStory_46 : decode cX7_wrongStory 46 = .ok (.ireturn, 1) := by decide +kernel
theorem dX7_wrongStory_40 : decode cX7_wrongStory 40 = .ok (.bipush (-12), 2) := by decide +kernel
theorem dX7_wrongStory_42 : decode cX7_wrongStory 42 = .ok (.goto 4, 3) := by decide +kernel
theorem dX7_wrongStory_25 : decode cX7_wrongStory 25 = .ok (.bipush (-11), 2) := by decide +kernel
theorem dX7_wrongStory_27 : decode cX7_wrongStory 27 = .ok (.goto 19, 3) := by decide +kernel
theorem dX7_wrongStory_12 : decode cX7_wrongStory 12 = .ok (.iconst (-1), 1) := by decide +kernel
theorem dX7_wrongStory_13 : decode cX7_wrongStory 13 = .ok (.goto 33, 3) := by decide +kernel
set_option maxRecDepth 100000 in
theorem c_X7_wrongStory (l : Launch) (D : va_G) (cy : Nat → Nat) (n : Nat) (ad : Nat → Nat) (F : Nat → va_E) (sz : Nat) (b : Stg) (ln tc : Int32) (co : Crs) (th bs en : Int32) (u : Int32 × Int32) (st kk dw ho : Int32) (sv : Crs) (pic ia tk : Int32) (hn : 68 ≤ n) (hM : F 56 = oModel ad b ln tc co th bs en u st kk dw ho sv pic ia tk) (hw : Nat → Int32) (h61 : F 61 = oInts cy 8 hw) (d : Int32) : Met l yX7_wrongStory (zw yX7_wrongStory cX7_wrongStory 2 (some .int)) (rmL 1) (zPc D cy n ad F sz [.ref (ad 56), .int d]) (va_Qi (fun r F1 => r = mStR hw d ∧ F = F1) (zB D n ad) (zA n ad sz)) 0 0 (zA n ad sz) := by
  refine zmet (by decide +kernel) (Nat.le_of_ble_eq_true rfl) (fun p e s m args below meth c ls hC hsz hZ hA hr hlocks hnm hl => ?_)
  have hC : zC p m c cX7_wrongStory 2 s args RX7 D cy := hC
  have hx := hC.1.1
  have hb := hC.1.2.1
  have hl : lv_has ls 2 [(0, .ref (ad 56)), (1, .int d)] := hl
  refine lv_iload_n hx hb dX7_wrongStory_0 rfl (lv_at hl 1 rfl) ?_
  refine lv_i2l (v := (d).toInt64) hx hb dX7_wrongStory_1 (by rfl) ?_
  refine lv_lconst (v := 0) hx hb dX7_wrongStory_2 (by decide) ?_
  refine lv_ldc2 (v := 7) hx hb hC.1.2.2.2.1 (hC.1.2.2.2.2 _ qX7_138) dX7_wrongStory_3 ?_
  refine zgoi hZ hA (zrunS (As := [.long ((d).toInt64), .long 0, .long 7]) (rest := []) hC hZ (c_X7_in l D cy n ad F s.heap.size d 0 7 0 7 (by decide) (by decide)) mX7_in sX7_in kX7_63 (zRj_of rfl) rfl hl.1 rfl (Nat.le_of_ble_eq_true rfl) dX7_wrongStory_6 ⟨Nat.le_refl _, Nat.le_refl _⟩) (fun r_2 F_1 hp_3 H locs hZ => ?_)
  obtain ⟨hp_3, rfl⟩ := hp_3
  by_cases b_4 : bIn d 0 7
  · rw [if_pos b_4] at hp_3
    subst hp_3
    refine lv_if_ne (tgt := 16) hx hb dX7_wrongStory_9 (by decide) (fun _ => ?_) (fun h => absurd (show (1 : Int32) = 0 from h) (by decide))
    refine lv_aload_n hx hb dX7_wrongStory_16 rfl (lv_at hl 0 rfl) ?_
    refine zget hC hZ fX7_35 (zlt hn rfl) hM rfl dX7_wrongStory_17 ?_
    refine lv_iload_n hx hb dX7_wrongStory_20 rfl (lv_at hl 1 rfl) ?_
    have hd_5 := bSh_i (bIn7.mp b_4)
    refine ziald hC hZ (zlt hn rfl) h61 hd_5.1 hd_5.2 (by decide) dX7_wrongStory_21 ?_
    refine lv_if_ne (tgt := 30) hx hb dX7_wrongStory_22 (by decide) (fun c_22 => ?_) (fun c_22 => ?_)
    · refine lv_aload_n hx hb dX7_wrongStory_30 rfl (lv_at hl 0 rfl) ?_
      refine zget hC hZ fX7_35 (zlt hn rfl) hM rfl dX7_wrongStory_31 ?_
      refine lv_iload_n hx hb dX7_wrongStory_34 rfl (lv_at hl 1 rfl) ?_
      refine ziald hC hZ (zlt hn rfl) h61 hd_5.1 hd_5.2 (by decide) dX7_wrongStory_35 ?_
      refine lv_iconst (v := 1) hx hb dX7_wrongStory_36 (by decide) ?_
      refine lv_icmp_eq (tgt := 45) hx hb dX7_wrongStory_37 (by decide) (fun c_37 => ?_) (fun c_37 => ?_)
      · refine lv_iconst (v := 0) hx hb dX7_wrongStory_45 (by decide) ?_
        have hq : (0 : Int32) = mStR hw d := by unfold mStR; rw [if_pos (bIn7.mp b_4)]; simp [c_22, c_37]
        exact zireti hC hZ hr hlocks ⟨hq, rfl⟩ dX7_wrongStory_46
      · refine lv_bipush (v := (-12)) hx hb dX7_wrongStory_40 (by decide) ?_
        refine lv_goto (tgt := 46) hx hb dX7_wrongStory_42 (by decide) ?_
        have hq : (-12 : Int32) = mStR hw d := by unfold mStR; rw [if_pos (bIn7.mp b_4)]; simp [c_22, c_37]
        exact zireti hC hZ hr hlocks ⟨hq, rfl⟩ dX7_wrongStory_46
    · refine lv_bipush (v := (-11)) hx hb dX7_wrongStory_25 (by decide) ?_
      refine lv_goto (tgt := 46) hx hb dX7_wrongStory_27 (by decide) ?_
      have hq : (-11 : Int32) = mStR hw d := by unfold mStR; rw [if_pos (bIn7.mp b_4)]; simp [c_22]
      exact zireti hC hZ hr hlocks ⟨hq, rfl⟩ dX7_wrongStory_46
  · rw [if_neg b_4] at hp_3
    subst hp_3
    refine lv_if_ne (tgt := 16) hx hb dX7_wrongStory_9 (by decide) (fun h => absurd (show (0 : Int32) = 0 by decide) h) (fun _ => ?_)
    refine lv_iconst (v := (-1)) hx hb dX7_wrongStory_12 (by decide) ?_
    refine lv_goto (tgt := 46) hx hb dX7_wrongStory_13 (by decide) ?_
    have hq : (-1 : Int32) = mStR hw d := by unfold mStR; rw [if_neg (fun h => b_4 (bIn7.mpr h))]
    exact zireti hC hZ hr hlocks ⟨hq, rfl⟩ dX7_wrongStory_46

theorem mX7_wrongRow : zMd yX7_wrongRow cX7_wrongRow 2 (some .int) 1 := ⟨by decide +kernel, gt_of 896 (by decide +kernel) rfl, gt_of 52 (by decide +kernel) rfl, by decide⟩
theorem dX7_wrongRow_0 : decode cX7_wrongRow 0 = .ok (.iload_n 1, 1) := by decide +kernel
theorem dX7_wrongRow_1 : decode cX7_wrongRow 1 = .ok (.i2l, 1) := by decide +kernel
theorem dX7_wrongRow_2 : decode cX7_wrongRow 2 = .ok (.lconst 0, 1) := by decide +kernel
theorem dX7_wrongRow_3 : decode cX7_wrongRow 3 = .ok (.ldc2_w 138, 3) := by decide +kernel
theorem dX7_wrongRow_6 : decode cX7_wrongRow 6 = .ok (.invokestatic 63, 3) := by decide +kernel
theorem dX7_wrongRow_9 : decode cX7_wrongRow 9 = .ok (.ifCond .ne 7, 3) := by decide +kernel
theorem dX7_wrongRow_16 : decode cX7_wrongRow 16 = .ok (.aload_n 0, 1) := by decide +kernel
theorem dX7_wrongRow_17 : decode cX7_wrongRow 17 = .ok (.getfield 35, 3) := by decide +kernel
theorem dX7_wrongRow_20 : decode cX7_wrongRow 20 = .ok (.iload_n 1, 1) := by decide +kernel
theorem dX7_wrongRow_21 : decode cX7_wrongRow 21 = .ok (.iaload, 1) := by decide +kernel
theorem dX7_wrongRow_22 : decode cX7_wrongRow 22 = .ok (.ifCond .ne 8, 3) := by decide +kernel
theorem dX7_wrongRow_30 : decode cX7_wrongRow 30 = .ok (.aload_n 0, 1) := by decide +kernel
theorem dX7_wrongRow_31 : decode cX7_wrongRow 31 = .ok (.getfield 35, 3) := by decide +kernel
theorem dX7_wrongRow_34 : decode cX7_wrongRow 34 = .ok (.iload_n 1, 1) := by decide +kernel
theorem dX7_wrongRow_35 : decode cX7_wrongRow 35 = .ok (.iaload, 1) := by decide +kernel
theorem dX7_wrongRow_36 : decode cX7_wrongRow 36 = .ok (.iconst 2, 1) := by decide +kernel
theorem dX7_wrongRow_37 : decode cX7_wrongRow 37 = .ok (.if_icmp .eq 8, 3) := by decide +kernel
theorem dX7_wrongRow_45 : decode cX7_wrongRow 45 = .ok (.iconst 0, 1) := by decide +kernel
theorem dX7_wrongRow_46 : decode cX7_wrongRow 46 = .ok (.ireturn, 1) := by decide +kernel
theorem dX7_wrongRow_40 : decode cX7_wrongRow 40 = .ok (.bipush (-12), 2) := by decide +kernel
theorem dX7_wrongRow_42 : decode cX7_wrongRow 42 = .ok (.goto 4, 3) := by decide +kernel
theorem dX7_wrongRow_25 : decode cX7_wrongRow 25 = .ok (.bipush (-11), 2) := by decide +kernel
theorem dX7_wrongRow_27 : decode cX7_wrongRow 27 = .ok (.goto 19, 3) := by decide +kernel
theorem dX7_wrongRow_12 : decode cX7_wrongRow 12 = .ok (.iconst (-1), 1) := by decide +kernel
theorem dX7_wrongRow_13 : decode cX7_wrongRow 13 = .ok (.goto 33, 3) := by decide +kernel
set_option maxRecDepth 100000 in
theorem c_X7_wrongRow (l : Launch) (D : va_G) (cy : Nat → Nat) (n : Nat) (ad : Nat → Nat) (F : Nat → va_E) (sz : Nat) (b : Stg) (ln tc : Int32) (co : Crs) (th bs en : Int32) (u : Int32 × Int32) (st kk dw ho : Int32) (sv : Crs) (pic ia tk : Int32) (hn : 68 ≤ n) (hM : F 56 = oModel ad b ln tc co th bs en u st kk dw ho sv pic ia tk) (hw : Nat → Int32) (h61 : F 61 = oInts cy 8 hw) (d : Int32) : Met l yX7_wrongRow (zw yX7_wrongRow cX7_wrongRow 2 (some .int)) (rmL 1) (zPc D cy n ad F sz [.ref (ad 56), .int d]) (va_Qi (fun r F1 => r = mRowR hw d ∧ F = F1) (zB D n ad) (zA n ad sz)) 0 0 (zA n ad sz) := by
  refine zmet (by decide +kernel) (Nat.le_of_ble_eq_true rfl) (fun p e s m args below meth c ls hC hsz hZ hA hr hlocks hnm hl => ?_)
  have hC : zC p m c cX7_wrongRow 2 s args RX7 D cy := hC
  have hx := hC.1.1
  have hb := hC.1.2.1
  have hl : lv_has ls 2 [(0, .ref (ad 56)), (1, .int d)] := hl
  refine lv_iload_n hx hb dX7_wrongRow_0 rfl (lv_at hl 1 rfl) ?_
  refine lv_i2l (v := (d).toInt64) hx hb dX7_wrongRow_1 (by rfl) ?_
  refine lv_lconst (v := 0) hx hb dX7_wrongRow_2 (by decide) ?_
  refine lv_ldc2 (v := 7) hx hb hC.1.2.2.2.1 (hC.1.2.2.2.2 _ qX7_138) dX7_wrongRow_3 ?_
  refine zgoi hZ hA (zrunS (As := [.long ((d).toInt64), .long 0, .long 7]) (rest := []) hC hZ (c_X7_in l D cy n ad F s.heap.size d 0 7 0 7 (by decide) (by decide)) mX7_in sX7_in kX7_63 (zRj_of rfl) rfl hl.1 rfl (Nat.le_of_ble_eq_true rfl) dX7_wrongRow_6 ⟨Nat.le_refl _, Nat.le_refl _⟩) (fun r_2 F_1 hp_3 H locs hZ => ?_)
  obtain ⟨hp_3, rfl⟩ := hp_3
  by_cases b_4 : bIn d 0 7
  · rw [if_pos b_4] at hp_3
    subst hp_3
    refine lv_if_ne (tgt := 16) hx hb dX7_wrongRow_9 (by decide) (fun _ => ?_) (fun h => absurd (show (1 : Int32) = 0 from h) (by decide))
    refine lv_aload_n hx hb dX7_wrongRow_16 rfl (lv_at hl 0 rfl) ?_
    refine zget hC hZ fX7_35 (zlt hn rfl) hM rfl dX7_wrongRow_17 ?_
    refine lv_iload_n hx hb dX7_wrongRow_20 rfl (lv_at hl 1 rfl) ?_
    have hd_5 := bSh_i (bIn7.mp b_4)
    refine ziald hC hZ (zlt hn rfl) h61 hd_5.1 hd_5.2 (by decide) dX7_wrongRow_21 ?_
    refine lv_if_ne (tgt := 30) hx hb dX7_wrongRow_22 (by decide) (fun c_22 => ?_) (fun c_22 => ?_)
    · refine lv_aload_n hx hb dX7_wrongRow_30 rfl (lv_at hl 0 rfl) ?_
      refine zget hC hZ fX7_35 (zlt hn rfl) hM rfl dX7_wrongRow_31 ?_
      refine lv_iload_n hx hb dX7_wrongRow_34 rfl (lv_at hl 1 rfl) ?_
      refine ziald hC hZ (zlt hn rfl) h61 hd_5.1 hd_5.2 (by decide) dX7_wrongRow_35 ?_
      refine lv_iconst (v := 2) hx hb dX7_wrongRow_36 (by decide) ?_
      refine lv_icmp_eq (tgt := 45) hx hb dX7_wrongRow_37 (by decide) (fun c_37 => ?_) (fun c_37 => ?_)
      · refine lv_iconst (v := 0) hx hb dX7_wrongRow_45 (by decide) ?_
        have hq : (0 : Int32) = mRowR hw d := by unfold mRowR; rw [if_pos (bIn7.mp b_4)]; simp [c_22, c_37]
        exact zireti hC hZ hr hlocks ⟨hq, rfl⟩ dX7_wrongRow_46
      · refine lv_bipush (v := (-12)) hx hb dX7_wrongRow_40 (by decide) ?_
        refine lv_goto (tgt := 46) hx hb dX7_wrongRow_42 (by decide) ?_
        have hq : (-12 : Int32) = mRowR hw d := by unfold mRowR; rw [if_pos (bIn7.mp b_4)]; simp [c_22, c_37]
        exact zireti hC hZ hr hlocks ⟨hq, rfl⟩ dX7_wrongRow_46
    · refine lv_bipush (v := (-11)) hx hb dX7_wrongRow_25 (by decide) ?_
      refine lv_goto (tgt := 46) hx hb dX7_wrongRow_27 (by decide) ?_
      have hq : (-11 : Int32) = mRowR hw d := by unfold mRowR; rw [if_pos (bIn7.mp b_4)]; simp [c_22]
      exact zireti hC hZ hr hlocks ⟨hq, rfl⟩ dX7_wrongRow_46
  · rw [if_neg b_4] at hp_3
    subst hp_3
    refine lv_if_ne (tgt := 16) hx hb dX7_wrongRow_9 (by decide) (fun h => absurd (show (0 : Int32) = 0 by decide) h) (fun _ => ?_)
    refine lv_iconst (v := (-1)) hx hb dX7_wrongRow_12 (by decide) ?_
    refine lv_goto (tgt := 46) hx hb dX7_wrongRow_13 (by decide) ?_
    have hq : (-1 : Int32) = mRowR hw d := by unfold mRowR; rw [if_neg (fun h => b_4 (bIn7.mpr h))]
    exact zireti hC hZ hr hlocks ⟨hq, rfl⟩ dX7_wrongRow_46

def mTwo (hw : Nat → Int32) (d e : Int32) : Int32 := if bSh d ∧ bSh e then (if hw (iN d) = 0 ∨ hw (iN e) = 0 then -11 else 0) else -1
theorem mX7_wrongTwo : zMd yX7_wrongTwo cX7_wrongTwo 3 (some .int) 2 := ⟨by decide +kernel, gt_of 1002 (by decide +kernel) rfl, gt_of 52 (by decide +kernel) rfl, by decide⟩
theorem dX7_wrongTwo_0 : decode cX7_wrongTwo 0 = .ok (.iload_n 1, 1) := by decide +kernel
theorem dX7_wrongTwo_1 : decode cX7_wrongTwo 1 = .ok (.i2l, 1) := by decide +kernel
theorem dX7_wrongTwo_2 : decode cX7_wrongTwo 2 = .ok (.lconst 0, 1) := by decide +kernel
theorem dX7_wrongTwo_3 : decode cX7_wrongTwo 3 = .ok (.ldc2_w 138, 3) := by decide +kernel
theorem dX7_wrongTwo_6 : decode cX7_wrongTwo 6 = .ok (.invokestatic 63, 3) := by decide +kernel
theorem dX7_wrongTwo_9 : decode cX7_wrongTwo 9 = .ok (.ifCond .eq 15, 3) := by decide +kernel
theorem dX7_wrongTwo_12 : decode cX7_wrongTwo 12 = .ok (.iload_n 2, 1) := by decide +kernel
theorem dX7_wrongTwo_13 : decode cX7_wrongTwo 13 = .ok (.i2l, 1) := by decide +kernel
theorem dX7_wrongTwo_14 : decode cX7_wrongTwo 14 = .ok (.lconst 0, 1) := by decide +kernel
theorem dX7_wrongTwo_15 : decode cX7_wrongTwo 15 = .ok (.ldc2_w 138, 3) := by decide +kernel
theorem dX7_wrongTwo_18 : decode cX7_wrongTwo 18 = .ok (.invokestatic 63, 3) := by decide +kernel
theorem dX7_wrongTwo_21 : decode cX7_wrongTwo 21 = .ok (.ifCond .ne 5, 3) := by decide +kernel
theorem dX7_wrongTwo_26 : decode cX7_wrongTwo 26 = .ok (.aload_n 0, 1) := by decide +kernel
theorem dX7_wrongTwo_27 : decode cX7_wrongTwo 27 = .ok (.getfield 35, 3) := by decide +kernel
theorem dX7_wrongTwo_30 : decode cX7_wrongTwo 30 = .ok (.iload_n 1, 1) := by decide +kernel
theorem dX7_wrongTwo_31 : decode cX7_wrongTwo 31 = .ok (.iaload, 1) := by decide +kernel
theorem dX7_wrongTwo_32 : decode cX7_wrongTwo 32 = .ok (.ifCond .eq 12, 3) := by decide +kernel
theorem dX7_wrongTwo_44 : decode cX7_wrongTwo 44 = .ok (.bipush (-11), 2) := by decide +kernel
theorem dX7_wrongTwo_46 : decode cX7_wrongTwo 46 = .ok (.ireturn, 1) := by decide +kernel
theorem dX7_wrongTwo_35 : decode cX7_wrongTwo 35 = .ok (.aload_n 0, 1) := by decide +kernel
theorem dX7_wrongTwo_36 : decode cX7_wrongTwo 36 = .ok (.getfield 35, 3) := by decide +kernel
theorem dX7_wrongTwo_39 : decode cX7_wrongTwo 39 = .ok (.iload_n 2, 1) := by decide +kernel
theorem dX7_wrongTwo_40 : decode cX7_wrongTwo 40 = .ok (.iaload, 1) := by decide +kernel
theorem dX7_wrongTwo_41 : decode cX7_wrongTwo 41 = .ok (.ifCond .ne 6, 3) := by decide +kernel
theorem dX7_wrongTwo_47 : decode cX7_wrongTwo 47 = .ok (.iconst 0, 1) := by decide +kernel
theorem dX7_wrongTwo_48 : decode cX7_wrongTwo 48 = .ok (.ireturn, 1) := by decide +kernel
theorem dX7_wrongTwo_24 : decode cX7_wrongTwo 24 = .ok (.iconst (-1), 1) := by decide +kernel
theorem dX7_wrongTwo_25 : decode cX7_wrongTwo 25 = .ok (.ireturn, 1) := by decide +kernel
set_option maxRecDepth 100000 in
theorem c_X7_wrongTwo (l : Launch) (D : va_G) (cy : Nat → Nat) (n : Nat) (ad : Nat → Nat) (F : Nat → va_E) (sz : Nat) (b : Stg) (ln tc : Int32) (co : Crs) (th bs en : Int32) (u : Int32 × Int32) (st kk dw ho : Int32) (sv : Crs) (pic ia tk : Int32) (hn : 68 ≤ n) (hM : F 56 = oModel ad b ln tc co th bs en u st kk dw ho sv pic ia tk) (hw : Nat → Int32) (h61 : F 61 = oInts cy 8 hw) (d e0 : Int32) : Met l yX7_wrongTwo (zw yX7_wrongTwo cX7_wrongTwo 3 (some .int)) (rmL 1) (zPc D cy n ad F sz [.ref (ad 56), .int d, .int e0]) (va_Qi (fun r F1 => r = mTwo hw d e0 ∧ F = F1) (zB D n ad) (zA n ad sz)) 0 0 (zA n ad sz) := by
  refine zmet (by decide +kernel) (Nat.le_of_ble_eq_true rfl) (fun p e s m args below meth c ls hC hsz hZ hA hr hlocks hnm hl => ?_)
  have hC : zC p m c cX7_wrongTwo 3 s args RX7 D cy := hC
  have hx := hC.1.1
  have hb := hC.1.2.1
  have hl : lv_has ls 3 [(0, .ref (ad 56)), (1, .int d), (2, .int e0)] := hl
  refine lv_iload_n hx hb dX7_wrongTwo_0 rfl (lv_at hl 1 rfl) ?_
  refine lv_i2l (v := (d).toInt64) hx hb dX7_wrongTwo_1 (by rfl) ?_
  refine lv_lconst (v := 0) hx hb dX7_wrongTwo_2 (by decide) ?_
  refine lv_ldc2 (v := 7) hx hb hC.1.2.2.2.1 (hC.1.2.2.2.2 _ qX7_138) dX7_wrongTwo_3 ?_
  refine zgoi hZ hA (zrunS (As := [.long ((d).toInt64), .long 0, .long 7]) (rest := []) hC hZ (c_X7_in l D cy n ad F s.heap.size d 0 7 0 7 (by decide) (by decide)) mX7_in sX7_in kX7_63 (zRj_of rfl) rfl hl.1 rfl (Nat.le_of_ble_eq_true rfl) dX7_wrongTwo_6 ⟨Nat.le_refl _, Nat.le_refl _⟩) (fun r_2 F_1 hp_3 H locs hZ => ?_)
  obtain ⟨hp_3, rfl⟩ := hp_3
  by_cases b_4 : bIn d 0 7
  · rw [if_pos b_4] at hp_3
    subst hp_3
    refine lv_if_eq (tgt := 24) hx hb dX7_wrongTwo_9 (by decide) (fun h => absurd (show (1 : Int32) = 0 from h) (by decide)) (fun _ => ?_)
    refine lv_iload_n hx hb dX7_wrongTwo_12 rfl (lv_at hl 2 rfl) ?_
    refine lv_i2l (v := (e0).toInt64) hx hb dX7_wrongTwo_13 (by rfl) ?_
    refine lv_lconst (v := 0) hx hb dX7_wrongTwo_14 (by decide) ?_
    refine lv_ldc2 (v := 7) hx hb hC.1.2.2.2.1 (hC.1.2.2.2.2 _ qX7_138) dX7_wrongTwo_15 ?_
    refine zgoi hZ hA (zrunS (As := [.long ((e0).toInt64), .long 0, .long 7]) (rest := []) hC hZ (c_X7_in l D cy n ad F H.size e0 0 7 0 7 (by decide) (by decide)) mX7_in sX7_in kX7_63 (zRj_of rfl) rfl hl.1 rfl (Nat.le_of_ble_eq_true rfl) dX7_wrongTwo_18 ⟨Nat.le_refl _, Nat.le_refl _⟩) (fun r_6 F_5 hp_7 H locs hZ => ?_)
    obtain ⟨hp_7, rfl⟩ := hp_7
    by_cases b_8 : bIn e0 0 7
    · rw [if_pos b_8] at hp_7
      subst hp_7
      refine lv_if_ne (tgt := 26) hx hb dX7_wrongTwo_21 (by decide) (fun _ => ?_) (fun h => absurd (show (1 : Int32) = 0 from h) (by decide))
      refine lv_aload_n hx hb dX7_wrongTwo_26 rfl (lv_at hl 0 rfl) ?_
      refine zget hC hZ fX7_35 (zlt hn rfl) hM rfl dX7_wrongTwo_27 ?_
      refine lv_iload_n hx hb dX7_wrongTwo_30 rfl (lv_at hl 1 rfl) ?_
      have hd_9 := bSh_i (bIn7.mp b_4)
      refine ziald hC hZ (zlt hn rfl) h61 hd_9.1 hd_9.2 (by decide) dX7_wrongTwo_31 ?_
      refine lv_if_eq (tgt := 44) hx hb dX7_wrongTwo_32 (by decide) (fun c_32 => ?_) (fun c_32 => ?_)
      · refine lv_bipush (v := (-11)) hx hb dX7_wrongTwo_44 (by decide) ?_
        have hq : (-11 : Int32) = mTwo hw d e0 := by unfold mTwo; rw [if_pos ⟨bIn7.mp b_4, bIn7.mp b_8⟩, if_pos (Or.inl c_32)]
        exact zireti hC hZ hr hlocks ⟨hq, rfl⟩ dX7_wrongTwo_46
      · refine lv_aload_n hx hb dX7_wrongTwo_35 rfl (lv_at hl 0 rfl) ?_
        refine zget hC hZ fX7_35 (zlt hn rfl) hM rfl dX7_wrongTwo_36 ?_
        refine lv_iload_n hx hb dX7_wrongTwo_39 rfl (lv_at hl 2 rfl) ?_
        have hd_10 := bSh_i (bIn7.mp b_8)
        refine ziald hC hZ (zlt hn rfl) h61 hd_10.1 hd_10.2 (by decide) dX7_wrongTwo_40 ?_
        refine lv_if_ne (tgt := 47) hx hb dX7_wrongTwo_41 (by decide) (fun c_41 => ?_) (fun c_41 => ?_)
        · refine lv_iconst (v := 0) hx hb dX7_wrongTwo_47 (by decide) ?_
          have hq : (0 : Int32) = mTwo hw d e0 := by unfold mTwo; rw [if_pos ⟨bIn7.mp b_4, bIn7.mp b_8⟩, if_neg (fun h => h.elim c_32 c_41)]
          exact zireti hC hZ hr hlocks ⟨hq, rfl⟩ dX7_wrongTwo_48
        · refine lv_bipush (v := (-11)) hx hb dX7_wrongTwo_44 (by decide) ?_
          have hq : (-11 : Int32) = mTwo hw d e0 := by unfold mTwo; rw [if_pos ⟨bIn7.mp b_4, bIn7.mp b_8⟩, if_pos (Or.inr c_41)]
          exact zireti hC hZ hr hlocks ⟨hq, rfl⟩ dX7_wrongTwo_46
    · rw [if_neg b_8] at hp_7
      subst hp_7
      refine lv_if_ne (tgt := 26) hx hb dX7_wrongTwo_21 (by decide) (fun h => absurd (show (0 : Int32) = 0 by decide) h) (fun _ => ?_)
      refine lv_iconst (v := (-1)) hx hb dX7_wrongTwo_24 (by decide) ?_
      have hq : (-1 : Int32) = mTwo hw d e0 := (if_neg (fun h => b_8 (bIn7.mpr h.2))).symm
      exact zireti hC hZ hr hlocks ⟨hq, rfl⟩ dX7_wrongTwo_25
  · rw [if_neg b_4] at hp_3
    subst hp_3
    refine lv_if_eq (tgt := 24) hx hb dX7_wrongTwo_9 (by decide) (fun _ => ?_) (fun h => absurd (show (0 : Int32) = 0 by decide) h)
    refine lv_iconst (v := (-1)) hx hb dX7_wrongTwo_24 (by decide) ?_
    have hq : (-1 : Int32) = mTwo hw d e0 := (if_neg (fun h => b_4 (bIn7.mpr h.1))).symm
    exact zireti hC hZ hr hlocks ⟨hq, rfl⟩ dX7_wrongTwo_25

theorem mX7_begin : zMd yX7_begin cX7_begin 1 none 0 := ⟨by decide +kernel, gt_of 971 (by decide +kernel) rfl, gt_of 52 (by decide +kernel) rfl, by decide⟩
theorem dX7_begin_0 : decode cX7_begin 0 = .ok (.aload_n 0, 1) := by decide +kernel
theorem dX7_begin_1 : decode cX7_begin 1 = .ok (.iconst 0, 1) := by decide +kernel
theorem dX7_begin_2 : decode cX7_begin 2 = .ok (.putfield 148, 3) := by decide +kernel
theorem pX7_148 : zFldP RX7 148 7 7 false .int := ⟨RX7, TX7, 39, tyX7, rfl, inX7, by decide, rfl, Or.inl (gt_of 765 (by decide +kernel) rfl), tyX7_ok, nmX7, rfl, by decide +kernel, fun h => by cases h⟩
theorem dX7_begin_5 : decode cX7_begin 5 = .ok (.aload_n 0, 1) := by decide +kernel
theorem dX7_begin_6 : decode cX7_begin 6 = .ok (.iconst 0, 1) := by decide +kernel
theorem dX7_begin_7 : decode cX7_begin 7 = .ok (.putfield 154, 3) := by decide +kernel
theorem pX7_154 : zFldP RX7 154 7 8 false .int := ⟨RX7, TX7, 39, tyX7, rfl, inX7, by decide, rfl, Or.inl (gt_of 766 (by decide +kernel) rfl), tyX7_ok, nmX7, rfl, by decide +kernel, fun h => by cases h⟩
theorem dX7_begin_10 : decode cX7_begin 10 = .ok (.aload_n 0, 1) := by decide +kernel
theorem dX7_begin_11 : decode cX7_begin 11 = .ok (.iconst 0, 1) := by decide +kernel
theorem dX7_begin_12 : decode cX7_begin 12 = .ok (.putfield 151, 3) := by decide +kernel
theorem pX7_151 : zFldP RX7 151 7 9 false .int := ⟨RX7, TX7, 39, tyX7, rfl, inX7, by decide, rfl, Or.inl (gt_of 767 (by decide +kernel) rfl), tyX7_ok, nmX7, rfl, by decide +kernel, fun h => by cases h⟩
theorem dX7_begin_15 : decode cX7_begin 15 = .ok (.aload_n 0, 1) := by decide +kernel
theorem dX7_begin_16 : decode cX7_begin 16 = .ok (.iconst 0, 1) := by decide +kernel
theorem dX7_begin_17 : decode cX7_begin 17 = .ok (.putfield 67, 3) := by decide +kernel
theorem pX7_67 : zFldP RX7 67 7 10 false .int := ⟨RX7, TX7, 39, tyX7, rfl, inX7, by decide, rfl, Or.inl (gt_of 768 (by decide +kernel) rfl), tyX7_ok, nmX7, rfl, by decide +kernel, fun h => by cases h⟩
theorem dX7_begin_20 : decode cX7_begin 20 = .ok (.aload_n 0, 1) := by decide +kernel
theorem dX7_begin_21 : decode cX7_begin 21 = .ok (.iconst 0, 1) := by decide +kernel
theorem dX7_begin_22 : decode cX7_begin 22 = .ok (.putfield 160, 3) := by decide +kernel
theorem pX7_160 : zFldP RX7 160 7 11 false .int := ⟨RX7, TX7, 39, tyX7, rfl, inX7, by decide, rfl, Or.inl (gt_of 769 (by decide +kernel) rfl), tyX7_ok, nmX7, rfl, by decide +kernel, fun h => by cases h⟩
theorem dX7_begin_25 : decode cX7_begin 25 = .ok (.return_, 1) := by decide +kernel
set_option maxRecDepth 100000 in
theorem c_X7_begin (l : Launch) (D : va_G) (cy : Nat → Nat) (n : Nat) (ad : Nat → Nat) (F : Nat → va_E) (sz : Nat) (b : Stg) (ln tc : Int32) (co : Crs) (th bs en : Int32) (u : Int32 × Int32) (st kk dw ho : Int32) (sv : Crs) (pic ia tk : Int32) (hn : 68 ≤ n) (hM : F 56 = oModel ad b ln tc co th bs en u st kk dw ho sv pic ia tk) : Met l yX7_begin (zw yX7_begin cX7_begin 1 none) (rmL 0) (zPc D cy n ad F sz [.ref (ad 56)]) (va_Qv (fun F1 => F1 = va_up F 56 (oModel ad b ln tc sCC th bs en u st kk dw ho sv pic ia tk)) (zB D n ad) (zA n ad sz)) 0 0 (zA n ad sz) := by
  refine zmet (by decide +kernel) (Nat.le_of_ble_eq_true rfl) (fun p e s m args below meth c ls hC hsz hZ hA hr hlocks hnm hl => ?_)
  have hC : zC p m c cX7_begin 1 s args RX7 D cy := hC
  have hx := hC.1.1
  have hb := hC.1.2.1
  have hl : lv_has ls 1 [(0, .ref (ad 56))] := hl
  refine lv_aload_n hx hb dX7_begin_0 rfl (lv_at hl 0 rfl) ?_
  refine lv_iconst (v := 0) hx hb dX7_begin_1 (by decide) ?_
  refine zput (E := oModel ad b ln tc (0, co.2.1, co.2.2.1, co.2.2.2.1, co.2.2.2.2) th bs en u st kk dw ho sv pic ia tk) hC hZ pX7_148 (zlt hn rfl) hM rfl rfl rfl (Nat.le_of_ble_eq_true rfl) dX7_begin_2 (fun F_1 hF_2 H locs hZ => ?_)
  have h_3 := zeq hF_2
  refine lv_aload_n hx hb dX7_begin_5 rfl (lv_at hl 0 rfl) ?_
  refine lv_iconst (v := 0) hx hb dX7_begin_6 (by decide) ?_
  refine zput (E := oModel ad b ln tc (0, 0, co.2.2.1, co.2.2.2.1, co.2.2.2.2) th bs en u st kk dw ho sv pic ia tk) hC hZ pX7_154 (zlt hn rfl) h_3 rfl rfl rfl (Nat.le_of_ble_eq_true rfl) dX7_begin_7 (fun F_4 hF_5 H locs hZ => ?_)
  have h_6 := zeq hF_5
  refine lv_aload_n hx hb dX7_begin_10 rfl (lv_at hl 0 rfl) ?_
  refine lv_iconst (v := 0) hx hb dX7_begin_11 (by decide) ?_
  refine zput (E := oModel ad b ln tc (0, 0, 0, co.2.2.2.1, co.2.2.2.2) th bs en u st kk dw ho sv pic ia tk) hC hZ pX7_151 (zlt hn rfl) h_6 rfl rfl rfl (Nat.le_of_ble_eq_true rfl) dX7_begin_12 (fun F_7 hF_8 H locs hZ => ?_)
  have h_9 := zeq hF_8
  refine lv_aload_n hx hb dX7_begin_15 rfl (lv_at hl 0 rfl) ?_
  refine lv_iconst (v := 0) hx hb dX7_begin_16 (by decide) ?_
  refine zput (E := oModel ad b ln tc (0, 0, 0, 0, co.2.2.2.2) th bs en u st kk dw ho sv pic ia tk) hC hZ pX7_67 (zlt hn rfl) h_9 rfl rfl rfl (Nat.le_of_ble_eq_true rfl) dX7_begin_17 (fun F_10 hF_11 H locs hZ => ?_)
  have h_12 := zeq hF_11
  refine lv_aload_n hx hb dX7_begin_20 rfl (lv_at hl 0 rfl) ?_
  refine lv_iconst (v := 0) hx hb dX7_begin_21 (by decide) ?_
  refine zput (E := oModel ad b ln tc (0, 0, 0, 0, 0) th bs en u st kk dw ho sv pic ia tk) hC hZ pX7_160 (zlt hn rfl) h_12 rfl rfl rfl (Nat.le_of_ble_eq_true rfl) dX7_begin_22 (fun F_13 hF_14 H locs hZ => ?_)
  have h_15 := zeq hF_14
  have hq_16 : F_13 = va_up F 56 (oModel ad b ln tc sCC th bs en u st kk dw ho sv pic ia tk) := by
    rw [show sCC = (0, 0, 0, 0, 0) from rfl]
    rw [hF_14, hF_11, hF_8, hF_5, hF_2]; simp only [bx_uu]
  exact zvret hC hZ hr hlocks hq_16 dX7_begin_25

theorem mX7_open : zMd yX7_open cX7_open 1 none 0 := ⟨by decide +kernel, gt_of 1051 (by decide +kernel) rfl, gt_of 52 (by decide +kernel) rfl, by decide⟩
theorem dX7_open_0 : decode cX7_open 0 = .ok (.aload_n 0, 1) := by decide +kernel
theorem dX7_open_1 : decode cX7_open 1 = .ok (.aload_n 0, 1) := by decide +kernel
theorem dX7_open_2 : decode cX7_open 2 = .ok (.getfield 148, 3) := by decide +kernel
theorem fX7_148 : zFld RX7 148 7 7 := ⟨RX7, TX7, 39, rfl, inX7, by decide, rfl, Or.inl (gt_of 765 (by decide +kernel) rfl)⟩
theorem dX7_open_5 : decode cX7_open 5 = .ok (.putfield 163, 3) := by decide +kernel
theorem pX7_163 : zFldP RX7 163 7 23 false .int := ⟨RX7, TX7, 39, tyX7, rfl, inX7, by decide, rfl, Or.inl (gt_of 781 (by decide +kernel) rfl), tyX7_ok, nmX7, rfl, by decide +kernel, fun h => by cases h⟩
theorem dX7_open_8 : decode cX7_open 8 = .ok (.aload_n 0, 1) := by decide +kernel
theorem dX7_open_9 : decode cX7_open 9 = .ok (.aload_n 0, 1) := by decide +kernel
theorem dX7_open_10 : decode cX7_open 10 = .ok (.getfield 154, 3) := by decide +kernel
theorem fX7_154 : zFld RX7 154 7 8 := ⟨RX7, TX7, 39, rfl, inX7, by decide, rfl, Or.inl (gt_of 766 (by decide +kernel) rfl)⟩
theorem dX7_open_13 : decode cX7_open 13 = .ok (.putfield 166, 3) := by decide +kernel
theorem pX7_166 : zFldP RX7 166 7 24 false .int := ⟨RX7, TX7, 39, tyX7, rfl, inX7, by decide, rfl, Or.inl (gt_of 782 (by decide +kernel) rfl), tyX7_ok, nmX7, rfl, by decide +kernel, fun h => by cases h⟩
theorem dX7_open_16 : decode cX7_open 16 = .ok (.aload_n 0, 1) := by decide +kernel
theorem dX7_open_17 : decode cX7_open 17 = .ok (.aload_n 0, 1) := by decide +kernel
theorem dX7_open_18 : decode cX7_open 18 = .ok (.getfield 151, 3) := by decide +kernel
theorem fX7_151 : zFld RX7 151 7 9 := ⟨RX7, TX7, 39, rfl, inX7, by decide, rfl, Or.inl (gt_of 767 (by decide +kernel) rfl)⟩
theorem dX7_open_21 : decode cX7_open 21 = .ok (.putfield 169, 3) := by decide +kernel
theorem pX7_169 : zFldP RX7 169 7 25 false .int := ⟨RX7, TX7, 39, tyX7, rfl, inX7, by decide, rfl, Or.inl (gt_of 783 (by decide +kernel) rfl), tyX7_ok, nmX7, rfl, by decide +kernel, fun h => by cases h⟩
theorem dX7_open_24 : decode cX7_open 24 = .ok (.aload_n 0, 1) := by decide +kernel
theorem dX7_open_25 : decode cX7_open 25 = .ok (.aload_n 0, 1) := by decide +kernel
theorem dX7_open_26 : decode cX7_open 26 = .ok (.getfield 67, 3) := by decide +kernel
theorem fX7_67 : zFld RX7 67 7 10 := ⟨RX7, TX7, 39, rfl, inX7, by decide, rfl, Or.inl (gt_of 768 (by decide +kernel) rfl)⟩
theorem dX7_open_29 : decode cX7_open 29 = .ok (.putfield 172, 3) := by decide +kernel
theorem pX7_172 : zFldP RX7 172 7 26 false .int := ⟨RX7, TX7, 39, tyX7, rfl, inX7, by decide, rfl, Or.inl (gt_of 784 (by decide +kernel) rfl), tyX7_ok, nmX7, rfl, by decide +kernel, fun h => by cases h⟩
theorem dX7_open_32 : decode cX7_open 32 = .ok (.aload_n 0, 1) := by decide +kernel
theorem dX7_open_33 : decode cX7_open 33 = .ok (.aload_n 0, 1) := by decide +kernel
theorem dX7_open_34 : decode cX7_open 34 = .ok (.getfield 160, 3) := by decide +kernel
theorem fX7_160 : zFld RX7 160 7 11 := ⟨RX7, TX7, 39, rfl, inX7, by decide, rfl, Or.inl (gt_of 769 (by decide +kernel) rfl)⟩
theorem dX7_open_37 : decode cX7_open 37 = .ok (.putfield 175, 3) := by decide +kernel
theorem pX7_175 : zFldP RX7 175 7 27 false .int := ⟨RX7, TX7, 39, tyX7, rfl, inX7, by decide, rfl, Or.inl (gt_of 785 (by decide +kernel) rfl), tyX7_ok, nmX7, rfl, by decide +kernel, fun h => by cases h⟩
theorem dX7_open_40 : decode cX7_open 40 = .ok (.aload_n 0, 1) := by decide +kernel
theorem dX7_open_41 : decode cX7_open 41 = .ok (.invokevirtual 178, 3) := by decide +kernel
theorem kX7_178 : zLk RX7 178 yX7_begin := Or.inl (gt_of 968 (by decide +kernel) rfl)
theorem vX7_begin : zMi yX7_begin := ⟨gt_of 970 (by decide +kernel) rfl, gt_of 31 (by decide +kernel) rfl⟩
theorem dX7_open_44 : decode cX7_open 44 = .ok (.return_, 1) := by decide +kernel
set_option maxRecDepth 100000 in
theorem c_X7_open (l : Launch) (D : va_G) (cy : Nat → Nat) (n : Nat) (ad : Nat → Nat) (F : Nat → va_E) (sz : Nat) (b : Stg) (ln tc : Int32) (co : Crs) (th bs en : Int32) (u : Int32 × Int32) (st kk dw ho : Int32) (sv : Crs) (pic ia tk : Int32) (hn : 68 ≤ n) (hM : F 56 = oModel ad b ln tc co th bs en u st kk dw ho sv pic ia tk) : Met l yX7_open (zw yX7_open cX7_open 1 none) (rmL 1) (zPc D cy n ad F sz [.ref (ad 56)]) (va_Qv (fun F1 => F1 = va_up F 56 (oModel ad b ln tc sCC th bs en u st kk dw ho co pic ia tk)) (zB D n ad) (zA n ad sz)) 0 0 (zA n ad sz) := by
  refine zmet (by decide +kernel) (Nat.le_of_ble_eq_true rfl) (fun p e s m args below meth c ls hC hsz hZ hA hr hlocks hnm hl => ?_)
  have hC : zC p m c cX7_open 1 s args RX7 D cy := hC
  have hx := hC.1.1
  have hb := hC.1.2.1
  have hl : lv_has ls 1 [(0, .ref (ad 56))] := hl
  refine lv_aload_n hx hb dX7_open_0 rfl (lv_at hl 0 rfl) ?_
  refine lv_aload_n hx hb dX7_open_1 rfl (lv_at hl 0 rfl) ?_
  refine zget hC hZ fX7_148 (zlt hn rfl) hM rfl dX7_open_2 ?_
  refine zput (E := oModel ad b ln tc co th bs en u st kk dw ho (co.1, sv.2.1, sv.2.2.1, sv.2.2.2.1, sv.2.2.2.2) pic ia tk) hC hZ pX7_163 (zlt hn rfl) hM rfl rfl rfl (Nat.le_of_ble_eq_true rfl) dX7_open_5 (fun F_1 hF_2 H locs hZ => ?_)
  have h_3 := zeq hF_2
  refine lv_aload_n hx hb dX7_open_8 rfl (lv_at hl 0 rfl) ?_
  refine lv_aload_n hx hb dX7_open_9 rfl (lv_at hl 0 rfl) ?_
  refine zget hC hZ fX7_154 (zlt hn rfl) h_3 rfl dX7_open_10 ?_
  refine zput (E := oModel ad b ln tc co th bs en u st kk dw ho (co.1, co.2.1, sv.2.2.1, sv.2.2.2.1, sv.2.2.2.2) pic ia tk) hC hZ pX7_166 (zlt hn rfl) h_3 rfl rfl rfl (Nat.le_of_ble_eq_true rfl) dX7_open_13 (fun F_4 hF_5 H locs hZ => ?_)
  have h_6 := zeq hF_5
  refine lv_aload_n hx hb dX7_open_16 rfl (lv_at hl 0 rfl) ?_
  refine lv_aload_n hx hb dX7_open_17 rfl (lv_at hl 0 rfl) ?_
  refine zget hC hZ fX7_151 (zlt hn rfl) h_6 rfl dX7_open_18 ?_
  refine zput (E := oModel ad b ln tc co th bs en u st kk dw ho (co.1, co.2.1, co.2.2.1, sv.2.2.2.1, sv.2.2.2.2) pic ia tk) hC hZ pX7_169 (zlt hn rfl) h_6 rfl rfl rfl (Nat.le_of_ble_eq_true rfl) dX7_open_21 (fun F_7 hF_8 H locs hZ => ?_)
  have h_9 := zeq hF_8
  refine lv_aload_n hx hb dX7_open_24 rfl (lv_at hl 0 rfl) ?_
  refine lv_aload_n hx hb dX7_open_25 rfl (lv_at hl 0 rfl) ?_
  refine zget hC hZ fX7_67 (zlt hn rfl) h_9 rfl dX7_open_26 ?_
  refine zput (E := oModel ad b ln tc co th bs en u st kk dw ho (co.1, co.2.1, co.2.2.1, co.2.2.2.1, sv.2.2.2.2) pic ia tk) hC hZ pX7_172 (zlt hn rfl) h_9 rfl rfl rfl (Nat.le_of_ble_eq_true rfl) dX7_open_29 (fun F_10 hF_11 H locs hZ => ?_)
  have h_12 := zeq hF_11
  refine lv_aload_n hx hb dX7_open_32 rfl (lv_at hl 0 rfl) ?_
  refine lv_aload_n hx hb dX7_open_33 rfl (lv_at hl 0 rfl) ?_
  refine zget hC hZ fX7_160 (zlt hn rfl) h_12 rfl dX7_open_34 ?_
  refine zput (E := oModel ad b ln tc co th bs en u st kk dw ho co pic ia tk) hC hZ pX7_175 (zlt hn rfl) h_12 rfl rfl rfl (Nat.le_of_ble_eq_true rfl) dX7_open_37 (fun F_13 hF_14 H locs hZ => ?_)
  have h_15 := zeq hF_14
  refine lv_aload_n hx hb dX7_open_40 rfl (lv_at hl 0 rfl) ?_
  refine zgov hZ hA (zrunV (As := []) (rest := []) (k := 56) hC hZ (c_X7_begin l D cy n ad F_13 H.size b ln tc co th bs en u st kk dw ho co pic ia tk hn h_15) mX7_begin vX7_begin kX7_178 (zRj_of rfl) (zlt hn rfl) h_15 rfl rfl hl.1 rfl (Nat.le_of_ble_eq_true rfl) dX7_open_41 ⟨Nat.le_refl _, Nat.le_refl _⟩) (fun F_16 hp_18 H locs hZ => ?_)
  have h_19 := zeq hp_18
  have hq_20 : F_16 = va_up F 56 (oModel ad b ln tc sCC th bs en u st kk dw ho co pic ia tk) := by
    rw [hp_18, hF_14, hF_11, hF_8, hF_5, hF_2]; simp only [bx_uu]
  exact zvret hC hZ hr hlocks hq_20 dX7_open_44

theorem mX7_close : zMd yX7_close cX7_close 1 none 0 := ⟨by decide +kernel, gt_of 1055 (by decide +kernel) rfl, gt_of 52 (by decide +kernel) rfl, by decide⟩
theorem dX7_close_0 : decode cX7_close 0 = .ok (.aload_n 0, 1) := by decide +kernel
theorem dX7_close_1 : decode cX7_close 1 = .ok (.aload_n 0, 1) := by decide +kernel
theorem dX7_close_2 : decode cX7_close 2 = .ok (.getfield 163, 3) := by decide +kernel
theorem fX7_163 : zFld RX7 163 7 23 := ⟨RX7, TX7, 39, rfl, inX7, by decide, rfl, Or.inl (gt_of 781 (by decide +kernel) rfl)⟩
theorem dX7_close_5 : decode cX7_close 5 = .ok (.putfield 148, 3) := by decide +kernel
theorem dX7_close_8 : decode cX7_close 8 = .ok (.aload_n 0, 1) := by decide +kernel
theorem dX7_close_9 : decode cX7_close 9 = .ok (.aload_n 0, 1) := by decide +kernel
theorem dX7_close_10 : decode cX7_close 10 = .ok (.getfield 166, 3) := by decide +kernel
theorem fX7_166 : zFld RX7 166 7 24 := ⟨RX7, TX7, 39, rfl, inX7, by decide, rfl, Or.inl (gt_of 782 (by decide +kernel) rfl)⟩
theorem dX7_close_13 : decode cX7_close 13 = .ok (.putfield 154, 3) := by decide +kernel
theorem dX7_close_16 : decode cX7_close 16 = .ok (.aload_n 0, 1) := by decide +kernel
theorem dX7_close_17 : decode cX7_close 17 = .ok (.aload_n 0, 1) := by decide +kernel
theorem dX7_close_18 : decode cX7_close 18 = .ok (.getfield 169, 3) := by decide +kernel
theorem fX7_169 : zFld RX7 169 7 25 := ⟨RX7, TX7, 39, rfl, inX7, by decide, rfl, Or.inl (gt_of 783 (by decide +kernel) rfl)⟩
theorem dX7_close_21 : decode cX7_close 21 = .ok (.putfield 151, 3) := by decide +kernel
theorem dX7_close_24 : decode cX7_close 24 = .ok (.aload_n 0, 1) := by decide +kernel
theorem dX7_close_25 : decode cX7_close 25 = .ok (.aload_n 0, 1) := by decide +kernel
theorem dX7_close_26 : decode cX7_close 26 = .ok (.getfield 172, 3) := by decide +kernel
theorem fX7_172 : zFld RX7 172 7 26 := ⟨RX7, TX7, 39, rfl, inX7, by decide, rfl, Or.inl (gt_of 784 (by decide +kernel) rfl)⟩
theorem dX7_close_29 : decode cX7_close 29 = .ok (.putfield 67, 3) := by decide +kernel
theorem dX7_close_32 : decode cX7_close 32 = .ok (.aload_n 0, 1) := by decide +kernel
theorem dX7_close_33 : decode cX7_close 33 = .ok (.aload_n 0, 1) := by decide +kernel
theorem dX7_close_34 : decode cX7_close 34 = .ok (.getfield 175, 3) := by decide +kernel
theorem fX7_175 : zFld RX7 175 7 27 := ⟨RX7, TX7, 39, rfl, inX7, by decide, rfl, Or.inl (gt_of 785 (by decide +kernel) rfl)⟩
theorem dX7_close_37 : decode cX7_close 37 = .ok (.putfield 160, 3) := by decide +kernel
theorem dX7_close_40 : decode cX7_close 40 = .ok (.return_, 1) := by decide +kernel
set_option maxRecDepth 100000 in
theorem c_X7_close (l : Launch) (D : va_G) (cy : Nat → Nat) (n : Nat) (ad : Nat → Nat) (F : Nat → va_E) (sz : Nat) (b : Stg) (ln tc : Int32) (co : Crs) (th bs en : Int32) (u : Int32 × Int32) (st kk dw ho : Int32) (sv : Crs) (pic ia tk : Int32) (hn : 68 ≤ n) (hM : F 56 = oModel ad b ln tc co th bs en u st kk dw ho sv pic ia tk) : Met l yX7_close (zw yX7_close cX7_close 1 none) (rmL 0) (zPc D cy n ad F sz [.ref (ad 56)]) (va_Qv (fun F1 => F1 = va_up F 56 (oModel ad b ln tc sv th bs en u st kk dw ho sv pic ia tk)) (zB D n ad) (zA n ad sz)) 0 0 (zA n ad sz) := by
  refine zmet (by decide +kernel) (Nat.le_of_ble_eq_true rfl) (fun p e s m args below meth c ls hC hsz hZ hA hr hlocks hnm hl => ?_)
  have hC : zC p m c cX7_close 1 s args RX7 D cy := hC
  have hx := hC.1.1
  have hb := hC.1.2.1
  have hl : lv_has ls 1 [(0, .ref (ad 56))] := hl
  refine lv_aload_n hx hb dX7_close_0 rfl (lv_at hl 0 rfl) ?_
  refine lv_aload_n hx hb dX7_close_1 rfl (lv_at hl 0 rfl) ?_
  refine zget hC hZ fX7_163 (zlt hn rfl) hM rfl dX7_close_2 ?_
  refine zput (E := oModel ad b ln tc (sv.1, co.2.1, co.2.2.1, co.2.2.2.1, co.2.2.2.2) th bs en u st kk dw ho sv pic ia tk) hC hZ pX7_148 (zlt hn rfl) hM rfl rfl rfl (Nat.le_of_ble_eq_true rfl) dX7_close_5 (fun F_1 hF_2 H locs hZ => ?_)
  have h_3 := zeq hF_2
  refine lv_aload_n hx hb dX7_close_8 rfl (lv_at hl 0 rfl) ?_
  refine lv_aload_n hx hb dX7_close_9 rfl (lv_at hl 0 rfl) ?_
  refine zget hC hZ fX7_166 (zlt hn rfl) h_3 rfl dX7_close_10 ?_
  refine zput (E := oModel ad b ln tc (sv.1, sv.2.1, co.2.2.1, co.2.2.2.1, co.2.2.2.2) th bs en u st kk dw ho sv pic ia tk) hC hZ pX7_154 (zlt hn rfl) h_3 rfl rfl rfl (Nat.le_of_ble_eq_true rfl) dX7_close_13 (fun F_4 hF_5 H locs hZ => ?_)
  have h_6 := zeq hF_5
  refine lv_aload_n hx hb dX7_close_16 rfl (lv_at hl 0 rfl) ?_
  refine lv_aload_n hx hb dX7_close_17 rfl (lv_at hl 0 rfl) ?_
  refine zget hC hZ fX7_169 (zlt hn rfl) h_6 rfl dX7_close_18 ?_
  refine zput (E := oModel ad b ln tc (sv.1, sv.2.1, sv.2.2.1, co.2.2.2.1, co.2.2.2.2) th bs en u st kk dw ho sv pic ia tk) hC hZ pX7_151 (zlt hn rfl) h_6 rfl rfl rfl (Nat.le_of_ble_eq_true rfl) dX7_close_21 (fun F_7 hF_8 H locs hZ => ?_)
  have h_9 := zeq hF_8
  refine lv_aload_n hx hb dX7_close_24 rfl (lv_at hl 0 rfl) ?_
  refine lv_aload_n hx hb dX7_close_25 rfl (lv_at hl 0 rfl) ?_
  refine zget hC hZ fX7_172 (zlt hn rfl) h_9 rfl dX7_close_26 ?_
  refine zput (E := oModel ad b ln tc (sv.1, sv.2.1, sv.2.2.1, sv.2.2.2.1, co.2.2.2.2) th bs en u st kk dw ho sv pic ia tk) hC hZ pX7_67 (zlt hn rfl) h_9 rfl rfl rfl (Nat.le_of_ble_eq_true rfl) dX7_close_29 (fun F_10 hF_11 H locs hZ => ?_)
  have h_12 := zeq hF_11
  refine lv_aload_n hx hb dX7_close_32 rfl (lv_at hl 0 rfl) ?_
  refine lv_aload_n hx hb dX7_close_33 rfl (lv_at hl 0 rfl) ?_
  refine zget hC hZ fX7_175 (zlt hn rfl) h_12 rfl dX7_close_34 ?_
  refine zput (E := oModel ad b ln tc sv th bs en u st kk dw ho sv pic ia tk) hC hZ pX7_160 (zlt hn rfl) h_12 rfl rfl rfl (Nat.le_of_ble_eq_true rfl) dX7_close_37 (fun F_13 hF_14 H locs hZ => ?_)
  have h_15 := zeq hF_14
  have hq_16 : F_13 = va_up F 56 (oModel ad b ln tc sv th bs en u st kk dw ho sv pic ia tk) := by
    rw [hF_14, hF_11, hF_8, hF_5, hF_2]; simp only [bx_uu]
  exact zvret hC hZ hr hlocks hq_16 dX7_close_40

theorem mX7_thrown : zMd yX7_thrown cX7_thrown 1 (some .int) 0 := ⟨by decide +kernel, gt_of 880 (by decide +kernel) rfl, gt_of 52 (by decide +kernel) rfl, by decide⟩
theorem dX7_thrown_0 : decode cX7_thrown 0 = .ok (.aload_n 0, 1) := by decide +kernel
theorem dX7_thrown_1 : decode cX7_thrown 1 = .ok (.getfield 57, 3) := by decide +kernel
theorem fX7_57 : zFld RX7 57 7 12 := ⟨RX7, TX7, 39, rfl, inX7, by decide, rfl, Or.inl (gt_of 770 (by decide +kernel) rfl)⟩
theorem dX7_thrown_4 : decode cX7_thrown 4 = .ok (.ireturn, 1) := by decide +kernel
set_option maxRecDepth 100000 in
theorem c_X7_thrown (l : Launch) (D : va_G) (cy : Nat → Nat) (n : Nat) (ad : Nat → Nat) (F : Nat → va_E) (sz : Nat) (b : Stg) (ln tc : Int32) (co : Crs) (th bs en : Int32) (u : Int32 × Int32) (st kk dw ho : Int32) (sv : Crs) (pic ia tk : Int32) (hn : 68 ≤ n) (hM : F 56 = oModel ad b ln tc co th bs en u st kk dw ho sv pic ia tk) : Met l yX7_thrown (zw yX7_thrown cX7_thrown 1 (some .int)) (rmL 0) (zPc D cy n ad F sz [.ref (ad 56)]) (va_Qi (fun r F1 => r = th ∧ F = F1) (zB D n ad) (zA n ad sz)) 0 0 (zA n ad sz) := by
  refine zmet (by decide +kernel) (Nat.le_of_ble_eq_true rfl) (fun p e s m args below meth c ls hC hsz hZ hA hr hlocks hnm hl => ?_)
  have hC : zC p m c cX7_thrown 1 s args RX7 D cy := hC
  have hx := hC.1.1
  have hb := hC.1.2.1
  have hl : lv_has ls 1 [(0, .ref (ad 56))] := hl
  refine lv_aload_n hx hb dX7_thrown_0 rfl (lv_at hl 0 rfl) ?_
  refine zget hC hZ fX7_57 (zlt hn rfl) hM rfl dX7_thrown_1 ?_
  have hq_1 : th = th := by rfl
  exact zireti hC hZ hr hlocks ⟨hq_1, rfl⟩ dX7_thrown_4

theorem mX7_tickOn : zMd yX7_tickOn cX7_tickOn 3 none 0 := ⟨by decide +kernel, gt_of 959 (by decide +kernel) rfl, gt_of 52 (by decide +kernel) rfl, by decide⟩
theorem dX7_tickOn_0 : decode cX7_tickOn 0 = .ok (.aload_n 0, 1) := by decide +kernel
theorem dX7_tickOn_1 : decode cX7_tickOn 1 = .ok (.dup, 1) := by decide +kernel
theorem dX7_tickOn_2 : decode cX7_tickOn 2 = .ok (.getfield 148, 3) := by decide +kernel
theorem dX7_tickOn_5 : decode cX7_tickOn 5 = .ok (.iconst 1, 1) := by decide +kernel
theorem dX7_tickOn_6 : decode cX7_tickOn 6 = .ok (.iadd, 1) := by decide +kernel
theorem dX7_tickOn_7 : decode cX7_tickOn 7 = .ok (.putfield 148, 3) := by decide +kernel
theorem dX7_tickOn_10 : decode cX7_tickOn 10 = .ok (.aload_n 0, 1) := by decide +kernel
theorem dX7_tickOn_11 : decode cX7_tickOn 11 = .ok (.getfield 67, 3) := by decide +kernel
theorem dX7_tickOn_14 : decode cX7_tickOn 14 = .ok (.aload_n 0, 1) := by decide +kernel
theorem dX7_tickOn_15 : decode cX7_tickOn 15 = .ok (.getfield 16, 3) := by decide +kernel
theorem fX7_16 : zFld RX7 16 7 3 := ⟨RX7, TX7, 39, rfl, inX7, by decide, rfl, Or.inl (gt_of 761 (by decide +kernel) rfl)⟩
theorem dX7_tickOn_18 : decode cX7_tickOn 18 = .ok (.if_icmp .ne 28, 3) := by decide +kernel
theorem dX7_tickOn_46 : decode cX7_tickOn 46 = .ok (.aload_n 0, 1) := by decide +kernel
theorem dX7_tickOn_47 : decode cX7_tickOn 47 = .ok (.getfield 154, 3) := by decide +kernel
theorem dX7_tickOn_50 : decode cX7_tickOn 50 = .ok (.aload_n 0, 1) := by decide +kernel
theorem dX7_tickOn_51 : decode cX7_tickOn 51 = .ok (.getfield 154, 3) := by decide +kernel
theorem dX7_tickOn_54 : decode cX7_tickOn 54 = .ok (.imul, 1) := by decide +kernel
theorem dX7_tickOn_55 : decode cX7_tickOn 55 = .ok (.aload_n 0, 1) := by decide +kernel
theorem dX7_tickOn_56 : decode cX7_tickOn 56 = .ok (.invokevirtual 157, 3) := by decide +kernel
theorem kX7_157 : zLk RX7 157 yX7_less := Or.inl (gt_of 960 (by decide +kernel) rfl)
theorem vX7_less : zMi yX7_less := ⟨gt_of 962 (by decide +kernel) rfl, gt_of 30 (by decide +kernel) rfl⟩
theorem dX7_tickOn_59 : decode cX7_tickOn 59 = .ok (.imul, 1) := by decide +kernel
theorem dX7_tickOn_60 : decode cX7_tickOn 60 = .ok (.sipush 10000, 3) := by decide +kernel
theorem dX7_tickOn_63 : decode cX7_tickOn 63 = .ok (.idiv, 1) := by decide +kernel
theorem dX7_tickOn_64 : decode cX7_tickOn 64 = .ok (.istore_n 1, 1) := by decide +kernel
theorem dX7_tickOn_65 : decode cX7_tickOn 65 = .ok (.aload_n 0, 1) := by decide +kernel
theorem dX7_tickOn_66 : decode cX7_tickOn 66 = .ok (.getfield 154, 3) := by decide +kernel
theorem dX7_tickOn_69 : decode cX7_tickOn 69 = .ok (.bipush 10, 2) := by decide +kernel
theorem dX7_tickOn_71 : decode cX7_tickOn 71 = .ok (.aload_n 0, 1) := by decide +kernel
theorem dX7_tickOn_72 : decode cX7_tickOn 72 = .ok (.getfield 19, 3) := by decide +kernel
theorem fX7_19 : zFld RX7 19 7 4 := ⟨RX7, TX7, 39, rfl, inX7, by decide, rfl, Or.inl (gt_of 762 (by decide +kernel) rfl)⟩
theorem dX7_tickOn_75 : decode cX7_tickOn 75 = .ok (.imul, 1) := by decide +kernel
theorem dX7_tickOn_76 : decode cX7_tickOn 76 = .ok (.iload_n 1, 1) := by decide +kernel
theorem dX7_tickOn_77 : decode cX7_tickOn 77 = .ok (.isub, 1) := by decide +kernel
theorem dX7_tickOn_78 : decode cX7_tickOn 78 = .ok (.bipush 20, 2) := by decide +kernel
theorem dX7_tickOn_80 : decode cX7_tickOn 80 = .ok (.idiv, 1) := by decide +kernel
theorem dX7_tickOn_81 : decode cX7_tickOn 81 = .ok (.iadd, 1) := by decide +kernel
theorem dX7_tickOn_82 : decode cX7_tickOn 82 = .ok (.istore_n 2, 1) := by decide +kernel
theorem dX7_tickOn_83 : decode cX7_tickOn 83 = .ok (.aload_n 0, 1) := by decide +kernel
theorem dX7_tickOn_84 : decode cX7_tickOn 84 = .ok (.iload_n 2, 1) := by decide +kernel
theorem dX7_tickOn_85 : decode cX7_tickOn 85 = .ok (.ifCond .ge 7, 3) := by decide +kernel
theorem dX7_tickOn_92 : decode cX7_tickOn 92 = .ok (.iload_n 2, 1) := by decide +kernel
theorem dX7_tickOn_93 : decode cX7_tickOn 93 = .ok (.sipush 3000, 3) := by decide +kernel
theorem dX7_tickOn_96 : decode cX7_tickOn 96 = .ok (.if_icmp .le 9, 3) := by decide +kernel
theorem dX7_tickOn_105 : decode cX7_tickOn 105 = .ok (.iload_n 2, 1) := by decide +kernel
theorem dX7_tickOn_106 : decode cX7_tickOn 106 = .ok (.putfield 154, 3) := by decide +kernel
theorem dX7_tickOn_109 : decode cX7_tickOn 109 = .ok (.aload_n 0, 1) := by decide +kernel
theorem dX7_tickOn_110 : decode cX7_tickOn 110 = .ok (.dup, 1) := by decide +kernel
theorem dX7_tickOn_111 : decode cX7_tickOn 111 = .ok (.getfield 151, 3) := by decide +kernel
theorem dX7_tickOn_114 : decode cX7_tickOn 114 = .ok (.aload_n 0, 1) := by decide +kernel
theorem dX7_tickOn_115 : decode cX7_tickOn 115 = .ok (.getfield 154, 3) := by decide +kernel
theorem dX7_tickOn_118 : decode cX7_tickOn 118 = .ok (.aload_n 0, 1) := by decide +kernel
theorem dX7_tickOn_119 : decode cX7_tickOn 119 = .ok (.getfield 154, 3) := by decide +kernel
theorem dX7_tickOn_122 : decode cX7_tickOn 122 = .ok (.imul, 1) := by decide +kernel
theorem dX7_tickOn_123 : decode cX7_tickOn 123 = .ok (.aload_n 0, 1) := by decide +kernel
theorem dX7_tickOn_124 : decode cX7_tickOn 124 = .ok (.getfield 125, 3) := by decide +kernel
theorem dX7_tickOn_127 : decode cX7_tickOn 127 = .ok (.imul, 1) := by decide +kernel
theorem dX7_tickOn_128 : decode cX7_tickOn 128 = .ok (.sipush 10000, 3) := by decide +kernel
theorem dX7_tickOn_131 : decode cX7_tickOn 131 = .ok (.idiv, 1) := by decide +kernel
theorem dX7_tickOn_132 : decode cX7_tickOn 132 = .ok (.aload_n 0, 1) := by decide +kernel
theorem dX7_tickOn_133 : decode cX7_tickOn 133 = .ok (.getfield 151, 3) := by decide +kernel
theorem dX7_tickOn_136 : decode cX7_tickOn 136 = .ok (.isub, 1) := by decide +kernel
theorem dX7_tickOn_137 : decode cX7_tickOn 137 = .ok (.iconst 4, 1) := by decide +kernel
theorem dX7_tickOn_138 : decode cX7_tickOn 138 = .ok (.idiv, 1) := by decide +kernel
theorem dX7_tickOn_139 : decode cX7_tickOn 139 = .ok (.iadd, 1) := by decide +kernel
theorem dX7_tickOn_140 : decode cX7_tickOn 140 = .ok (.putfield 151, 3) := by decide +kernel
theorem dX7_tickOn_143 : decode cX7_tickOn 143 = .ok (.aload_n 0, 1) := by decide +kernel
theorem dX7_tickOn_144 : decode cX7_tickOn 144 = .ok (.aload_n 0, 1) := by decide +kernel
theorem dX7_tickOn_145 : decode cX7_tickOn 145 = .ok (.getfield 151, 3) := by decide +kernel
theorem dX7_tickOn_148 : decode cX7_tickOn 148 = .ok (.aload_n 0, 1) := by decide +kernel
theorem dX7_tickOn_149 : decode cX7_tickOn 149 = .ok (.getfield 160, 3) := by decide +kernel
theorem dX7_tickOn_152 : decode cX7_tickOn 152 = .ok (.if_icmp .le 10, 3) := by decide +kernel
theorem dX7_tickOn_162 : decode cX7_tickOn 162 = .ok (.aload_n 0, 1) := by decide +kernel
theorem dX7_tickOn_163 : decode cX7_tickOn 163 = .ok (.getfield 160, 3) := by decide +kernel
theorem dX7_tickOn_166 : decode cX7_tickOn 166 = .ok (.putfield 160, 3) := by decide +kernel
theorem dX7_tickOn_169 : decode cX7_tickOn 169 = .ok (.aload_n 0, 1) := by decide +kernel
theorem dX7_tickOn_170 : decode cX7_tickOn 170 = .ok (.dup, 1) := by decide +kernel
theorem dX7_tickOn_171 : decode cX7_tickOn 171 = .ok (.getfield 67, 3) := by decide +kernel
theorem dX7_tickOn_174 : decode cX7_tickOn 174 = .ok (.aload_n 0, 1) := by decide +kernel
theorem dX7_tickOn_175 : decode cX7_tickOn 175 = .ok (.getfield 154, 3) := by decide +kernel
theorem dX7_tickOn_178 : decode cX7_tickOn 178 = .ok (.bipush 10, 2) := by decide +kernel
theorem dX7_tickOn_180 : decode cX7_tickOn 180 = .ok (.idiv, 1) := by decide +kernel
theorem dX7_tickOn_181 : decode cX7_tickOn 181 = .ok (.iadd, 1) := by decide +kernel
theorem dX7_tickOn_182 : decode cX7_tickOn 182 = .ok (.putfield 67, 3) := by decide +kernel
theorem dX7_tickOn_185 : decode cX7_tickOn 185 = .ok (.aload_n 0, 1) := by decide +kernel
theorem dX7_tickOn_186 : decode cX7_tickOn 186 = .ok (.aload_n 0, 1) := by decide +kernel
theorem dX7_tickOn_187 : decode cX7_tickOn 187 = .ok (.getfield 67, 3) := by decide +kernel
theorem dX7_tickOn_190 : decode cX7_tickOn 190 = .ok (.aload_n 0, 1) := by decide +kernel
theorem dX7_tickOn_191 : decode cX7_tickOn 191 = .ok (.getfield 16, 3) := by decide +kernel
theorem dX7_tickOn_194 : decode cX7_tickOn 194 = .ok (.if_icmp .le 10, 3) := by decide +kernel
theorem dX7_tickOn_204 : decode cX7_tickOn 204 = .ok (.aload_n 0, 1) := by decide +kernel
theorem dX7_tickOn_205 : decode cX7_tickOn 205 = .ok (.getfield 67, 3) := by decide +kernel
theorem dX7_tickOn_208 : decode cX7_tickOn 208 = .ok (.putfield 67, 3) := by decide +kernel
theorem dX7_tickOn_211 : decode cX7_tickOn 211 = .ok (.return_, 1) := by decide +kernel
theorem dX7_tickOn_197 : decode cX7_tickOn 197 = .ok (.aload_n 0, 1) := by decide +kernel
theorem dX7_tickOn_198 : decode cX7_tickOn 198 = .ok (.getfield 16, 3) := by decide +kernel
theorem dX7_tickOn_201 : decode cX7_tickOn 201 = .ok (.goto 7, 3) := by decide +kernel
theorem dX7_tickOn_155 : decode cX7_tickOn 155 = .ok (.aload_n 0, 1) := by decide +kernel
theorem dX7_tickOn_156 : decode cX7_tickOn 156 = .ok (.getfield 151, 3) := by decide +kernel
theorem dX7_tickOn_159 : decode cX7_tickOn 159 = .ok (.goto 7, 3) := by decide +kernel
theorem dX7_tickOn_99 : decode cX7_tickOn 99 = .ok (.sipush 3000, 3) := by decide +kernel
theorem dX7_tickOn_102 : decode cX7_tickOn 102 = .ok (.goto 4, 3) := by decide +kernel
theorem dX7_tickOn_88 : decode cX7_tickOn 88 = .ok (.iconst 0, 1) := by decide +kernel
theorem dX7_tickOn_89 : decode cX7_tickOn 89 = .ok (.goto 17, 3) := by decide +kernel
theorem dX7_tickOn_21 : decode cX7_tickOn 21 = .ok (.aload_n 0, 1) := by decide +kernel
theorem dX7_tickOn_22 : decode cX7_tickOn 22 = .ok (.aload_n 0, 1) := by decide +kernel
theorem dX7_tickOn_23 : decode cX7_tickOn 23 = .ok (.getfield 151, 3) := by decide +kernel
theorem dX7_tickOn_26 : decode cX7_tickOn 26 = .ok (.bipush 50, 2) := by decide +kernel
theorem dX7_tickOn_28 : decode cX7_tickOn 28 = .ok (.if_icmp .ge 7, 3) := by decide +kernel
theorem dX7_tickOn_35 : decode cX7_tickOn 35 = .ok (.aload_n 0, 1) := by decide +kernel
theorem dX7_tickOn_36 : decode cX7_tickOn 36 = .ok (.getfield 151, 3) := by decide +kernel
theorem dX7_tickOn_39 : decode cX7_tickOn 39 = .ok (.bipush 50, 2) := by decide +kernel
theorem dX7_tickOn_41 : decode cX7_tickOn 41 = .ok (.isub, 1) := by decide +kernel
theorem dX7_tickOn_42 : decode cX7_tickOn 42 = .ok (.putfield 151, 3) := by decide +kernel
theorem dX7_tickOn_45 : decode cX7_tickOn 45 = .ok (.return_, 1) := by decide +kernel
theorem dX7_tickOn_31 : decode cX7_tickOn 31 = .ok (.iconst 0, 1) := by decide +kernel
theorem dX7_tickOn_32 : decode cX7_tickOn 32 = .ok (.goto 10, 3) := by decide +kernel
set_option maxRecDepth 100000 in
theorem c_X7_tickOn (l : Launch) (D : va_G) (cy : Nat → Nat) (n : Nat) (ad : Nat → Nat) (F : Nat → va_E) (sz : Nat) (b : Stg) (ln tc : Int32) (co : Crs) (th bs en : Int32) (u : Int32 × Int32) (st kk dw ho : Int32) (sv : Crs) (pic ia tk : Int32) (hn : 68 ≤ n) (hM : F 56 = oModel ad b ln tc co th bs en u st kk dw ho sv pic ia tk) (hC0 : gC ln co) : Met l yX7_tickOn (zw yX7_tickOn cX7_tickOn 3 none) (rmL 1) (zPc D cy n ad F sz [.ref (ad 56)]) (va_Qv (fun F1 => F1 = va_up F 56 (oModel ad b ln tc (sStep kk (100 - kk - dw + ho) b.2.2.2 ln co) th bs en u st kk dw ho sv pic ia tk)) (zB D n ad) (zA n ad sz)) 0 0 (zA n ad sz) := by
  refine zmet (by decide +kernel) (Nat.le_of_ble_eq_true rfl) (fun p e s m args below meth c ls hC hsz hZ hA hr hlocks hnm hl => ?_)
  have hC : zC p m c cX7_tickOn 3 s args RX7 D cy := hC
  have hx := hC.1.1
  have hb := hC.1.2.1
  have hl : lv_has ls 3 [(0, .ref (ad 56))] := hl
  refine lv_aload_n hx hb dX7_tickOn_0 rfl (lv_at hl 0 rfl) ?_
  refine lv_dup hx hb dX7_tickOn_1 rfl ?_
  refine zget hC hZ fX7_148 (zlt hn rfl) hM rfl dX7_tickOn_2 ?_
  refine lv_iconst (v := 1) hx hb dX7_tickOn_5 (by decide) ?_
  refine lv_iadd hx hb dX7_tickOn_6 ?_
  refine zput (E := oModel ad b ln tc ((co.1 + 1), co.2.1, co.2.2.1, co.2.2.2.1, co.2.2.2.2) th bs en u st kk dw ho sv pic ia tk) hC hZ pX7_148 (zlt hn rfl) hM rfl rfl rfl (Nat.le_of_ble_eq_true rfl) dX7_tickOn_7 (fun F_1 hF_2 H locs hZ => ?_)
  have h_3 := zeq hF_2
  refine lv_aload_n hx hb dX7_tickOn_10 rfl (lv_at hl 0 rfl) ?_
  refine zget hC hZ fX7_67 (zlt hn rfl) h_3 rfl dX7_tickOn_11 ?_
  refine lv_aload_n hx hb dX7_tickOn_14 rfl (lv_at hl 0 rfl) ?_
  refine zget hC hZ fX7_16 (zlt hn rfl) h_3 rfl dX7_tickOn_15 ?_
  refine lv_icmp_ne (tgt := 46) hx hb dX7_tickOn_18 (by decide) (fun c_18 => ?_) (fun c_18 => ?_)
  · refine lv_aload_n hx hb dX7_tickOn_46 rfl (lv_at hl 0 rfl) ?_
    refine zget hC hZ fX7_154 (zlt hn rfl) h_3 rfl dX7_tickOn_47 ?_
    refine lv_aload_n hx hb dX7_tickOn_50 rfl (lv_at hl 0 rfl) ?_
    refine zget hC hZ fX7_154 (zlt hn rfl) h_3 rfl dX7_tickOn_51 ?_
    refine lv_imul hx hb dX7_tickOn_54 ?_
    refine lv_aload_n hx hb dX7_tickOn_55 rfl (lv_at hl 0 rfl) ?_
    refine zgoi hZ hA (zrunV (As := []) (rest := [.int (co.2.1 * co.2.1)]) (k := 56) hC hZ (c_X7_less l D cy n ad F_1 H.size b ln tc ((co.1 + 1), co.2.1, co.2.2.1, co.2.2.2.1, co.2.2.2.2) th bs en u st kk dw ho sv pic ia tk hn h_3) mX7_less vX7_less kX7_157 (zRj_of rfl) (zlt hn rfl) h_3 rfl rfl hl.1 rfl (Nat.le_of_ble_eq_true rfl) dX7_tickOn_56 ⟨Nat.le_refl _, Nat.le_refl _⟩) (fun r_5 F_4 hp_6 H locs hZ => ?_)
    obtain ⟨rfl, rfl⟩ := hp_6
    refine lv_imul hx hb dX7_tickOn_59 ?_
    refine lv_sipush (v := 10000) hx hb dX7_tickOn_60 (by decide) ?_
    refine lv_idiv hx hb dX7_tickOn_63 (by decide) ?_
    refine lv_istore_n (lv' := [(1, .int (((co.2.1 * co.2.1) * (100 - kk - dw + ho)) / 10000)), (0, .ref (ad 56))]) hx hb dX7_tickOn_64 rfl hl (by decide) rfl (fun ls hl => ?_)
    refine lv_aload_n hx hb dX7_tickOn_65 rfl (lv_at hl 1 rfl) ?_
    refine zget hC hZ fX7_154 (zlt hn rfl) h_3 rfl dX7_tickOn_66 ?_
    refine lv_bipush (v := 10) hx hb dX7_tickOn_69 (by decide) ?_
    refine lv_aload_n hx hb dX7_tickOn_71 rfl (lv_at hl 1 rfl) ?_
    refine zget hC hZ fX7_19 (zlt hn rfl) h_3 rfl dX7_tickOn_72 ?_
    refine lv_imul hx hb dX7_tickOn_75 ?_
    refine lv_iload_n hx hb dX7_tickOn_76 rfl (lv_at hl 0 rfl) ?_
    refine lv_isub hx hb dX7_tickOn_77 ?_
    refine lv_bipush (v := 20) hx hb dX7_tickOn_78 (by decide) ?_
    refine lv_idiv hx hb dX7_tickOn_80 (by decide) ?_
    refine lv_iadd hx hb dX7_tickOn_81 ?_
    refine lv_istore_n (lv' := [(2, .int (co.2.1 + (((10 * b.2.2.2) - (((co.2.1 * co.2.1) * (100 - kk - dw + ho)) / 10000)) / 20))), (1, .int (((co.2.1 * co.2.1) * (100 - kk - dw + ho)) / 10000)), (0, .ref (ad 56))]) hx hb dX7_tickOn_82 rfl hl (by decide) rfl (fun ls hl => ?_)
    refine lv_aload_n hx hb dX7_tickOn_83 rfl (lv_at hl 2 rfl) ?_
    refine lv_iload_n hx hb dX7_tickOn_84 rfl (lv_at hl 0 rfl) ?_
    refine lv_if_ge (tgt := 92) hx hb dX7_tickOn_85 (by decide) (fun c_85 => ?_) (fun c_85 => ?_)
    · refine lv_iload_n hx hb dX7_tickOn_92 rfl (lv_at hl 0 rfl) ?_
      refine lv_sipush (v := 3000) hx hb dX7_tickOn_93 (by decide) ?_
      refine lv_icmp_le (tgt := 105) hx hb dX7_tickOn_96 (by decide) (fun c_96 => ?_) (fun c_96 => ?_)
      · refine lv_iload_n hx hb dX7_tickOn_105 rfl (lv_at hl 0 rfl) ?_
        refine zput (E := oModel ad b ln tc ((co.1 + 1), (co.2.1 + (((10 * b.2.2.2) - (((co.2.1 * co.2.1) * (100 - kk - dw + ho)) / 10000)) / 20)), co.2.2.1, co.2.2.2.1, co.2.2.2.2) th bs en u st kk dw ho sv pic ia tk) hC hZ pX7_154 (zlt hn rfl) h_3 rfl rfl rfl (Nat.le_of_ble_eq_true rfl) dX7_tickOn_106 (fun F_7 hF_8 H locs hZ => ?_)
        have h_9 := zeq hF_8
        refine lv_aload_n hx hb dX7_tickOn_109 rfl (lv_at hl 2 rfl) ?_
        refine lv_dup hx hb dX7_tickOn_110 rfl ?_
        refine zget hC hZ fX7_151 (zlt hn rfl) h_9 rfl dX7_tickOn_111 ?_
        refine lv_aload_n hx hb dX7_tickOn_114 rfl (lv_at hl 2 rfl) ?_
        refine zget hC hZ fX7_154 (zlt hn rfl) h_9 rfl dX7_tickOn_115 ?_
        refine lv_aload_n hx hb dX7_tickOn_118 rfl (lv_at hl 2 rfl) ?_
        refine zget hC hZ fX7_154 (zlt hn rfl) h_9 rfl dX7_tickOn_119 ?_
        refine lv_imul hx hb dX7_tickOn_122 ?_
        refine lv_aload_n hx hb dX7_tickOn_123 rfl (lv_at hl 2 rfl) ?_
        refine zget hC hZ fX7_125 (zlt hn rfl) h_9 rfl dX7_tickOn_124 ?_
        refine lv_imul hx hb dX7_tickOn_127 ?_
        refine lv_sipush (v := 10000) hx hb dX7_tickOn_128 (by decide) ?_
        refine lv_idiv hx hb dX7_tickOn_131 (by decide) ?_
        refine lv_aload_n hx hb dX7_tickOn_132 rfl (lv_at hl 2 rfl) ?_
        refine zget hC hZ fX7_151 (zlt hn rfl) h_9 rfl dX7_tickOn_133 ?_
        refine lv_isub hx hb dX7_tickOn_136 ?_
        refine lv_iconst (v := 4) hx hb dX7_tickOn_137 (by decide) ?_
        refine lv_idiv hx hb dX7_tickOn_138 (by decide) ?_
        refine lv_iadd hx hb dX7_tickOn_139 ?_
        refine zput (E := oModel ad b ln tc ((co.1 + 1), (co.2.1 + (((10 * b.2.2.2) - (((co.2.1 * co.2.1) * (100 - kk - dw + ho)) / 10000)) / 20)), (co.2.2.1 + ((((((co.2.1 + (((10 * b.2.2.2) - (((co.2.1 * co.2.1) * (100 - kk - dw + ho)) / 10000)) / 20)) * (co.2.1 + (((10 * b.2.2.2) - (((co.2.1 * co.2.1) * (100 - kk - dw + ho)) / 10000)) / 20))) * kk) / 10000) - co.2.2.1) / 4)), co.2.2.2.1, co.2.2.2.2) th bs en u st kk dw ho sv pic ia tk) hC hZ pX7_151 (zlt hn rfl) h_9 rfl rfl rfl (Nat.le_of_ble_eq_true rfl) dX7_tickOn_140 (fun F_10 hF_11 H locs hZ => ?_)
        have h_12 := zeq hF_11
        refine lv_aload_n hx hb dX7_tickOn_143 rfl (lv_at hl 2 rfl) ?_
        refine lv_aload_n hx hb dX7_tickOn_144 rfl (lv_at hl 2 rfl) ?_
        refine zget hC hZ fX7_151 (zlt hn rfl) h_12 rfl dX7_tickOn_145 ?_
        refine lv_aload_n hx hb dX7_tickOn_148 rfl (lv_at hl 2 rfl) ?_
        refine zget hC hZ fX7_160 (zlt hn rfl) h_12 rfl dX7_tickOn_149 ?_
        refine lv_icmp_le (tgt := 162) hx hb dX7_tickOn_152 (by decide) (fun c_152 => ?_) (fun c_152 => ?_)
        · refine lv_aload_n hx hb dX7_tickOn_162 rfl (lv_at hl 2 rfl) ?_
          refine zget hC hZ fX7_160 (zlt hn rfl) h_12 rfl dX7_tickOn_163 ?_
          refine zput (E := oModel ad b ln tc ((co.1 + 1), (co.2.1 + (((10 * b.2.2.2) - (((co.2.1 * co.2.1) * (100 - kk - dw + ho)) / 10000)) / 20)), (co.2.2.1 + ((((((co.2.1 + (((10 * b.2.2.2) - (((co.2.1 * co.2.1) * (100 - kk - dw + ho)) / 10000)) / 20)) * (co.2.1 + (((10 * b.2.2.2) - (((co.2.1 * co.2.1) * (100 - kk - dw + ho)) / 10000)) / 20))) * kk) / 10000) - co.2.2.1) / 4)), co.2.2.2.1, co.2.2.2.2) th bs en u st kk dw ho sv pic ia tk) hC hZ pX7_160 (zlt hn rfl) h_12 rfl rfl rfl (Nat.le_of_ble_eq_true rfl) dX7_tickOn_166 (fun F_13 hF_14 H locs hZ => ?_)
          have h_15 := zeq hF_14
          refine lv_aload_n hx hb dX7_tickOn_169 rfl (lv_at hl 2 rfl) ?_
          refine lv_dup hx hb dX7_tickOn_170 rfl ?_
          refine zget hC hZ fX7_67 (zlt hn rfl) h_15 rfl dX7_tickOn_171 ?_
          refine lv_aload_n hx hb dX7_tickOn_174 rfl (lv_at hl 2 rfl) ?_
          refine zget hC hZ fX7_154 (zlt hn rfl) h_15 rfl dX7_tickOn_175 ?_
          refine lv_bipush (v := 10) hx hb dX7_tickOn_178 (by decide) ?_
          refine lv_idiv hx hb dX7_tickOn_180 (by decide) ?_
          refine lv_iadd hx hb dX7_tickOn_181 ?_
          refine zput (E := oModel ad b ln tc ((co.1 + 1), (co.2.1 + (((10 * b.2.2.2) - (((co.2.1 * co.2.1) * (100 - kk - dw + ho)) / 10000)) / 20)), (co.2.2.1 + ((((((co.2.1 + (((10 * b.2.2.2) - (((co.2.1 * co.2.1) * (100 - kk - dw + ho)) / 10000)) / 20)) * (co.2.1 + (((10 * b.2.2.2) - (((co.2.1 * co.2.1) * (100 - kk - dw + ho)) / 10000)) / 20))) * kk) / 10000) - co.2.2.1) / 4)), (co.2.2.2.1 + ((co.2.1 + (((10 * b.2.2.2) - (((co.2.1 * co.2.1) * (100 - kk - dw + ho)) / 10000)) / 20)) / 10)), co.2.2.2.2) th bs en u st kk dw ho sv pic ia tk) hC hZ pX7_67 (zlt hn rfl) h_15 rfl rfl rfl (Nat.le_of_ble_eq_true rfl) dX7_tickOn_182 (fun F_16 hF_17 H locs hZ => ?_)
          have h_18 := zeq hF_17
          refine lv_aload_n hx hb dX7_tickOn_185 rfl (lv_at hl 2 rfl) ?_
          refine lv_aload_n hx hb dX7_tickOn_186 rfl (lv_at hl 2 rfl) ?_
          refine zget hC hZ fX7_67 (zlt hn rfl) h_18 rfl dX7_tickOn_187 ?_
          refine lv_aload_n hx hb dX7_tickOn_190 rfl (lv_at hl 2 rfl) ?_
          refine zget hC hZ fX7_16 (zlt hn rfl) h_18 rfl dX7_tickOn_191 ?_
          refine lv_icmp_le (tgt := 204) hx hb dX7_tickOn_194 (by decide) (fun c_194 => ?_) (fun c_194 => ?_)
          · refine lv_aload_n hx hb dX7_tickOn_204 rfl (lv_at hl 2 rfl) ?_
            refine zget hC hZ fX7_67 (zlt hn rfl) h_18 rfl dX7_tickOn_205 ?_
            refine zput (E := oModel ad b ln tc ((co.1 + 1), (co.2.1 + (((10 * b.2.2.2) - (((co.2.1 * co.2.1) * (100 - kk - dw + ho)) / 10000)) / 20)), (co.2.2.1 + ((((((co.2.1 + (((10 * b.2.2.2) - (((co.2.1 * co.2.1) * (100 - kk - dw + ho)) / 10000)) / 20)) * (co.2.1 + (((10 * b.2.2.2) - (((co.2.1 * co.2.1) * (100 - kk - dw + ho)) / 10000)) / 20))) * kk) / 10000) - co.2.2.1) / 4)), (co.2.2.2.1 + ((co.2.1 + (((10 * b.2.2.2) - (((co.2.1 * co.2.1) * (100 - kk - dw + ho)) / 10000)) / 20)) / 10)), co.2.2.2.2) th bs en u st kk dw ho sv pic ia tk) hC hZ pX7_67 (zlt hn rfl) h_18 rfl rfl rfl (Nat.le_of_ble_eq_true rfl) dX7_tickOn_208 (fun F_19 hF_20 H locs hZ => ?_)
            have h_21 := zeq hF_20
            have c_18 : ¬ co.2.2.2.1 = ln := c_18
            have c_85 : 0 ≤ (co.2.1 + (((10 * b.2.2.2) - (((co.2.1 * co.2.1) * (100 - kk - dw + ho)) / 10000)) / 20)) := c_85
            have c_96 : (co.2.1 + (((10 * b.2.2.2) - (((co.2.1 * co.2.1) * (100 - kk - dw + ho)) / 10000)) / 20)) ≤ 3000 := c_96
            have c_152 : (co.2.2.1 + ((((((co.2.1 + (((10 * b.2.2.2) - (((co.2.1 * co.2.1) * (100 - kk - dw + ho)) / 10000)) / 20)) * (co.2.1 + (((10 * b.2.2.2) - (((co.2.1 * co.2.1) * (100 - kk - dw + ho)) / 10000)) / 20))) * kk) / 10000) - co.2.2.1) / 4)) ≤ co.2.2.2.2 := c_152
            have c_194 : (co.2.2.2.1 + ((co.2.1 + (((10 * b.2.2.2) - (((co.2.1 * co.2.1) * (100 - kk - dw + ho)) / 10000)) / 20)) / 10)) ≤ ln := c_194
            have hstep : (sStep kk (100 - kk - dw + ho) b.2.2.2 ln co) = ((co.1 + 1), (co.2.1 + (((10 * b.2.2.2) - (((co.2.1 * co.2.1) * (100 - kk - dw + ho)) / 10000)) / 20)), (co.2.2.1 + ((((((co.2.1 + (((10 * b.2.2.2) - (((co.2.1 * co.2.1) * (100 - kk - dw + ho)) / 10000)) / 20)) * (co.2.1 + (((10 * b.2.2.2) - (((co.2.1 * co.2.1) * (100 - kk - dw + ho)) / 10000)) / 20))) * kk) / 10000) - co.2.2.1) / 4)), (co.2.2.2.1 + ((co.2.1 + (((10 * b.2.2.2) - (((co.2.1 * co.2.1) * (100 - kk - dw + ho)) / 10000)) / 20)) / 10)), co.2.2.2.2) := by
              have hle : ¬ ln ≤ co.2.2.2.1 := fun h => c_18 (Int32.toInt_inj.mp (by have a := i32le.mp h; have b := hC0.2.2.2.2.2; omega))
              have hp : sPace (100 - kk - dw + ho) b.2.2.2 co = (co.2.1 + (((10 * b.2.2.2) - (((co.2.1 * co.2.1) * (100 - kk - dw + ho)) / 10000)) / 20)) := (mPace _).symm.trans ((if_neg (Int32.not_lt.mpr c_85)).trans (if_neg (Int32.not_lt.mpr c_96)))
              have hh : sMax co.2.2.2.2 (sArch kk co (co.2.1 + (((10 * b.2.2.2) - (((co.2.1 * co.2.1) * (100 - kk - dw + ho)) / 10000)) / 20))) = co.2.2.2.2 := if_neg (Int32.not_lt.mpr c_152)
              have ho9 : sMin ln (co.2.2.2.1 + (co.2.1 + (((10 * b.2.2.2) - (((co.2.1 * co.2.1) * (100 - kk - dw + ho)) / 10000)) / 20)) / 10) = (co.2.2.2.1 + ((co.2.1 + (((10 * b.2.2.2) - (((co.2.1 * co.2.1) * (100 - kk - dw + ho)) / 10000)) / 20)) / 10)) := (mOut _ _).symm.trans (if_neg (Int32.not_lt.mpr c_194))
              unfold sStep; rw [if_neg hle, hp, hh, ho9]; rfl
            have hq : F_19 = va_up F 56 (oModel ad b ln tc (sStep kk (100 - kk - dw + ho) b.2.2.2 ln co) th bs en u st kk dw ho sv pic ia tk) := by rw [hstep, hF_20, hF_17, hF_14, hF_11, hF_8, hF_2]; simp only [bx_uu]
            exact zvret hC hZ hr hlocks hq dX7_tickOn_211
          · refine lv_aload_n hx hb dX7_tickOn_197 rfl (lv_at hl 2 rfl) ?_
            refine zget hC hZ fX7_16 (zlt hn rfl) h_18 rfl dX7_tickOn_198 ?_
            refine lv_goto (tgt := 208) hx hb dX7_tickOn_201 (by decide) ?_
            refine zput (E := oModel ad b ln tc ((co.1 + 1), (co.2.1 + (((10 * b.2.2.2) - (((co.2.1 * co.2.1) * (100 - kk - dw + ho)) / 10000)) / 20)), (co.2.2.1 + ((((((co.2.1 + (((10 * b.2.2.2) - (((co.2.1 * co.2.1) * (100 - kk - dw + ho)) / 10000)) / 20)) * (co.2.1 + (((10 * b.2.2.2) - (((co.2.1 * co.2.1) * (100 - kk - dw + ho)) / 10000)) / 20))) * kk) / 10000) - co.2.2.1) / 4)), ln, co.2.2.2.2) th bs en u st kk dw ho sv pic ia tk) hC hZ pX7_67 (zlt hn rfl) h_18 rfl rfl rfl (Nat.le_of_ble_eq_true rfl) dX7_tickOn_208 (fun F_22 hF_23 H locs hZ => ?_)
            have h_24 := zeq hF_23
            have c_18 : ¬ co.2.2.2.1 = ln := c_18
            have c_85 : 0 ≤ (co.2.1 + (((10 * b.2.2.2) - (((co.2.1 * co.2.1) * (100 - kk - dw + ho)) / 10000)) / 20)) := c_85
            have c_96 : (co.2.1 + (((10 * b.2.2.2) - (((co.2.1 * co.2.1) * (100 - kk - dw + ho)) / 10000)) / 20)) ≤ 3000 := c_96
            have c_152 : (co.2.2.1 + ((((((co.2.1 + (((10 * b.2.2.2) - (((co.2.1 * co.2.1) * (100 - kk - dw + ho)) / 10000)) / 20)) * (co.2.1 + (((10 * b.2.2.2) - (((co.2.1 * co.2.1) * (100 - kk - dw + ho)) / 10000)) / 20))) * kk) / 10000) - co.2.2.1) / 4)) ≤ co.2.2.2.2 := c_152
            have c_194 : ¬ (co.2.2.2.1 + ((co.2.1 + (((10 * b.2.2.2) - (((co.2.1 * co.2.1) * (100 - kk - dw + ho)) / 10000)) / 20)) / 10)) ≤ ln := c_194
            have hstep : (sStep kk (100 - kk - dw + ho) b.2.2.2 ln co) = ((co.1 + 1), (co.2.1 + (((10 * b.2.2.2) - (((co.2.1 * co.2.1) * (100 - kk - dw + ho)) / 10000)) / 20)), (co.2.2.1 + ((((((co.2.1 + (((10 * b.2.2.2) - (((co.2.1 * co.2.1) * (100 - kk - dw + ho)) / 10000)) / 20)) * (co.2.1 + (((10 * b.2.2.2) - (((co.2.1 * co.2.1) * (100 - kk - dw + ho)) / 10000)) / 20))) * kk) / 10000) - co.2.2.1) / 4)), ln, co.2.2.2.2) := by
              have hle : ¬ ln ≤ co.2.2.2.1 := fun h => c_18 (Int32.toInt_inj.mp (by have a := i32le.mp h; have b := hC0.2.2.2.2.2; omega))
              have hp : sPace (100 - kk - dw + ho) b.2.2.2 co = (co.2.1 + (((10 * b.2.2.2) - (((co.2.1 * co.2.1) * (100 - kk - dw + ho)) / 10000)) / 20)) := (mPace _).symm.trans ((if_neg (Int32.not_lt.mpr c_85)).trans (if_neg (Int32.not_lt.mpr c_96)))
              have hh : sMax co.2.2.2.2 (sArch kk co (co.2.1 + (((10 * b.2.2.2) - (((co.2.1 * co.2.1) * (100 - kk - dw + ho)) / 10000)) / 20))) = co.2.2.2.2 := if_neg (Int32.not_lt.mpr c_152)
              have ho9 : sMin ln (co.2.2.2.1 + (co.2.1 + (((10 * b.2.2.2) - (((co.2.1 * co.2.1) * (100 - kk - dw + ho)) / 10000)) / 20)) / 10) = ln := (mOut _ _).symm.trans (if_pos (Int32.not_le.mp c_194))
              unfold sStep; rw [if_neg hle, hp, hh, ho9]; rfl
            have hq : F_22 = va_up F 56 (oModel ad b ln tc (sStep kk (100 - kk - dw + ho) b.2.2.2 ln co) th bs en u st kk dw ho sv pic ia tk) := by rw [hstep, hF_23, hF_17, hF_14, hF_11, hF_8, hF_2]; simp only [bx_uu]
            exact zvret hC hZ hr hlocks hq dX7_tickOn_211
        · refine lv_aload_n hx hb dX7_tickOn_155 rfl (lv_at hl 2 rfl) ?_
          refine zget hC hZ fX7_151 (zlt hn rfl) h_12 rfl dX7_tickOn_156 ?_
          refine lv_goto (tgt := 166) hx hb dX7_tickOn_159 (by decide) ?_
          refine zput (E := oModel ad b ln tc ((co.1 + 1), (co.2.1 + (((10 * b.2.2.2) - (((co.2.1 * co.2.1) * (100 - kk - dw + ho)) / 10000)) / 20)), (co.2.2.1 + ((((((co.2.1 + (((10 * b.2.2.2) - (((co.2.1 * co.2.1) * (100 - kk - dw + ho)) / 10000)) / 20)) * (co.2.1 + (((10 * b.2.2.2) - (((co.2.1 * co.2.1) * (100 - kk - dw + ho)) / 10000)) / 20))) * kk) / 10000) - co.2.2.1) / 4)), co.2.2.2.1, (co.2.2.1 + ((((((co.2.1 + (((10 * b.2.2.2) - (((co.2.1 * co.2.1) * (100 - kk - dw + ho)) / 10000)) / 20)) * (co.2.1 + (((10 * b.2.2.2) - (((co.2.1 * co.2.1) * (100 - kk - dw + ho)) / 10000)) / 20))) * kk) / 10000) - co.2.2.1) / 4))) th bs en u st kk dw ho sv pic ia tk) hC hZ pX7_160 (zlt hn rfl) h_12 rfl rfl rfl (Nat.le_of_ble_eq_true rfl) dX7_tickOn_166 (fun F_25 hF_26 H locs hZ => ?_)
          have h_27 := zeq hF_26
          refine lv_aload_n hx hb dX7_tickOn_169 rfl (lv_at hl 2 rfl) ?_
          refine lv_dup hx hb dX7_tickOn_170 rfl ?_
          refine zget hC hZ fX7_67 (zlt hn rfl) h_27 rfl dX7_tickOn_171 ?_
          refine lv_aload_n hx hb dX7_tickOn_174 rfl (lv_at hl 2 rfl) ?_
          refine zget hC hZ fX7_154 (zlt hn rfl) h_27 rfl dX7_tickOn_175 ?_
          refine lv_bipush (v := 10) hx hb dX7_tickOn_178 (by decide) ?_
          refine lv_idiv hx hb dX7_tickOn_180 (by decide) ?_
          refine lv_iadd hx hb dX7_tickOn_181 ?_
          refine zput (E := oModel ad b ln tc ((co.1 + 1), (co.2.1 + (((10 * b.2.2.2) - (((co.2.1 * co.2.1) * (100 - kk - dw + ho)) / 10000)) / 20)), (co.2.2.1 + ((((((co.2.1 + (((10 * b.2.2.2) - (((co.2.1 * co.2.1) * (100 - kk - dw + ho)) / 10000)) / 20)) * (co.2.1 + (((10 * b.2.2.2) - (((co.2.1 * co.2.1) * (100 - kk - dw + ho)) / 10000)) / 20))) * kk) / 10000) - co.2.2.1) / 4)), (co.2.2.2.1 + ((co.2.1 + (((10 * b.2.2.2) - (((co.2.1 * co.2.1) * (100 - kk - dw + ho)) / 10000)) / 20)) / 10)), (co.2.2.1 + ((((((co.2.1 + (((10 * b.2.2.2) - (((co.2.1 * co.2.1) * (100 - kk - dw + ho)) / 10000)) / 20)) * (co.2.1 + (((10 * b.2.2.2) - (((co.2.1 * co.2.1) * (100 - kk - dw + ho)) / 10000)) / 20))) * kk) / 10000) - co.2.2.1) / 4))) th bs en u st kk dw ho sv pic ia tk) hC hZ pX7_67 (zlt hn rfl) h_27 rfl rfl rfl (Nat.le_of_ble_eq_true rfl) dX7_tickOn_182 (fun F_28 hF_29 H locs hZ => ?_)
          have h_30 := zeq hF_29
          refine lv_aload_n hx hb dX7_tickOn_185 rfl (lv_at hl 2 rfl) ?_
          refine lv_aload_n hx hb dX7_tickOn_186 rfl (lv_at hl 2 rfl) ?_
          refine zget hC hZ fX7_67 (zlt hn rfl) h_30 rfl dX7_tickOn_187 ?_
          refine lv_aload_n hx hb dX7_tickOn_190 rfl (lv_at hl 2 rfl) ?_
          refine zget hC hZ fX7_16 (zlt hn rfl) h_30 rfl dX7_tickOn_191 ?_
          refine lv_icmp_le (tgt := 204) hx hb dX7_tickOn_194 (by decide) (fun c_194 => ?_) (fun c_194 => ?_)
          · refine lv_aload_n hx hb dX7_tickOn_204 rfl (lv_at hl 2 rfl) ?_
            refine zget hC hZ fX7_67 (zlt hn rfl) h_30 rfl dX7_tickOn_205 ?_
            refine zput (E := oModel ad b ln tc ((co.1 + 1), (co.2.1 + (((10 * b.2.2.2) - (((co.2.1 * co.2.1) * (100 - kk - dw + ho)) / 10000)) / 20)), (co.2.2.1 + ((((((co.2.1 + (((10 * b.2.2.2) - (((co.2.1 * co.2.1) * (100 - kk - dw + ho)) / 10000)) / 20)) * (co.2.1 + (((10 * b.2.2.2) - (((co.2.1 * co.2.1) * (100 - kk - dw + ho)) / 10000)) / 20))) * kk) / 10000) - co.2.2.1) / 4)), (co.2.2.2.1 + ((co.2.1 + (((10 * b.2.2.2) - (((co.2.1 * co.2.1) * (100 - kk - dw + ho)) / 10000)) / 20)) / 10)), (co.2.2.1 + ((((((co.2.1 + (((10 * b.2.2.2) - (((co.2.1 * co.2.1) * (100 - kk - dw + ho)) / 10000)) / 20)) * (co.2.1 + (((10 * b.2.2.2) - (((co.2.1 * co.2.1) * (100 - kk - dw + ho)) / 10000)) / 20))) * kk) / 10000) - co.2.2.1) / 4))) th bs en u st kk dw ho sv pic ia tk) hC hZ pX7_67 (zlt hn rfl) h_30 rfl rfl rfl (Nat.le_of_ble_eq_true rfl) dX7_tickOn_208 (fun F_31 hF_32 H locs hZ => ?_)
            have h_33 := zeq hF_32
            have c_18 : ¬ co.2.2.2.1 = ln := c_18
            have c_85 : 0 ≤ (co.2.1 + (((10 * b.2.2.2) - (((co.2.1 * co.2.1) * (100 - kk - dw + ho)) / 10000)) / 20)) := c_85
            have c_96 : (co.2.1 + (((10 * b.2.2.2) - (((co.2.1 * co.2.1) * (100 - kk - dw + ho)) / 10000)) / 20)) ≤ 3000 := c_96
            have c_152 : ¬ (co.2.2.1 + ((((((co.2.1 + (((10 * b.2.2.2) - (((co.2.1 * co.2.1) * (100 - kk - dw + ho)) / 10000)) / 20)) * (co.2.1 + (((10 * b.2.2.2) - (((co.2.1 * co.2.1) * (100 - kk - dw + ho)) / 10000)) / 20))) * kk) / 10000) - co.2.2.1) / 4)) ≤ co.2.2.2.2 := c_152
            have c_194 : (co.2.2.2.1 + ((co.2.1 + (((10 * b.2.2.2) - (((co.2.1 * co.2.1) * (100 - kk - dw + ho)) / 10000)) / 20)) / 10)) ≤ ln := c_194
            have hstep : (sStep kk (100 - kk - dw + ho) b.2.2.2 ln co) = ((co.1 + 1), (co.2.1 + (((10 * b.2.2.2) - (((co.2.1 * co.2.1) * (100 - kk - dw + ho)) / 10000)) / 20)), (co.2.2.1 + ((((((co.2.1 + (((10 * b.2.2.2) - (((co.2.1 * co.2.1) * (100 - kk - dw + ho)) / 10000)) / 20)) * (co.2.1 + (((10 * b.2.2.2) - (((co.2.1 * co.2.1) * (100 - kk - dw + ho)) / 10000)) / 20))) * kk) / 10000) - co.2.2.1) / 4)), (co.2.2.2.1 + ((co.2.1 + (((10 * b.2.2.2) - (((co.2.1 * co.2.1) * (100 - kk - dw + ho)) / 10000)) / 20)) / 10)), (co.2.2.1 + ((((((co.2.1 + (((10 * b.2.2.2) - (((co.2.1 * co.2.1) * (100 - kk - dw + ho)) / 10000)) / 20)) * (co.2.1 + (((10 * b.2.2.2) - (((co.2.1 * co.2.1) * (100 - kk - dw + ho)) / 10000)) / 20))) * kk) / 10000) - co.2.2.1) / 4))) := by
              have hle : ¬ ln ≤ co.2.2.2.1 := fun h => c_18 (Int32.toInt_inj.mp (by have a := i32le.mp h; have b := hC0.2.2.2.2.2; omega))
              have hp : sPace (100 - kk - dw + ho) b.2.2.2 co = (co.2.1 + (((10 * b.2.2.2) - (((co.2.1 * co.2.1) * (100 - kk - dw + ho)) / 10000)) / 20)) := (mPace _).symm.trans ((if_neg (Int32.not_lt.mpr c_85)).trans (if_neg (Int32.not_lt.mpr c_96)))
              have hh : sMax co.2.2.2.2 (sArch kk co (co.2.1 + (((10 * b.2.2.2) - (((co.2.1 * co.2.1) * (100 - kk - dw + ho)) / 10000)) / 20))) = (co.2.2.1 + ((((((co.2.1 + (((10 * b.2.2.2) - (((co.2.1 * co.2.1) * (100 - kk - dw + ho)) / 10000)) / 20)) * (co.2.1 + (((10 * b.2.2.2) - (((co.2.1 * co.2.1) * (100 - kk - dw + ho)) / 10000)) / 20))) * kk) / 10000) - co.2.2.1) / 4)) := if_pos (Int32.not_le.mp c_152)
              have ho9 : sMin ln (co.2.2.2.1 + (co.2.1 + (((10 * b.2.2.2) - (((co.2.1 * co.2.1) * (100 - kk - dw + ho)) / 10000)) / 20)) / 10) = (co.2.2.2.1 + ((co.2.1 + (((10 * b.2.2.2) - (((co.2.1 * co.2.1) * (100 - kk - dw + ho)) / 10000)) / 20)) / 10)) := (mOut _ _).symm.trans (if_neg (Int32.not_lt.mpr c_194))
              unfold sStep; rw [if_neg hle, hp, hh, ho9]; rfl
            have hq : F_31 = va_up F 56 (oModel ad b ln tc (sStep kk (100 - kk - dw + ho) b.2.2.2 ln co) th bs en u st kk dw ho sv pic ia tk) := by rw [hstep, hF_32, hF_29, hF_26, hF_11, hF_8, hF_2]; simp only [bx_uu]
            exact zvret hC hZ hr hlocks hq dX7_tickOn_211
          · refine lv_aload_n hx hb dX7_tickOn_197 rfl (lv_at hl 2 rfl) ?_
            refine zget hC hZ fX7_16 (zlt hn rfl) h_30 rfl dX7_tickOn_198 ?_
            refine lv_goto (tgt := 208) hx hb dX7_tickOn_201 (by decide) ?_
            refine zput (E := oModel ad b ln tc ((co.1 + 1), (co.2.1 + (((10 * b.2.2.2) - (((co.2.1 * co.2.1) * (100 - kk - dw + ho)) / 10000)) / 20)), (co.2.2.1 + ((((((co.2.1 + (((10 * b.2.2.2) - (((co.2.1 * co.2.1) * (100 - kk - dw + ho)) / 10000)) / 20)) * (co.2.1 + (((10 * b.2.2.2) - (((co.2.1 * co.2.1) * (100 - kk - dw + ho)) / 10000)) / 20))) * kk) / 10000) - co.2.2.1) / 4)), ln, (co.2.2.1 + ((((((co.2.1 + (((10 * b.2.2.2) - (((co.2.1 * co.2.1) * (100 - kk - dw + ho)) / 10000)) / 20)) * (co.2.1 + (((10 * b.2.2.2) - (((co.2.1 * co.2.1) * (100 - kk - dw + ho)) / 10000)) / 20))) * kk) / 10000) - co.2.2.1) / 4))) th bs en u st kk dw ho sv pic ia tk) hC hZ pX7_67 (zlt hn rfl) h_30 rfl rfl rfl (Nat.le_of_ble_eq_true rfl) dX7_tickOn_208 (fun F_34 hF_35 H locs hZ => ?_)
            have h_36 := zeq hF_35
            have c_18 : ¬ co.2.2.2.1 = ln := c_18
            have c_85 : 0 ≤ (co.2.1 + (((10 * b.2.2.2) - (((co.2.1 * co.2.1) * (100 - kk - dw + ho)) / 10000)) / 20)) := c_85
            have c_96 : (co.2.1 + (((10 * b.2.2.2) - (((co.2.1 * co.2.1) * (100 - kk - dw + ho)) / 10000)) / 20)) ≤ 3000 := c_96
            have c_152 : ¬ (co.2.2.1 + ((((((co.2.1 + (((10 * b.2.2.2) - (((co.2.1 * co.2.1) * (100 - kk - dw + ho)) / 10000)) / 20)) * (co.2.1 + (((10 * b.2.2.2) - (((co.2.1 * co.2.1) * (100 - kk - dw + ho)) / 10000)) / 20))) * kk) / 10000) - co.2.2.1) / 4)) ≤ co.2.2.2.2 := c_152
            have c_194 : ¬ (co.2.2.2.1 + ((co.2.1 + (((10 * b.2.2.2) - (((co.2.1 * co.2.1) * (100 - kk - dw + ho)) / 10000)) / 20)) / 10)) ≤ ln := c_194
            have hstep : (sStep kk (100 - kk - dw + ho) b.2.2.2 ln co) = ((co.1 + 1), (co.2.1 + (((10 * b.2.2.2) - (((co.2.1 * co.2.1) * (100 - kk - dw + ho)) / 10000)) / 20)), (co.2.2.1 + ((((((co.2.1 + (((10 * b.2.2.2) - (((co.2.1 * co.2.1) * (100 - kk - dw + ho)) / 10000)) / 20)) * (co.2.1 + (((10 * b.2.2.2) - (((co.2.1 * co.2.1) * (100 - kk - dw + ho)) / 10000)) / 20))) * kk) / 10000) - co.2.2.1) / 4)), ln, (co.2.2.1 + ((((((co.2.1 + (((10 * b.2.2.2) - (((co.2.1 * co.2.1) * (100 - kk - dw + ho)) / 10000)) / 20)) * (co.2.1 + (((10 * b.2.2.2) - (((co.2.1 * co.2.1) * (100 - kk - dw + ho)) / 10000)) / 20))) * kk) / 10000) - co.2.2.1) / 4))) := by
              have hle : ¬ ln ≤ co.2.2.2.1 := fun h => c_18 (Int32.toInt_inj.mp (by have a := i32le.mp h; have b := hC0.2.2.2.2.2; omega))
              have hp : sPace (100 - kk - dw + ho) b.2.2.2 co = (co.2.1 + (((10 * b.2.2.2) - (((co.2.1 * co.2.1) * (100 - kk - dw + ho)) / 10000)) / 20)) := (mPace _).symm.trans ((if_neg (Int32.not_lt.mpr c_85)).trans (if_neg (Int32.not_lt.mpr c_96)))
              have hh : sMax co.2.2.2.2 (sArch kk co (co.2.1 + (((10 * b.2.2.2) - (((co.2.1 * co.2.1) * (100 - kk - dw + ho)) / 10000)) / 20))) = (co.2.2.1 + ((((((co.2.1 + (((10 * b.2.2.2) - (((co.2.1 * co.2.1) * (100 - kk - dw + ho)) / 10000)) / 20)) * (co.2.1 + (((10 * b.2.2.2) - (((co.2.1 * co.2.1) * (100 - kk - dw + ho)) / 10000)) / 20))) * kk) / 10000) - co.2.2.1) / 4)) := if_pos (Int32.not_le.mp c_152)
              have ho9 : sMin ln (co.2.2.2.1 + (co.2.1 + (((10 * b.2.2.2) - (((co.2.1 * co.2.1) * (100 - kk - dw + ho)) / 10000)) / 20)) / 10) = ln := (mOut _ _).symm.trans (if_pos (Int32.not_le.mp c_194))
              unfold sStep; rw [if_neg hle, hp, hh, ho9]; rfl
            have hq : F_34 = va_up F 56 (oModel ad b ln tc (sStep kk (100 - kk - dw + ho) b.2.2.2 ln co) th bs en u st kk dw ho sv pic ia tk) := by rw [hstep, hF_35, hF_29, hF_26, hF_11, hF_8, hF_2]; simp only [bx_uu]
            exact zvret hC hZ hr hlocks hq dX7_tickOn_211
      · refine lv_sipush (v := 3000) hx hb dX7_tickOn_99 (by decide) ?_
        refine lv_goto (tgt := 106) hx hb dX7_tickOn_102 (by decide) ?_
        refine zput (E := oModel ad b ln tc ((co.1 + 1), 3000, co.2.2.1, co.2.2.2.1, co.2.2.2.2) th bs en u st kk dw ho sv pic ia tk) hC hZ pX7_154 (zlt hn rfl) h_3 rfl rfl rfl (Nat.le_of_ble_eq_true rfl) dX7_tickOn_106 (fun F_37 hF_38 H locs hZ => ?_)
        have h_39 := zeq hF_38
        refine lv_aload_n hx hb dX7_tickOn_109 rfl (lv_at hl 2 rfl) ?_
        refine lv_dup hx hb dX7_tickOn_110 rfl ?_
        refine zget hC hZ fX7_151 (zlt hn rfl) h_39 rfl dX7_tickOn_111 ?_
        refine lv_aload_n hx hb dX7_tickOn_114 rfl (lv_at hl 2 rfl) ?_
        refine zget hC hZ fX7_154 (zlt hn rfl) h_39 rfl dX7_tickOn_115 ?_
        refine lv_aload_n hx hb dX7_tickOn_118 rfl (lv_at hl 2 rfl) ?_
        refine zget hC hZ fX7_154 (zlt hn rfl) h_39 rfl dX7_tickOn_119 ?_
        refine lv_imul hx hb dX7_tickOn_122 ?_
        refine lv_aload_n hx hb dX7_tickOn_123 rfl (lv_at hl 2 rfl) ?_
        refine zget hC hZ fX7_125 (zlt hn rfl) h_39 rfl dX7_tickOn_124 ?_
        refine lv_imul hx hb dX7_tickOn_127 ?_
        refine lv_sipush (v := 10000) hx hb dX7_tickOn_128 (by decide) ?_
        refine lv_idiv hx hb dX7_tickOn_131 (by decide) ?_
        refine lv_aload_n hx hb dX7_tickOn_132 rfl (lv_at hl 2 rfl) ?_
        refine zget hC hZ fX7_151 (zlt hn rfl) h_39 rfl dX7_tickOn_133 ?_
        refine lv_isub hx hb dX7_tickOn_136 ?_
        refine lv_iconst (v := 4) hx hb dX7_tickOn_137 (by decide) ?_
        refine lv_idiv hx hb dX7_tickOn_138 (by decide) ?_
        refine lv_iadd hx hb dX7_tickOn_139 ?_
        refine zput (E := oModel ad b ln tc ((co.1 + 1), 3000, (co.2.2.1 + (((((3000 * 3000) * kk) / 10000) - co.2.2.1) / 4)), co.2.2.2.1, co.2.2.2.2) th bs en u st kk dw ho sv pic ia tk) hC hZ pX7_151 (zlt hn rfl) h_39 rfl rfl rfl (Nat.le_of_ble_eq_true rfl) dX7_tickOn_140 (fun F_40 hF_41 H locs hZ => ?_)
        have h_42 := zeq hF_41
        refine lv_aload_n hx hb dX7_tickOn_143 rfl (lv_at hl 2 rfl) ?_
        refine lv_aload_n hx hb dX7_tickOn_144 rfl (lv_at hl 2 rfl) ?_
        refine zget hC hZ fX7_151 (zlt hn rfl) h_42 rfl dX7_tickOn_145 ?_
        refine lv_aload_n hx hb dX7_tickOn_148 rfl (lv_at hl 2 rfl) ?_
        refine zget hC hZ fX7_160 (zlt hn rfl) h_42 rfl dX7_tickOn_149 ?_
        refine lv_icmp_le (tgt := 162) hx hb dX7_tickOn_152 (by decide) (fun c_152 => ?_) (fun c_152 => ?_)
        · refine lv_aload_n hx hb dX7_tickOn_162 rfl (lv_at hl 2 rfl) ?_
          refine zget hC hZ fX7_160 (zlt hn rfl) h_42 rfl dX7_tickOn_163 ?_
          refine zput (E := oModel ad b ln tc ((co.1 + 1), 3000, (co.2.2.1 + (((((3000 * 3000) * kk) / 10000) - co.2.2.1) / 4)), co.2.2.2.1, co.2.2.2.2) th bs en u st kk dw ho sv pic ia tk) hC hZ pX7_160 (zlt hn rfl) h_42 rfl rfl rfl (Nat.le_of_ble_eq_true rfl) dX7_tickOn_166 (fun F_43 hF_44 H locs hZ => ?_)
          have h_45 := zeq hF_44
          refine lv_aload_n hx hb dX7_tickOn_169 rfl (lv_at hl 2 rfl) ?_
          refine lv_dup hx hb dX7_tickOn_170 rfl ?_
          refine zget hC hZ fX7_67 (zlt hn rfl) h_45 rfl dX7_tickOn_171 ?_
          refine lv_aload_n hx hb dX7_tickOn_174 rfl (lv_at hl 2 rfl) ?_
          refine zget hC hZ fX7_154 (zlt hn rfl) h_45 rfl dX7_tickOn_175 ?_
          refine lv_bipush (v := 10) hx hb dX7_tickOn_178 (by decide) ?_
          refine lv_idiv hx hb dX7_tickOn_180 (by decide) ?_
          refine lv_iadd hx hb dX7_tickOn_181 ?_
          refine zput (E := oModel ad b ln tc ((co.1 + 1), 3000, (co.2.2.1 + (((((3000 * 3000) * kk) / 10000) - co.2.2.1) / 4)), (co.2.2.2.1 + (3000 / 10)), co.2.2.2.2) th bs en u st kk dw ho sv pic ia tk) hC hZ pX7_67 (zlt hn rfl) h_45 rfl rfl rfl (Nat.le_of_ble_eq_true rfl) dX7_tickOn_182 (fun F_46 hF_47 H locs hZ => ?_)
          have h_48 := zeq hF_47
          refine lv_aload_n hx hb dX7_tickOn_185 rfl (lv_at hl 2 rfl) ?_
          refine lv_aload_n hx hb dX7_tickOn_186 rfl (lv_at hl 2 rfl) ?_
          refine zget hC hZ fX7_67 (zlt hn rfl) h_48 rfl dX7_tickOn_187 ?_
          refine lv_aload_n hx hb dX7_tickOn_190 rfl (lv_at hl 2 rfl) ?_
          refine zget hC hZ fX7_16 (zlt hn rfl) h_48 rfl dX7_tickOn_191 ?_
          refine lv_icmp_le (tgt := 204) hx hb dX7_tickOn_194 (by decide) (fun c_194 => ?_) (fun c_194 => ?_)
          · refine lv_aload_n hx hb dX7_tickOn_204 rfl (lv_at hl 2 rfl) ?_
            refine zget hC hZ fX7_67 (zlt hn rfl) h_48 rfl dX7_tickOn_205 ?_
            refine zput (E := oModel ad b ln tc ((co.1 + 1), 3000, (co.2.2.1 + (((((3000 * 3000) * kk) / 10000) - co.2.2.1) / 4)), (co.2.2.2.1 + (3000 / 10)), co.2.2.2.2) th bs en u st kk dw ho sv pic ia tk) hC hZ pX7_67 (zlt hn rfl) h_48 rfl rfl rfl (Nat.le_of_ble_eq_true rfl) dX7_tickOn_208 (fun F_49 hF_50 H locs hZ => ?_)
            have h_51 := zeq hF_50
            have c_18 : ¬ co.2.2.2.1 = ln := c_18
            have c_85 : 0 ≤ (co.2.1 + (((10 * b.2.2.2) - (((co.2.1 * co.2.1) * (100 - kk - dw + ho)) / 10000)) / 20)) := c_85
            have c_96 : ¬ (co.2.1 + (((10 * b.2.2.2) - (((co.2.1 * co.2.1) * (100 - kk - dw + ho)) / 10000)) / 20)) ≤ 3000 := c_96
            have c_152 : (co.2.2.1 + (((((3000 * 3000) * kk) / 10000) - co.2.2.1) / 4)) ≤ co.2.2.2.2 := c_152
            have c_194 : (co.2.2.2.1 + (3000 / 10)) ≤ ln := c_194
            have hstep : (sStep kk (100 - kk - dw + ho) b.2.2.2 ln co) = ((co.1 + 1), 3000, (co.2.2.1 + (((((3000 * 3000) * kk) / 10000) - co.2.2.1) / 4)), (co.2.2.2.1 + (3000 / 10)), co.2.2.2.2) := by
              have hle : ¬ ln ≤ co.2.2.2.1 := fun h => c_18 (Int32.toInt_inj.mp (by have a := i32le.mp h; have b := hC0.2.2.2.2.2; omega))
              have hp : sPace (100 - kk - dw + ho) b.2.2.2 co = 3000 := (mPace _).symm.trans ((if_neg (Int32.not_lt.mpr c_85)).trans (if_pos (Int32.not_le.mp c_96)))
              have hh : sMax co.2.2.2.2 (sArch kk co 3000) = co.2.2.2.2 := if_neg (Int32.not_lt.mpr c_152)
              have ho9 : sMin ln (co.2.2.2.1 + 3000 / 10) = (co.2.2.2.1 + (3000 / 10)) := (mOut _ _).symm.trans (if_neg (Int32.not_lt.mpr c_194))
              unfold sStep; rw [if_neg hle, hp, hh, ho9]; rfl
            have hq : F_49 = va_up F 56 (oModel ad b ln tc (sStep kk (100 - kk - dw + ho) b.2.2.2 ln co) th bs en u st kk dw ho sv pic ia tk) := by rw [hstep, hF_50, hF_47, hF_44, hF_41, hF_38, hF_2]; simp only [bx_uu]
            exact zvret hC hZ hr hlocks hq dX7_tickOn_211
          · refine lv_aload_n hx hb dX7_tickOn_197 rfl (lv_at hl 2 rfl) ?_
            refine zget hC hZ fX7_16 (zlt hn rfl) h_48 rfl dX7_tickOn_198 ?_
            refine lv_goto (tgt := 208) hx hb dX7_tickOn_201 (by decide) ?_
            refine zput (E := oModel ad b ln tc ((co.1 + 1), 3000, (co.2.2.1 + (((((3000 * 3000) * kk) / 10000) - co.2.2.1) / 4)), ln, co.2.2.2.2) th bs en u st kk dw ho sv pic ia tk) hC hZ pX7_67 (zlt hn rfl) h_48 rfl rfl rfl (Nat.le_of_ble_eq_true rfl) dX7_tickOn_208 (fun F_52 hF_53 H locs hZ => ?_)
            have h_54 := zeq hF_53
            have c_18 : ¬ co.2.2.2.1 = ln := c_18
            have c_85 : 0 ≤ (co.2.1 + (((10 * b.2.2.2) - (((co.2.1 * co.2.1) * (100 - kk - dw + ho)) / 10000)) / 20)) := c_85
            have c_96 : ¬ (co.2.1 + (((10 * b.2.2.2) - (((co.2.1 * co.2.1) * (100 - kk - dw + ho)) / 10000)) / 20)) ≤ 3000 := c_96
            have c_152 : (co.2.2.1 + (((((3000 * 3000) * kk) / 10000) - co.2.2.1) / 4)) ≤ co.2.2.2.2 := c_152
            have c_194 : ¬ (co.2.2.2.1 + (3000 / 10)) ≤ ln := c_194
            have hstep : (sStep kk (100 - kk - dw + ho) b.2.2.2 ln co) = ((co.1 + 1), 3000, (co.2.2.1 + (((((3000 * 3000) * kk) / 10000) - co.2.2.1) / 4)), ln, co.2.2.2.2) := by
              have hle : ¬ ln ≤ co.2.2.2.1 := fun h => c_18 (Int32.toInt_inj.mp (by have a := i32le.mp h; have b := hC0.2.2.2.2.2; omega))
              have hp : sPace (100 - kk - dw + ho) b.2.2.2 co = 3000 := (mPace _).symm.trans ((if_neg (Int32.not_lt.mpr c_85)).trans (if_pos (Int32.not_le.mp c_96)))
              have hh : sMax co.2.2.2.2 (sArch kk co 3000) = co.2.2.2.2 := if_neg (Int32.not_lt.mpr c_152)
              have ho9 : sMin ln (co.2.2.2.1 + 3000 / 10) = ln := (mOut _ _).symm.trans (if_pos (Int32.not_le.mp c_194))
              unfold sStep; rw [if_neg hle, hp, hh, ho9]; rfl
            have hq : F_52 = va_up F 56 (oModel ad b ln tc (sStep kk (100 - kk - dw + ho) b.2.2.2 ln co) th bs en u st kk dw ho sv pic ia tk) := by rw [hstep, hF_53, hF_47, hF_44, hF_41, hF_38, hF_2]; simp only [bx_uu]
            exact zvret hC hZ hr hlocks hq dX7_tickOn_211
        · refine lv_aload_n hx hb dX7_tickOn_155 rfl (lv_at hl 2 rfl) ?_
          refine zget hC hZ fX7_151 (zlt hn rfl) h_42 rfl dX7_tickOn_156 ?_
          refine lv_goto (tgt := 166) hx hb dX7_tickOn_159 (by decide) ?_
          refine zput (E := oModel ad b ln tc ((co.1 + 1), 3000, (co.2.2.1 + (((((3000 * 3000) * kk) / 10000) - co.2.2.1) / 4)), co.2.2.2.1, (co.2.2.1 + (((((3000 * 3000) * kk) / 10000) - co.2.2.1) / 4))) th bs en u st kk dw ho sv pic ia tk) hC hZ pX7_160 (zlt hn rfl) h_42 rfl rfl rfl (Nat.le_of_ble_eq_true rfl) dX7_tickOn_166 (fun F_55 hF_56 H locs hZ => ?_)
          have h_57 := zeq hF_56
          refine lv_aload_n hx hb dX7_tickOn_169 rfl (lv_at hl 2 rfl) ?_
          refine lv_dup hx hb dX7_tickOn_170 rfl ?_
          refine zget hC hZ fX7_67 (zlt hn rfl) h_57 rfl dX7_tickOn_171 ?_
          refine lv_aload_n hx hb dX7_tickOn_174 rfl (lv_at hl 2 rfl) ?_
          refine zget hC hZ fX7_154 (zlt hn rfl) h_57 rfl dX7_tickOn_175 ?_
          refine lv_bipush (v := 10) hx hb dX7_tickOn_178 (by decide) ?_
          refine lv_idiv hx hb dX7_tickOn_180 (by decide) ?_
          refine lv_iadd hx hb dX7_tickOn_181 ?_
          refine zput (E := oModel ad b ln tc ((co.1 + 1), 3000, (co.2.2.1 + (((((3000 * 3000) * kk) / 10000) - co.2.2.1) / 4)), (co.2.2.2.1 + (3000 / 10)), (co.2.2.1 + (((((3000 * 3000) * kk) / 10000) - co.2.2.1) / 4))) th bs en u st kk dw ho sv pic ia tk) hC hZ pX7_67 (zlt hn rfl) h_57 rfl rfl rfl (Nat.le_of_ble_eq_true rfl) dX7_tickOn_182 (fun F_58 hF_59 H locs hZ => ?_)
          have h_60 := zeq hF_59
          refine lv_aload_n hx hb dX7_tickOn_185 rfl (lv_at hl 2 rfl) ?_
          refine lv_aload_n hx hb dX7_tickOn_186 rfl (lv_at hl 2 rfl) ?_
          refine zget hC hZ fX7_67 (zlt hn rfl) h_60 rfl dX7_tickOn_187 ?_
          refine lv_aload_n hx hb dX7_tickOn_190 rfl (lv_at hl 2 rfl) ?_
          refine zget hC hZ fX7_16 (zlt hn rfl) h_60 rfl dX7_tickOn_191 ?_
          refine lv_icmp_le (tgt := 204) hx hb dX7_tickOn_194 (by decide) (fun c_194 => ?_) (fun c_194 => ?_)
          · refine lv_aload_n hx hb dX7_tickOn_204 rfl (lv_at hl 2 rfl) ?_
            refine zget hC hZ fX7_67 (zlt hn rfl) h_60 rfl dX7_tickOn_205 ?_
            refine zput (E := oModel ad b ln tc ((co.1 + 1), 3000, (co.2.2.1 + (((((3000 * 3000) * kk) / 10000) - co.2.2.1) / 4)), (co.2.2.2.1 + (3000 / 10)), (co.2.2.1 + (((((3000 * 3000) * kk) / 10000) - co.2.2.1) / 4))) th bs en u st kk dw ho sv pic ia tk) hC hZ pX7_67 (zlt hn rfl) h_60 rfl rfl rfl (Nat.le_of_ble_eq_true rfl) dX7_tickOn_208 (fun F_61 hF_62 H locs hZ => ?_)
            have h_63 := zeq hF_62
            have c_18 : ¬ co.2.2.2.1 = ln := c_18
            have c_85 : 0 ≤ (co.2.1 + (((10 * b.2.2.2) - (((co.2.1 * co.2.1) * (100 - kk - dw + ho)) / 10000)) / 20)) := c_85
            have c_96 : ¬ (co.2.1 + (((10 * b.2.2.2) - (((co.2.1 * co.2.1) * (100 - kk - dw + ho)) / 10000)) / 20)) ≤ 3000 := c_96
            have c_152 : ¬ (co.2.2.1 + (((((3000 * 3000) * kk) / 10000) - co.2.2.1) / 4)) ≤ co.2.2.2.2 := c_152
            have c_194 : (co.2.2.2.1 + (3000 / 10)) ≤ ln := c_194
            have hstep : (sStep kk (100 - kk - dw + ho) b.2.2.2 ln co) = ((co.1 + 1), 3000, (co.2.2.1 + (((((3000 * 3000) * kk) / 10000) - co.2.2.1) / 4)), (co.2.2.2.1 + (3000 / 10)), (co.2.2.1 + (((((3000 * 3000) * kk) / 10000) - co.2.2.1) / 4))) := by
              have hle : ¬ ln ≤ co.2.2.2.1 := fun h => c_18 (Int32.toInt_inj.mp (by have a := i32le.mp h; have b := hC0.2.2.2.2.2; omega))
              have hp : sPace (100 - kk - dw + ho) b.2.2.2 co = 3000 := (mPace _).symm.trans ((if_neg (Int32.not_lt.mpr c_85)).trans (if_pos (Int32.not_le.mp c_96)))
              have hh : sMax co.2.2.2.2 (sArch kk co 3000) = (co.2.2.1 + (((((3000 * 3000) * kk) / 10000) - co.2.2.1) / 4)) := if_pos (Int32.not_le.mp c_152)
              have ho9 : sMin ln (co.2.2.2.1 + 3000 / 10) = (co.2.2.2.1 + (3000 / 10)) := (mOut _ _).symm.trans (if_neg (Int32.not_lt.mpr c_194))
              unfold sStep; rw [if_neg hle, hp, hh, ho9]; rfl
            have hq : F_61 = va_up F 56 (oModel ad b ln tc (sStep kk (100 - kk - dw + ho) b.2.2.2 ln co) th bs en u st kk dw ho sv pic ia tk) := by rw [hstep, hF_62, hF_59, hF_56, hF_41, hF_38, hF_2]; simp only [bx_uu]
            exact zvret hC hZ hr hlocks hq dX7_tickOn_211
          · refine lv_aload_n hx hb dX7_tickOn_197 rfl (lv_at hl 2 rfl) ?_
            refine zget hC hZ fX7_16 (zlt hn rfl) h_60 rfl dX7_tickOn_198 ?_
            refine lv_goto (tgt := 208) hx hb dX7_tickOn_201 (by decide) ?_
            refine zput (E := oModel ad b ln tc ((co.1 + 1), 3000, (co.2.2.1 + (((((3000 * 3000) * kk) / 10000) - co.2.2.1) / 4)), ln, (co.2.2.1 + (((((3000 * 3000) * kk) / 10000) - co.2.2.1) / 4))) th bs en u st kk dw ho sv pic ia tk) hC hZ pX7_67 (zlt hn rfl) h_60 rfl rfl rfl (Nat.le_of_ble_eq_true rfl) dX7_tickOn_208 (fun F_64 hF_65 H locs hZ => ?_)
            have h_66 := zeq hF_65
            have c_18 : ¬ co.2.2.2.1 = ln := c_18
            have c_85 : 0 ≤ (co.2.1 + (((10 * b.2.2.2) - (((co.2.1 * co.2.1) * (100 - kk - dw + ho)) / 10000)) / 20)) := c_85
            have c_96 : ¬ (co.2.1 + (((10 * b.2.2.2) - (((co.2.1 * co.2.1) * (100 - kk - dw + ho)) / 10000)) / 20)) ≤ 3000 := c_96
            have c_152 : ¬ (co.2.2.1 + (((((3000 * 3000) * kk) / 10000) - co.2.2.1) / 4)) ≤ co.2.2.2.2 := c_152
            have c_194 : ¬ (co.2.2.2.1 + (3000 / 10)) ≤ ln := c_194
            have hstep : (sStep kk (100 - kk - dw + ho) b.2.2.2 ln co) = ((co.1 + 1), 3000, (co.2.2.1 + (((((3000 * 3000) * kk) / 10000) - co.2.2.1) / 4)), ln, (co.2.2.1 + (((((3000 * 3000) * kk) / 10000) - co.2.2.1) / 4))) := by
              have hle : ¬ ln ≤ co.2.2.2.1 := fun h => c_18 (Int32.toInt_inj.mp (by have a := i32le.mp h; have b := hC0.2.2.2.2.2; omega))
              have hp : sPace (100 - kk - dw + ho) b.2.2.2 co = 3000 := (mPace _).symm.trans ((if_neg (Int32.not_lt.mpr c_85)).trans (if_pos (Int32.not_le.mp c_96)))
              have hh : sMax co.2.2.2.2 (sArch kk co 3000) = (co.2.2.1 + (((((3000 * 3000) * kk) / 10000) - co.2.2.1) / 4)) := if_pos (Int32.not_le.mp c_152)
              have ho9 : sMin ln (co.2.2.2.1 + 3000 / 10) = ln := (mOut _ _).symm.trans (if_pos (Int32.not_le.mp c_194))
              unfold sStep; rw [if_neg hle, hp, hh, ho9]; rfl
            have hq : F_64 = va_up F 56 (oModel ad b ln tc (sStep kk (100 - kk - dw + ho) b.2.2.2 ln co) th bs en u st kk dw ho sv pic ia tk) := by rw [hstep, hF_65, hF_59, hF_56, hF_41, hF_38, hF_2]; simp only [bx_uu]
            exact zvret hC hZ hr hlocks hq dX7_tickOn_211
    · refine lv_iconst (v := 0) hx hb dX7_tickOn_88 (by decide) ?_
      refine lv_goto (tgt := 106) hx hb dX7_tickOn_89 (by decide) ?_
      refine zput (E := oModel ad b ln tc ((co.1 + 1), 0, co.2.2.1, co.2.2.2.1, co.2.2.2.2) th bs en u st kk dw ho sv pic ia tk) hC hZ pX7_154 (zlt hn rfl) h_3 rfl rfl rfl (Nat.le_of_ble_eq_true rfl) dX7_tickOn_106 (fun F_67 hF_68 H locs hZ => ?_)
      have h_69 := zeq hF_68
      refine lv_aload_n hx hb dX7_tickOn_109 rfl (lv_at hl 2 rfl) ?_
      refine lv_dup hx hb dX7_tickOn_110 rfl ?_
      refine zget hC hZ fX7_151 (zlt hn rfl) h_69 rfl dX7_tickOn_111 ?_
      refine lv_aload_n hx hb dX7_tickOn_114 rfl (lv_at hl 2 rfl) ?_
      refine zget hC hZ fX7_154 (zlt hn rfl) h_69 rfl dX7_tickOn_115 ?_
      refine lv_aload_n hx hb dX7_tickOn_118 rfl (lv_at hl 2 rfl) ?_
      refine zget hC hZ fX7_154 (zlt hn rfl) h_69 rfl dX7_tickOn_119 ?_
      refine lv_imul hx hb dX7_tickOn_122 ?_
      refine lv_aload_n hx hb dX7_tickOn_123 rfl (lv_at hl 2 rfl) ?_
      refine zget hC hZ fX7_125 (zlt hn rfl) h_69 rfl dX7_tickOn_124 ?_
      refine lv_imul hx hb dX7_tickOn_127 ?_
      refine lv_sipush (v := 10000) hx hb dX7_tickOn_128 (by decide) ?_
      refine lv_idiv hx hb dX7_tickOn_131 (by decide) ?_
      refine lv_aload_n hx hb dX7_tickOn_132 rfl (lv_at hl 2 rfl) ?_
      refine zget hC hZ fX7_151 (zlt hn rfl) h_69 rfl dX7_tickOn_133 ?_
      refine lv_isub hx hb dX7_tickOn_136 ?_
      refine lv_iconst (v := 4) hx hb dX7_tickOn_137 (by decide) ?_
      refine lv_idiv hx hb dX7_tickOn_138 (by decide) ?_
      refine lv_iadd hx hb dX7_tickOn_139 ?_
      refine zput (E := oModel ad b ln tc ((co.1 + 1), 0, (co.2.2.1 + (((((0 * 0) * kk) / 10000) - co.2.2.1) / 4)), co.2.2.2.1, co.2.2.2.2) th bs en u st kk dw ho sv pic ia tk) hC hZ pX7_151 (zlt hn rfl) h_69 rfl rfl rfl (Nat.le_of_ble_eq_true rfl) dX7_tickOn_140 (fun F_70 hF_71 H locs hZ => ?_)
      have h_72 := zeq hF_71
      refine lv_aload_n hx hb dX7_tickOn_143 rfl (lv_at hl 2 rfl) ?_
      refine lv_aload_n hx hb dX7_tickOn_144 rfl (lv_at hl 2 rfl) ?_
      refine zget hC hZ fX7_151 (zlt hn rfl) h_72 rfl dX7_tickOn_145 ?_
      refine lv_aload_n hx hb dX7_tickOn_148 rfl (lv_at hl 2 rfl) ?_
      refine zget hC hZ fX7_160 (zlt hn rfl) h_72 rfl dX7_tickOn_149 ?_
      refine lv_icmp_le (tgt := 162) hx hb dX7_tickOn_152 (by decide) (fun c_152 => ?_) (fun c_152 => ?_)
      · refine lv_aload_n hx hb dX7_tickOn_162 rfl (lv_at hl 2 rfl) ?_
        refine zget hC hZ fX7_160 (zlt hn rfl) h_72 rfl dX7_tickOn_163 ?_
        refine zput (E := oModel ad b ln tc ((co.1 + 1), 0, (co.2.2.1 + (((((0 * 0) * kk) / 10000) - co.2.2.1) / 4)), co.2.2.2.1, co.2.2.2.2) th bs en u st kk dw ho sv pic ia tk) hC hZ pX7_160 (zlt hn rfl) h_72 rfl rfl rfl (Nat.le_of_ble_eq_true rfl) dX7_tickOn_166 (fun F_73 hF_74 H locs hZ => ?_)
        have h_75 := zeq hF_74
        refine lv_aload_n hx hb dX7_tickOn_169 rfl (lv_at hl 2 rfl) ?_
        refine lv_dup hx hb dX7_tickOn_170 rfl ?_
        refine zget hC hZ fX7_67 (zlt hn rfl) h_75 rfl dX7_tickOn_171 ?_
        refine lv_aload_n hx hb dX7_tickOn_174 rfl (lv_at hl 2 rfl) ?_
        refine zget hC hZ fX7_154 (zlt hn rfl) h_75 rfl dX7_tickOn_175 ?_
        refine lv_bipush (v := 10) hx hb dX7_tickOn_178 (by decide) ?_
        refine lv_idiv hx hb dX7_tickOn_180 (by decide) ?_
        refine lv_iadd hx hb dX7_tickOn_181 ?_
        refine zput (E := oModel ad b ln tc ((co.1 + 1), 0, (co.2.2.1 + (((((0 * 0) * kk) / 10000) - co.2.2.1) / 4)), (co.2.2.2.1 + (0 / 10)), co.2.2.2.2) th bs en u st kk dw ho sv pic ia tk) hC hZ pX7_67 (zlt hn rfl) h_75 rfl rfl rfl (Nat.le_of_ble_eq_true rfl) dX7_tickOn_182 (fun F_76 hF_77 H locs hZ => ?_)
        have h_78 := zeq hF_77
        refine lv_aload_n hx hb dX7_tickOn_185 rfl (lv_at hl 2 rfl) ?_
        refine lv_aload_n hx hb dX7_tickOn_186 rfl (lv_at hl 2 rfl) ?_
        refine zget hC hZ fX7_67 (zlt hn rfl) h_78 rfl dX7_tickOn_187 ?_
        refine lv_aload_n hx hb dX7_tickOn_190 rfl (lv_at hl 2 rfl) ?_
        refine zget hC hZ fX7_16 (zlt hn rfl) h_78 rfl dX7_tickOn_191 ?_
        refine lv_icmp_le (tgt := 204) hx hb dX7_tickOn_194 (by decide) (fun c_194 => ?_) (fun c_194 => ?_)
        · refine lv_aload_n hx hb dX7_tickOn_204 rfl (lv_at hl 2 rfl) ?_
          refine zget hC hZ fX7_67 (zlt hn rfl) h_78 rfl dX7_tickOn_205 ?_
          refine zput (E := oModel ad b ln tc ((co.1 + 1), 0, (co.2.2.1 + (((((0 * 0) * kk) / 10000) - co.2.2.1) / 4)), (co.2.2.2.1 + (0 / 10)), co.2.2.2.2) th bs en u st kk dw ho sv pic ia tk) hC hZ pX7_67 (zlt hn rfl) h_78 rfl rfl rfl (Nat.le_of_ble_eq_true rfl) dX7_tickOn_208 (fun F_79 hF_80 H locs hZ => ?_)
          have h_81 := zeq hF_80
          have c_18 : ¬ co.2.2.2.1 = ln := c_18
          have c_85 : ¬ 0 ≤ (co.2.1 + (((10 * b.2.2.2) - (((co.2.1 * co.2.1) * (100 - kk - dw + ho)) / 10000)) / 20)) := c_85
          have c_152 : (co.2.2.1 + (((((0 * 0) * kk) / 10000) - co.2.2.1) / 4)) ≤ co.2.2.2.2 := c_152
          have c_194 : (co.2.2.2.1 + (0 / 10)) ≤ ln := c_194
          have hstep : (sStep kk (100 - kk - dw + ho) b.2.2.2 ln co) = ((co.1 + 1), 0, (co.2.2.1 + (((((0 * 0) * kk) / 10000) - co.2.2.1) / 4)), (co.2.2.2.1 + (0 / 10)), co.2.2.2.2) := by
            have hle : ¬ ln ≤ co.2.2.2.1 := fun h => c_18 (Int32.toInt_inj.mp (by have a := i32le.mp h; have b := hC0.2.2.2.2.2; omega))
            have hp : sPace (100 - kk - dw + ho) b.2.2.2 co = 0 := (mPace _).symm.trans (if_pos (Int32.not_le.mp c_85))
            have hh : sMax co.2.2.2.2 (sArch kk co 0) = co.2.2.2.2 := if_neg (Int32.not_lt.mpr c_152)
            have ho9 : sMin ln (co.2.2.2.1 + 0 / 10) = (co.2.2.2.1 + (0 / 10)) := (mOut _ _).symm.trans (if_neg (Int32.not_lt.mpr c_194))
            unfold sStep; rw [if_neg hle, hp, hh, ho9]; rfl
          have hq : F_79 = va_up F 56 (oModel ad b ln tc (sStep kk (100 - kk - dw + ho) b.2.2.2 ln co) th bs en u st kk dw ho sv pic ia tk) := by rw [hstep, hF_80, hF_77, hF_74, hF_71, hF_68, hF_2]; simp only [bx_uu]
          exact zvret hC hZ hr hlocks hq dX7_tickOn_211
        · refine lv_aload_n hx hb dX7_tickOn_197 rfl (lv_at hl 2 rfl) ?_
          refine zget hC hZ fX7_16 (zlt hn rfl) h_78 rfl dX7_tickOn_198 ?_
          refine lv_goto (tgt := 208) hx hb dX7_tickOn_201 (by decide) ?_
          refine zput (E := oModel ad b ln tc ((co.1 + 1), 0, (co.2.2.1 + (((((0 * 0) * kk) / 10000) - co.2.2.1) / 4)), ln, co.2.2.2.2) th bs en u st kk dw ho sv pic ia tk) hC hZ pX7_67 (zlt hn rfl) h_78 rfl rfl rfl (Nat.le_of_ble_eq_true rfl) dX7_tickOn_208 (fun F_82 hF_83 H locs hZ => ?_)
          have h_84 := zeq hF_83
          have c_18 : ¬ co.2.2.2.1 = ln := c_18
          have c_85 : ¬ 0 ≤ (co.2.1 + (((10 * b.2.2.2) - (((co.2.1 * co.2.1) * (100 - kk - dw + ho)) / 10000)) / 20)) := c_85
          have c_152 : (co.2.2.1 + (((((0 * 0) * kk) / 10000) - co.2.2.1) / 4)) ≤ co.2.2.2.2 := c_152
          have c_194 : ¬ (co.2.2.2.1 + (0 / 10)) ≤ ln := c_194
          have hstep : (sStep kk (100 - kk - dw + ho) b.2.2.2 ln co) = ((co.1 + 1), 0, (co.2.2.1 + (((((0 * 0) * kk) / 10000) - co.2.2.1) / 4)), ln, co.2.2.2.2) := by
            have hle : ¬ ln ≤ co.2.2.2.1 := fun h => c_18 (Int32.toInt_inj.mp (by have a := i32le.mp h; have b := hC0.2.2.2.2.2; omega))
            have hp : sPace (100 - kk - dw + ho) b.2.2.2 co = 0 := (mPace _).symm.trans (if_pos (Int32.not_le.mp c_85))
            have hh : sMax co.2.2.2.2 (sArch kk co 0) = co.2.2.2.2 := if_neg (Int32.not_lt.mpr c_152)
            have ho9 : sMin ln (co.2.2.2.1 + 0 / 10) = ln := (mOut _ _).symm.trans (if_pos (Int32.not_le.mp c_194))
            unfold sStep; rw [if_neg hle, hp, hh, ho9]; rfl
          have hq : F_82 = va_up F 56 (oModel ad b ln tc (sStep kk (100 - kk - dw + ho) b.2.2.2 ln co) th bs en u st kk dw ho sv pic ia tk) := by rw [hstep, hF_83, hF_77, hF_74, hF_71, hF_68, hF_2]; simp only [bx_uu]
          exact zvret hC hZ hr hlocks hq dX7_tickOn_211
      · refine lv_aload_n hx hb dX7_tickOn_155 rfl (lv_at hl 2 rfl) ?_
        refine zget hC hZ fX7_151 (zlt hn rfl) h_72 rfl dX7_tickOn_156 ?_
        refine lv_goto (tgt := 166) hx hb dX7_tickOn_159 (by decide) ?_
        refine zput (E := oModel ad b ln tc ((co.1 + 1), 0, (co.2.2.1 + (((((0 * 0) * kk) / 10000) - co.2.2.1) / 4)), co.2.2.2.1, (co.2.2.1 + (((((0 * 0) * kk) / 10000) - co.2.2.1) / 4))) th bs en u st kk dw ho sv pic ia tk) hC hZ pX7_160 (zlt hn rfl) h_72 rfl rfl rfl (Nat.le_of_ble_eq_true rfl) dX7_tickOn_166 (fun F_85 hF_86 H locs hZ => ?_)
        have h_87 := zeq hF_86
        refine lv_aload_n hx hb dX7_tickOn_169 rfl (lv_at hl 2 rfl) ?_
        refine lv_dup hx hb dX7_tickOn_170 rfl ?_
        refine zget hC hZ fX7_67 (zlt hn rfl) h_87 rfl dX7_tickOn_171 ?_
        refine lv_aload_n hx hb dX7_tickOn_174 rfl (lv_at hl 2 rfl) ?_
        refine zget hC hZ fX7_154 (zlt hn rfl) h_87 rfl dX7_tickOn_175 ?_
        refine lv_bipush (v := 10) hx hb dX7_tickOn_178 (by decide) ?_
        refine lv_idiv hx hb dX7_tickOn_180 (by decide) ?_
        refine lv_iadd hx hb dX7_tickOn_181 ?_
        refine zput (E := oModel ad b ln tc ((co.1 + 1), 0, (co.2.2.1 + (((((0 * 0) * kk) / 10000) - co.2.2.1) / 4)), (co.2.2.2.1 + (0 / 10)), (co.2.2.1 + (((((0 * 0) * kk) / 10000) - co.2.2.1) / 4))) th bs en u st kk dw ho sv pic ia tk) hC hZ pX7_67 (zlt hn rfl) h_87 rfl rfl rfl (Nat.le_of_ble_eq_true rfl) dX7_tickOn_182 (fun F_88 hF_89 H locs hZ => ?_)
        have h_90 := zeq hF_89
        refine lv_aload_n hx hb dX7_tickOn_185 rfl (lv_at hl 2 rfl) ?_
        refine lv_aload_n hx hb dX7_tickOn_186 rfl (lv_at hl 2 rfl) ?_
        refine zget hC hZ fX7_67 (zlt hn rfl) h_90 rfl dX7_tickOn_187 ?_
        refine lv_aload_n hx hb dX7_tickOn_190 rfl (lv_at hl 2 rfl) ?_
        refine zget hC hZ fX7_16 (zlt hn rfl) h_90 rfl dX7_tickOn_191 ?_
        refine lv_icmp_le (tgt := 204) hx hb dX7_tickOn_194 (by decide) (fun c_194 => ?_) (fun c_194 => ?_)
        · refine lv_aload_n hx hb dX7_tickOn_204 rfl (lv_at hl 2 rfl) ?_
          refine zget hC hZ fX7_67 (zlt hn rfl) h_90 rfl dX7_tickOn_205 ?_
          refine zput (E := oModel ad b ln tc ((co.1 + 1), 0, (co.2.2.1 + (((((0 * 0) * kk) / 10000) - co.2.2.1) / 4)), (co.2.2.2.1 + (0 / 10)), (co.2.2.1 + (((((0 * 0) * kk) / 10000) - co.2.2.1) / 4))) th bs en u st kk dw ho sv pic ia tk) hC hZ pX7_67 (zlt hn rfl) h_90 rfl rfl rfl (Nat.le_of_ble_eq_true rfl) dX7_tickOn_208 (fun F_91 hF_92 H locs hZ => ?_)
          have h_93 := zeq hF_92
          have c_18 : ¬ co.2.2.2.1 = ln := c_18
          have c_85 : ¬ 0 ≤ (co.2.1 + (((10 * b.2.2.2) - (((co.2.1 * co.2.1) * (100 - kk - dw + ho)) / 10000)) / 20)) := c_85
          have c_152 : ¬ (co.2.2.1 + (((((0 * 0) * kk) / 10000) - co.2.2.1) / 4)) ≤ co.2.2.2.2 := c_152
          have c_194 : (co.2.2.2.1 + (0 / 10)) ≤ ln := c_194
          have hstep : (sStep kk (100 - kk - dw + ho) b.2.2.2 ln co) = ((co.1 + 1), 0, (co.2.2.1 + (((((0 * 0) * kk) / 10000) - co.2.2.1) / 4)), (co.2.2.2.1 + (0 / 10)), (co.2.2.1 + (((((0 * 0) * kk) / 10000) - co.2.2.1) / 4))) := by
            have hle : ¬ ln ≤ co.2.2.2.1 := fun h => c_18 (Int32.toInt_inj.mp (by have a := i32le.mp h; have b := hC0.2.2.2.2.2; omega))
            have hp : sPace (100 - kk - dw + ho) b.2.2.2 co = 0 := (mPace _).symm.trans (if_pos (Int32.not_le.mp c_85))
            have hh : sMax co.2.2.2.2 (sArch kk co 0) = (co.2.2.1 + (((((0 * 0) * kk) / 10000) - co.2.2.1) / 4)) := if_pos (Int32.not_le.mp c_152)
            have ho9 : sMin ln (co.2.2.2.1 + 0 / 10) = (co.2.2.2.1 + (0 / 10)) := (mOut _ _).symm.trans (if_neg (Int32.not_lt.mpr c_194))
            unfold sStep; rw [if_neg hle, hp, hh, ho9]; rfl
          have hq : F_91 = va_up F 56 (oModel ad b ln tc (sStep kk (100 - kk - dw + ho) b.2.2.2 ln co) th bs en u st kk dw ho sv pic ia tk) := by rw [hstep, hF_92, hF_89, hF_86, hF_71, hF_68, hF_2]; simp only [bx_uu]
          exact zvret hC hZ hr hlocks hq dX7_tickOn_211
        · refine lv_aload_n hx hb dX7_tickOn_197 rfl (lv_at hl 2 rfl) ?_
          refine zget hC hZ fX7_16 (zlt hn rfl) h_90 rfl dX7_tickOn_198 ?_
          refine lv_goto (tgt := 208) hx hb dX7_tickOn_201 (by decide) ?_
          refine zput (E := oModel ad b ln tc ((co.1 + 1), 0, (co.2.2.1 + (((((0 * 0) * kk) / 10000) - co.2.2.1) / 4)), ln, (co.2.2.1 + (((((0 * 0) * kk) / 10000) - co.2.2.1) / 4))) th bs en u st kk dw ho sv pic ia tk) hC hZ pX7_67 (zlt hn rfl) h_90 rfl rfl rfl (Nat.le_of_ble_eq_true rfl) dX7_tickOn_208 (fun F_94 hF_95 H locs hZ => ?_)
          have h_96 := zeq hF_95
          have c_18 : ¬ co.2.2.2.1 = ln := c_18
          have c_85 : ¬ 0 ≤ (co.2.1 + (((10 * b.2.2.2) - (((co.2.1 * co.2.1) * (100 - kk - dw + ho)) / 10000)) / 20)) := c_85
          have c_152 : ¬ (co.2.2.1 + (((((0 * 0) * kk) / 10000) - co.2.2.1) / 4)) ≤ co.2.2.2.2 := c_152
          have c_194 : ¬ (co.2.2.2.1 + (0 / 10)) ≤ ln := c_194
          have hstep : (sStep kk (100 - kk - dw + ho) b.2.2.2 ln co) = ((co.1 + 1), 0, (co.2.2.1 + (((((0 * 0) * kk) / 10000) - co.2.2.1) / 4)), ln, (co.2.2.1 + (((((0 * 0) * kk) / 10000) - co.2.2.1) / 4))) := by
            have hle : ¬ ln ≤ co.2.2.2.1 := fun h => c_18 (Int32.toInt_inj.mp (by have a := i32le.mp h; have b := hC0.2.2.2.2.2; omega))
            have hp : sPace (100 - kk - dw + ho) b.2.2.2 co = 0 := (mPace _).symm.trans (if_pos (Int32.not_le.mp c_85))
            have hh : sMax co.2.2.2.2 (sArch kk co 0) = (co.2.2.1 + (((((0 * 0) * kk) / 10000) - co.2.2.1) / 4)) := if_pos (Int32.not_le.mp c_152)
            have ho9 : sMin ln (co.2.2.2.1 + 0 / 10) = ln := (mOut _ _).symm.trans (if_pos (Int32.not_le.mp c_194))
            unfold sStep; rw [if_neg hle, hp, hh, ho9]; rfl
          have hq : F_94 = va_up F 56 (oModel ad b ln tc (sStep kk (100 - kk - dw + ho) b.2.2.2 ln co) th bs en u st kk dw ho sv pic ia tk) := by rw [hstep, hF_95, hF_89, hF_86, hF_71, hF_68, hF_2]; simp only [bx_uu]
          exact zvret hC hZ hr hlocks hq dX7_tickOn_211
  · refine lv_aload_n hx hb dX7_tickOn_21 rfl (lv_at hl 0 rfl) ?_
    refine lv_aload_n hx hb dX7_tickOn_22 rfl (lv_at hl 0 rfl) ?_
    refine zget hC hZ fX7_151 (zlt hn rfl) h_3 rfl dX7_tickOn_23 ?_
    refine lv_bipush (v := 50) hx hb dX7_tickOn_26 (by decide) ?_
    refine lv_icmp_ge (tgt := 35) hx hb dX7_tickOn_28 (by decide) (fun c_28 => ?_) (fun c_28 => ?_)
    · refine lv_aload_n hx hb dX7_tickOn_35 rfl (lv_at hl 0 rfl) ?_
      refine zget hC hZ fX7_151 (zlt hn rfl) h_3 rfl dX7_tickOn_36 ?_
      refine lv_bipush (v := 50) hx hb dX7_tickOn_39 (by decide) ?_
      refine lv_isub hx hb dX7_tickOn_41 ?_
      refine zput (E := oModel ad b ln tc ((co.1 + 1), co.2.1, (co.2.2.1 - 50), co.2.2.2.1, co.2.2.2.2) th bs en u st kk dw ho sv pic ia tk) hC hZ pX7_151 (zlt hn rfl) h_3 rfl rfl rfl (Nat.le_of_ble_eq_true rfl) dX7_tickOn_42 (fun F_97 hF_98 H locs hZ => ?_)
      have h_99 := zeq hF_98
      have c_18 : co.2.2.2.1 = ln := c_18
      have c_28 : 50 ≤ co.2.2.1 := c_28
      have hstep : (sStep kk (100 - kk - dw + ho) b.2.2.2 ln co) = ((co.1 + 1), co.2.1, (co.2.2.1 - 50), co.2.2.2.1, co.2.2.2.2) := by
        have hle : ln ≤ co.2.2.2.1 := by rw [c_18]; exact Int32.le_refl _
        have hm : sMax 0 (co.2.2.1 - 50) = (co.2.2.1 - 50) := (mMaxA hC0.2.2.1).symm.trans (if_neg (Int32.not_lt.mpr c_28))
        unfold sStep; rw [if_pos hle, hm]
      have hq : F_97 = va_up F 56 (oModel ad b ln tc (sStep kk (100 - kk - dw + ho) b.2.2.2 ln co) th bs en u st kk dw ho sv pic ia tk) := by rw [hstep, hF_98, hF_2]; simp only [bx_uu]
      exact zvret hC hZ hr hlocks hq dX7_tickOn_45
    · refine lv_iconst (v := 0) hx hb dX7_tickOn_31 (by decide) ?_
      refine lv_goto (tgt := 42) hx hb dX7_tickOn_32 (by decide) ?_
      refine zput (E := oModel ad b ln tc ((co.1 + 1), co.2.1, 0, co.2.2.2.1, co.2.2.2.2) th bs en u st kk dw ho sv pic ia tk) hC hZ pX7_151 (zlt hn rfl) h_3 rfl rfl rfl (Nat.le_of_ble_eq_true rfl) dX7_tickOn_42 (fun F_100 hF_101 H locs hZ => ?_)
      have h_102 := zeq hF_101
      have c_18 : co.2.2.2.1 = ln := c_18
      have c_28 : ¬ 50 ≤ co.2.2.1 := c_28
      have hstep : (sStep kk (100 - kk - dw + ho) b.2.2.2 ln co) = ((co.1 + 1), co.2.1, 0, co.2.2.2.1, co.2.2.2.2) := by
        have hle : ln ≤ co.2.2.2.1 := by rw [c_18]; exact Int32.le_refl _
        have hm : sMax 0 (co.2.2.1 - 50) = 0 := (mMaxA hC0.2.2.1).symm.trans (if_pos (Int32.not_le.mp c_28))
        unfold sStep; rw [if_pos hle, hm]
      have hq : F_100 = va_up F 56 (oModel ad b ln tc (sStep kk (100 - kk - dw + ho) b.2.2.2 ln co) th bs en u st kk dw ho sv pic ia tk) := by rw [hstep, hF_101, hF_2]; simp only [bx_uu]
      exact zvret hC hZ hr hlocks hq dX7_tickOn_45
