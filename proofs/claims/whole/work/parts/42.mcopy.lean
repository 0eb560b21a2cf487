theorem ix100k {d i : Int32} {m a : Nat} (h : d = nI m) (hi : i = nI a) (k : Nat) : 100 * d + i + nI k = nI (100 * m + a + k) := by rw [h, hi, nI_100, nI_add, nI_add]
theorem mX7_copy : zMd yX7_copy cX7_copy 7 (some .int) 5 := ⟨by decide +kernel, gt_of 1123 (by decide +kernel) rfl, gt_of 52 (by decide +kernel) rfl, by decide⟩
theorem dX7_copy_0 : decode cX7_copy 0 = .ok (.aload_n 0, 1) := by decide +kernel
theorem dX7_copy_1 : decode cX7_copy 1 = .ok (.iconst 0, 1) := by decide +kernel
theorem dX7_copy_2 : decode cX7_copy 2 = .ok (.putfield 57, 3) := by decide +kernel
theorem dX7_copy_5 : decode cX7_copy 5 = .ok (.iload_n 1, 1) := by decide +kernel
theorem dX7_copy_6 : decode cX7_copy 6 = .ok (.i2l, 1) := by decide +kernel
theorem dX7_copy_7 : decode cX7_copy 7 = .ok (.lconst 0, 1) := by decide +kernel
theorem dX7_copy_8 : decode cX7_copy 8 = .ok (.ldc2_w 138, 3) := by decide +kernel
theorem dX7_copy_11 : decode cX7_copy 11 = .ok (.invokestatic 63, 3) := by decide +kernel
theorem dX7_copy_14 : decode cX7_copy 14 = .ok (.ifCond .eq 15, 3) := by decide +kernel
theorem dX7_copy_17 : decode cX7_copy 17 = .ok (.iload_n 3, 1) := by decide +kernel
theorem dX7_copy_18 : decode cX7_copy 18 = .ok (.i2l, 1) := by decide +kernel
theorem dX7_copy_19 : decode cX7_copy 19 = .ok (.lconst 0, 1) := by decide +kernel
theorem dX7_copy_20 : decode cX7_copy 20 = .ok (.ldc2_w 138, 3) := by decide +kernel
theorem dX7_copy_23 : decode cX7_copy 23 = .ok (.invokestatic 63, 3) := by decide +kernel
theorem dX7_copy_26 : decode cX7_copy 26 = .ok (.ifCond .ne 5, 3) := by decide +kernel
theorem dX7_copy_31 : decode cX7_copy 31 = .ok (.aload_n 0, 1) := by decide +kernel
theorem dX7_copy_32 : decode cX7_copy 32 = .ok (.getfield 35, 3) := by decide +kernel
theorem dX7_copy_35 : decode cX7_copy 35 = .ok (.iload_n 1, 1) := by decide +kernel
theorem dX7_copy_36 : decode cX7_copy 36 = .ok (.iaload, 1) := by decide +kernel
theorem dX7_copy_37 : decode cX7_copy 37 = .ok (.ifCond .eq 12, 3) := by decide +kernel
theorem dX7_copy_49 : decode cX7_copy 49 = .ok (.bipush (-11), 2) := by decide +kernel
theorem dX7_copy_51 : decode cX7_copy 51 = .ok (.ireturn, 1) := by decide +kernel
theorem dX7_copy_40 : decode cX7_copy 40 = .ok (.aload_n 0, 1) := by decide +kernel
theorem dX7_copy_41 : decode cX7_copy 41 = .ok (.getfield 35, 3) := by decide +kernel
theorem dX7_copy_44 : decode cX7_copy 44 = .ok (.iload_n 3, 1) := by decide +kernel
theorem dX7_copy_45 : decode cX7_copy 45 = .ok (.iaload, 1) := by decide +kernel
theorem dX7_copy_46 : decode cX7_copy 46 = .ok (.ifCond .ne 6, 3) := by decide +kernel
theorem dX7_copy_52 : decode cX7_copy 52 = .ok (.aload_n 0, 1) := by decide +kernel
theorem dX7_copy_53 : decode cX7_copy 53 = .ok (.getfield 35, 3) := by decide +kernel
theorem dX7_copy_56 : decode cX7_copy 56 = .ok (.iload_n 1, 1) := by decide +kernel
theorem dX7_copy_57 : decode cX7_copy 57 = .ok (.iaload, 1) := by decide +kernel
theorem dX7_copy_58 : decode cX7_copy 58 = .ok (.iconst 2, 1) := by decide +kernel
theorem dX7_copy_59 : decode cX7_copy 59 = .ok (.if_icmp .ne 28, 3) := by decide +kernel
theorem dX7_copy_87 : decode cX7_copy 87 = .ok (.bipush (-12), 2) := by decide +kernel
theorem dX7_copy_89 : decode cX7_copy 89 = .ok (.ireturn, 1) := by decide +kernel
theorem dX7_copy_62 : decode cX7_copy 62 = .ok (.aload_n 0, 1) := by decide +kernel
theorem dX7_copy_63 : decode cX7_copy 63 = .ok (.getfield 35, 3) := by decide +kernel
theorem dX7_copy_66 : decode cX7_copy 66 = .ok (.iload_n 3, 1) := by decide +kernel
theorem dX7_copy_67 : decode cX7_copy 67 = .ok (.iaload, 1) := by decide +kernel
theorem dX7_copy_68 : decode cX7_copy 68 = .ok (.iconst 2, 1) := by decide +kernel
theorem dX7_copy_69 : decode cX7_copy 69 = .ok (.if_icmp .ne 18, 3) := by decide +kernel
theorem dX7_copy_72 : decode cX7_copy 72 = .ok (.aload_n 0, 1) := by decide +kernel
theorem dX7_copy_73 : decode cX7_copy 73 = .ok (.getfield 44, 3) := by decide +kernel
theorem dX7_copy_76 : decode cX7_copy 76 = .ok (.iload_n 1, 1) := by decide +kernel
theorem dX7_copy_77 : decode cX7_copy 77 = .ok (.iaload, 1) := by decide +kernel
theorem dX7_copy_78 : decode cX7_copy 78 = .ok (.aload_n 0, 1) := by decide +kernel
theorem dX7_copy_79 : decode cX7_copy 79 = .ok (.getfield 44, 3) := by decide +kernel
theorem dX7_copy_82 : decode cX7_copy 82 = .ok (.iload_n 3, 1) := by decide +kernel
theorem dX7_copy_83 : decode cX7_copy 83 = .ok (.iaload, 1) := by decide +kernel
theorem dX7_copy_84 : decode cX7_copy 84 = .ok (.if_icmp .eq 6, 3) := by decide +kernel
theorem dX7_copy_90 : decode cX7_copy 90 = .ok (.iload 5, 2) := by decide +kernel
theorem dX7_copy_92 : decode cX7_copy 92 = .ok (.ifCond .lt 39, 3) := by decide +kernel
theorem dX7_copy_131 : decode cX7_copy 131 = .ok (.bipush (-13), 2) := by decide +kernel
theorem dX7_copy_133 : decode cX7_copy 133 = .ok (.ireturn, 1) := by decide +kernel
theorem dX7_copy_95 : decode cX7_copy 95 = .ok (.iload_n 2, 1) := by decide +kernel
theorem dX7_copy_96 : decode cX7_copy 96 = .ok (.ifCond .lt 35, 3) := by decide +kernel
theorem dX7_copy_99 : decode cX7_copy 99 = .ok (.iload 4, 2) := by decide +kernel
theorem dX7_copy_101 : decode cX7_copy 101 = .ok (.ifCond .lt 30, 3) := by decide +kernel
theorem dX7_copy_104 : decode cX7_copy 104 = .ok (.iload_n 2, 1) := by decide +kernel
theorem dX7_copy_105 : decode cX7_copy 105 = .ok (.aload_n 0, 1) := by decide +kernel
theorem dX7_copy_106 : decode cX7_copy 106 = .ok (.getfield 47, 3) := by decide +kernel
theorem dX7_copy_109 : decode cX7_copy 109 = .ok (.iload_n 1, 1) := by decide +kernel
theorem dX7_copy_110 : decode cX7_copy 110 = .ok (.iaload, 1) := by decide +kernel
theorem dX7_copy_111 : decode cX7_copy 111 = .ok (.iload 5, 2) := by decide +kernel
theorem dX7_copy_113 : decode cX7_copy 113 = .ok (.isub, 1) := by decide +kernel
theorem dX7_copy_114 : decode cX7_copy 114 = .ok (.if_icmp .gt 17, 3) := by decide +kernel
theorem dX7_copy_117 : decode cX7_copy 117 = .ok (.iload 4, 2) := by decide +kernel
theorem dX7_copy_119 : decode cX7_copy 119 = .ok (.aload_n 0, 1) := by decide +kernel
theorem dX7_copy_120 : decode cX7_copy 120 = .ok (.getfield 47, 3) := by decide +kernel
theorem dX7_copy_123 : decode cX7_copy 123 = .ok (.iload_n 3, 1) := by decide +kernel
theorem dX7_copy_124 : decode cX7_copy 124 = .ok (.iaload, 1) := by decide +kernel
theorem dX7_copy_125 : decode cX7_copy 125 = .ok (.iload 5, 2) := by decide +kernel
theorem dX7_copy_127 : decode cX7_copy 127 = .ok (.isub, 1) := by decide +kernel
theorem dX7_copy_128 : decode cX7_copy 128 = .ok (.if_icmp .le 6, 3) := by decide +kernel
theorem dX7_copy_134 : decode cX7_copy 134 = .ok (.iconst 0, 1) := by decide +kernel
theorem dX7_copy_135 : decode cX7_copy 135 = .ok (.istore 6, 2) := by decide +kernel
theorem dX7_copy_137 : decode cX7_copy 137 = .ok (.iload 6, 2) := by decide +kernel
theorem dX7_copy_139 : decode cX7_copy 139 = .ok (.iload 5, 2) := by decide +kernel
theorem dX7_copy_141 : decode cX7_copy 141 = .ok (.if_icmp .ge 30, 3) := by decide +kernel
theorem dX7_copy_171 : decode cX7_copy 171 = .ok (.iconst 0, 1) := by decide +kernel
theorem dX7_copy_172 : decode cX7_copy 172 = .ok (.istore 6, 2) := by decide +kernel
theorem dX7_copy_174 : decode cX7_copy 174 = .ok (.iload 6, 2) := by decide +kernel
theorem dX7_copy_176 : decode cX7_copy 176 = .ok (.iload 5, 2) := by decide +kernel
theorem dX7_copy_178 : decode cX7_copy 178 = .ok (.if_icmp .ge 31, 3) := by decide +kernel
theorem dX7_copy_209 : decode cX7_copy 209 = .ok (.iload 5, 2) := by decide +kernel
theorem dX7_copy_211 : decode cX7_copy 211 = .ok (.ireturn, 1) := by decide +kernel
theorem dX7_copy_181 : decode cX7_copy 181 = .ok (.aload_n 0, 1) := by decide +kernel
theorem dX7_copy_182 : decode cX7_copy 182 = .ok (.getfield 50, 3) := by decide +kernel
theorem dX7_copy_185 : decode cX7_copy 185 = .ok (.bipush 100, 2) := by decide +kernel
theorem dX7_copy_187 : decode cX7_copy 187 = .ok (.iload_n 3, 1) := by decide +kernel
theorem dX7_copy_188 : decode cX7_copy 188 = .ok (.imul, 1) := by decide +kernel
theorem dX7_copy_189 : decode cX7_copy 189 = .ok (.iload 4, 2) := by decide +kernel
theorem dX7_copy_191 : decode cX7_copy 191 = .ok (.iadd, 1) := by decide +kernel
theorem dX7_copy_192 : decode cX7_copy 192 = .ok (.iload 6, 2) := by decide +kernel
theorem dX7_copy_194 : decode cX7_copy 194 = .ok (.iadd, 1) := by decide +kernel
theorem dX7_copy_195 : decode cX7_copy 195 = .ok (.aload_n 0, 1) := by decide +kernel
theorem dX7_copy_196 : decode cX7_copy 196 = .ok (.getfield 54, 3) := by decide +kernel
theorem fX7_54 : zFld RX7 54 7 38 := ⟨RX7, TX7, 39, rfl, inX7, by decide, rfl, Or.inl (gt_of 796 (by decide +kernel) rfl)⟩
theorem dX7_copy_199 : decode cX7_copy 199 = .ok (.iload 6, 2) := by decide +kernel
theorem dX7_copy_201 : decode cX7_copy 201 = .ok (.laload, 1) := by decide +kernel
theorem dX7_copy_202 : decode cX7_copy 202 = .ok (.lastore, 1) := by decide +kernel
theorem dX7_copy_203 : decode cX7_copy 203 = .ok (.iinc 6 1, 3) := by decide +kernel
theorem dX7_copy_206 : decode cX7_copy 206 = .ok (.goto (-32), 3) := by decide +kernel
theorem dX7_copy_144 : decode cX7_copy 144 = .ok (.aload_n 0, 1) := by decide +kernel
theorem dX7_copy_145 : decode cX7_copy 145 = .ok (.getfield 54, 3) := by decide +kernel
theorem dX7_copy_148 : decode cX7_copy 148 = .ok (.iload 6, 2) := by decide +kernel
theorem dX7_copy_150 : decode cX7_copy 150 = .ok (.aload_n 0, 1) := by decide +kernel
theorem dX7_copy_151 : decode cX7_copy 151 = .ok (.getfield 50, 3) := by decide +kernel
theorem dX7_copy_154 : decode cX7_copy 154 = .ok (.bipush 100, 2) := by decide +kernel
theorem dX7_copy_156 : decode cX7_copy 156 = .ok (.iload_n 1, 1) := by decide +kernel
theorem dX7_copy_157 : decode cX7_copy 157 = .ok (.imul, 1) := by decide +kernel
theorem dX7_copy_158 : decode cX7_copy 158 = .ok (.iload_n 2, 1) := by decide +kernel
theorem dX7_copy_159 : decode cX7_copy 159 = .ok (.iadd, 1) := by decide +kernel
theorem dX7_copy_160 : decode cX7_copy 160 = .ok (.iload 6, 2) := by decide +kernel
theorem dX7_copy_162 : decode cX7_copy 162 = .ok (.iadd, 1) := by decide +kernel
theorem dX7_copy_163 : decode cX7_copy 163 = .ok (.laload, 1) := by decide +kernel
theorem dX7_copy_164 : decode cX7_copy 164 = .ok (.lastore, 1) := by decide +kernel
theorem dX7_copy_165 : decode cX7_copy 165 = .ok (.iinc 6 1, 3) := by decide +kernel
theorem dX7_copy_168 : decode cX7_copy 168 = .ok (.goto (-31), 3) := by decide +kernel
theorem dX7_copy_29 : decode cX7_copy 29 = .ok (.iconst (-1), 1) := by decide +kernel
theorem dX7_copy_30 : decode cX7_copy 30 = .ok (.ireturn, 1) := by decide +kernel
set_option maxRecDepth 100000 in
theorem c_X7_copy (l : Launch) (D : va_G) (cy : Nat → Nat) (n : Nat) (ad : Nat → Nat) (F : Nat → va_E) (sz : Nat) (th0 pic : Int32) (sc ps : Scn) (sh : Nat → Shf) (hn : 68 ≤ n) (hX : RM ad cy F th0 pic sc ps sh) (hG : gX sc ps sh) (d i e0 j q : Int32) : Met l yX7_copy (zw yX7_copy cX7_copy 7 (some .int)) (rmL 1) (zPc D cy n ad F sz [.ref (ad 56), .int d, .int i, .int e0, .int j, .int q]) (va_Qi (fun r F1 => r = sCopy sh d i e0 j q ∧ RM ad cy F1 0 pic sc ps (sCopyS sh d i e0 j q) ∧ frM F F1) (zB D n ad) (zA n ad sz)) 0 0 (zA n ad sz) := by
  refine zmet (by decide +kernel) (Nat.le_of_ble_eq_true rfl) (fun p e s m args below meth c ls hC hsz hZ hA hr hlocks hnm hl => ?_)
  have hC : zC p m c cX7_copy 7 s args RX7 D cy := hC
  have hx := hC.1.1
  have hb := hC.1.2.1
  have hl : lv_has ls 7 [(0, .ref (ad 56)), (1, .int d), (2, .int i), (3, .int e0), (4, .int j), (5, .int q)] := hl
  obtain ⟨bs, en, u, st, kk, dw, ho, sv, ia, tk, told, pl, nu, im, hw, kd, fg, so, mn, rw0, bt, hM, h57, h58, h59, h60, h61, h62, h63, h64, h65, h66, h67, hR⟩ := hX
  have hRS := hR.2.2
  have hHW := rX_hw hR
  refine lv_aload_n hx hb dX7_copy_0 rfl (lv_at hl 0 rfl) ?_
  refine lv_iconst (v := 0) hx hb dX7_copy_1 (by decide) ?_
  refine zput (E := oModel ad sc.1 sc.2.1 sc.2.2.2.1 sc.2.2.2.2 0 bs en u st kk dw ho sv pic ia tk) hC hZ pX7_57 (zlt hn rfl) hM rfl rfl rfl (Nat.le_of_ble_eq_true rfl) dX7_copy_2 (fun F_1 hF_2 H locs hZ => ?_)
  have h_3 := zeq hF_2
  refine lv_iload_n hx hb dX7_copy_5 rfl (lv_at hl 1 rfl) ?_
  refine lv_i2l (v := (d).toInt64) hx hb dX7_copy_6 (by rfl) ?_
  refine lv_lconst (v := 0) hx hb dX7_copy_7 (by decide) ?_
  refine lv_ldc2 (v := 7) hx hb hC.1.2.2.2.1 (hC.1.2.2.2.2 _ qX7_138) dX7_copy_8 ?_
  refine zgoi hZ hA (zrunS (As := [.long ((d).toInt64), .long 0, .long 7]) (rest := []) hC hZ (c_X7_in l D cy n ad F_1 H.size d 0 7 0 7 (by decide) (by decide)) mX7_in sX7_in kX7_63 (zRj_of rfl) rfl hl.1 rfl (Nat.le_of_ble_eq_true rfl) dX7_copy_11 ⟨Nat.le_refl _, Nat.le_refl _⟩) (fun r_5 F_4 hp_6 H locs hZ => ?_)
  obtain ⟨hp_6, rfl⟩ := hp_6
  by_cases b_7 : bIn d 0 7
  · rw [if_pos b_7] at hp_6
    subst hp_6
    refine lv_if_eq (tgt := 29) hx hb dX7_copy_14 (by decide) (fun h => absurd (show (1 : Int32) = 0 from h) (by decide)) (fun _ => ?_)
    refine lv_iload_n hx hb dX7_copy_17 rfl (lv_at hl 3 rfl) ?_
    refine lv_i2l (v := (e0).toInt64) hx hb dX7_copy_18 (by rfl) ?_
    refine lv_lconst (v := 0) hx hb dX7_copy_19 (by decide) ?_
    refine lv_ldc2 (v := 7) hx hb hC.1.2.2.2.1 (hC.1.2.2.2.2 _ qX7_138) dX7_copy_20 ?_
    refine zgoi hZ hA (zrunS (As := [.long ((e0).toInt64), .long 0, .long 7]) (rest := []) hC hZ (c_X7_in l D cy n ad F_1 H.size e0 0 7 0 7 (by decide) (by decide)) mX7_in sX7_in kX7_63 (zRj_of rfl) rfl hl.1 rfl (Nat.le_of_ble_eq_true rfl) dX7_copy_23 ⟨Nat.le_refl _, Nat.le_refl _⟩) (fun r_9 F_8 hp_10 H locs hZ => ?_)
    obtain ⟨hp_10, rfl⟩ := hp_10
    by_cases b_11 : bIn e0 0 7
    · rw [if_pos b_11] at hp_10
      subst hp_10
      refine lv_if_ne (tgt := 31) hx hb dX7_copy_26 (by decide) (fun _ => ?_) (fun h => absurd (show (1 : Int32) = 0 from h) (by decide))
      refine lv_aload_n hx hb dX7_copy_31 rfl (lv_at hl 0 rfl) ?_
      refine zget hC hZ fX7_35 (zlt hn rfl) h_3 rfl dX7_copy_32 ?_
      refine lv_iload_n hx hb dX7_copy_35 rfl (lv_at hl 1 rfl) ?_
      have hd := bSh_i (bIn7.mp b_7)
      refine ziald hC hZ (zlt hn rfl) (zne hF_2 (by decide) h61) hd.1 hd.2 (by decide) dX7_copy_36 ?_
      refine lv_if_eq (tgt := 49) hx hb dX7_copy_37 (by decide) (fun c_37 => ?_) (fun c_37 => ?_)
      · refine lv_bipush (v := (-11)) hx hb dX7_copy_49 (by decide) ?_
        have hm : mTwo hw d e0 = -11 := (if_pos ⟨bIn7.mp b_7, bIn7.mp b_11⟩).trans (if_pos (Or.inl c_37))
        have hrf : mTwo hw d e0 = sFirst (sRowR sh d) (sRowR sh e0) := mTwo_neg (a := 2) (c := 2) hHW (by rw [hm]; decide)
        rw [hm] at hrf
        have hnz : ¬ sFirst (sRowR sh d) (sRowR sh e0) = 0 := by rw [← hrf]; decide
        have hq : ((-11) : Int32) = sCopy sh d i e0 j q := by unfold sCopy; rw [if_neg hnz]; exact hrf
        have hfm_12 : frM F F_1 := (frM_up frM_rf hF_2 (by decide) (by decide))
        exact zireti hC hZ hr hlocks ⟨hq, (by unfold sCopyS; rw [if_neg (fun h => hnz h.1)]; exact ⟨⟨bs, en, u, st, kk, dw, ho, sv, ia, tk, told, pl, nu, im, hw, kd, fg, so, mn, rw0, bt, h_3, (zne hF_2 (by decide) h57), (zne hF_2 (by decide) h58), (zne hF_2 (by decide) h59), (zne hF_2 (by decide) h60), (zne hF_2 (by decide) h61), (zne hF_2 (by decide) h62), (zne hF_2 (by decide) h63), (zne hF_2 (by decide) h64), (zne hF_2 (by decide) h65), (zne hF_2 (by decide) h66), (zne hF_2 (by decide) h67), hR⟩, hfm_12⟩)⟩ dX7_copy_51
      · refine lv_aload_n hx hb dX7_copy_40 rfl (lv_at hl 0 rfl) ?_
        refine zget hC hZ fX7_35 (zlt hn rfl) h_3 rfl dX7_copy_41 ?_
        refine lv_iload_n hx hb dX7_copy_44 rfl (lv_at hl 3 rfl) ?_
        have hd_e0 := bSh_i (bIn7.mp b_11)
        refine ziald hC hZ (zlt hn rfl) (zne hF_2 (by decide) h61) hd_e0.1 hd_e0.2 (by decide) dX7_copy_45 ?_
        refine lv_if_ne (tgt := 52) hx hb dX7_copy_46 (by decide) (fun c_46 => ?_) (fun c_46 => ?_)
        · refine lv_aload_n hx hb dX7_copy_52 rfl (lv_at hl 0 rfl) ?_
          refine zget hC hZ fX7_35 (zlt hn rfl) h_3 rfl dX7_copy_53 ?_
          refine lv_iload_n hx hb dX7_copy_56 rfl (lv_at hl 1 rfl) ?_
          refine ziald hC hZ (zlt hn rfl) (zne hF_2 (by decide) h61) hd.1 hd.2 (by decide) dX7_copy_57 ?_
          refine lv_iconst (v := 2) hx hb dX7_copy_58 (by decide) ?_
          refine lv_icmp_ne (tgt := 87) hx hb dX7_copy_59 (by decide) (fun c_59 => ?_) (fun c_59 => ?_)
          · refine lv_bipush (v := (-12)) hx hb dX7_copy_87 (by decide) ?_
            have h2g : (bSh d ∧ bSh e0) ∧ ¬ hw (iN d) = 0 ∧ ¬ hw (iN e0) = 0 := ⟨⟨bIn7.mp b_7, bIn7.mp b_11⟩, c_37, c_46⟩
            have hrf : (-12 : Int32) = sFirst (sRowR sh d) (sRowR sh e0) := two_12 (a := 2) (c := 2) hHW h2g (Or.inl c_59)
            have hnz : ¬ sFirst (sRowR sh d) (sRowR sh e0) = 0 := by rw [← hrf]; decide
            have hq : ((-12) : Int32) = sCopy sh d i e0 j q := by unfold sCopy; rw [if_neg hnz]; exact hrf
            have hfm_13 : frM F F_1 := (frM_up frM_rf hF_2 (by decide) (by decide))
            exact zireti hC hZ hr hlocks ⟨hq, (by unfold sCopyS; rw [if_neg (fun h => hnz h.1)]; exact ⟨⟨bs, en, u, st, kk, dw, ho, sv, ia, tk, told, pl, nu, im, hw, kd, fg, so, mn, rw0, bt, h_3, (zne hF_2 (by decide) h57), (zne hF_2 (by decide) h58), (zne hF_2 (by decide) h59), (zne hF_2 (by decide) h60), (zne hF_2 (by decide) h61), (zne hF_2 (by decide) h62), (zne hF_2 (by decide) h63), (zne hF_2 (by decide) h64), (zne hF_2 (by decide) h65), (zne hF_2 (by decide) h66), (zne hF_2 (by decide) h67), hR⟩, hfm_13⟩)⟩ dX7_copy_89
          · refine lv_aload_n hx hb dX7_copy_62 rfl (lv_at hl 0 rfl) ?_
            refine zget hC hZ fX7_35 (zlt hn rfl) h_3 rfl dX7_copy_63 ?_
            refine lv_iload_n hx hb dX7_copy_66 rfl (lv_at hl 3 rfl) ?_
            refine ziald hC hZ (zlt hn rfl) (zne hF_2 (by decide) h61) hd_e0.1 hd_e0.2 (by decide) dX7_copy_67 ?_
            refine lv_iconst (v := 2) hx hb dX7_copy_68 (by decide) ?_
            refine lv_icmp_ne (tgt := 87) hx hb dX7_copy_69 (by decide) (fun c_69 => ?_) (fun c_69 => ?_)
            · refine lv_bipush (v := (-12)) hx hb dX7_copy_87 (by decide) ?_
              have h2g : (bSh d ∧ bSh e0) ∧ ¬ hw (iN d) = 0 ∧ ¬ hw (iN e0) = 0 := ⟨⟨bIn7.mp b_7, bIn7.mp b_11⟩, c_37, c_46⟩
              have hrf : (-12 : Int32) = sFirst (sRowR sh d) (sRowR sh e0) := two_12 (a := 2) (c := 2) hHW h2g (Or.inr c_69)
              have hnz : ¬ sFirst (sRowR sh d) (sRowR sh e0) = 0 := by rw [← hrf]; decide
              have hq : ((-12) : Int32) = sCopy sh d i e0 j q := by unfold sCopy; rw [if_neg hnz]; exact hrf
              have hfm_14 : frM F F_1 := (frM_up frM_rf hF_2 (by decide) (by decide))
              exact zireti hC hZ hr hlocks ⟨hq, (by unfold sCopyS; rw [if_neg (fun h => hnz h.1)]; exact ⟨⟨bs, en, u, st, kk, dw, ho, sv, ia, tk, told, pl, nu, im, hw, kd, fg, so, mn, rw0, bt, h_3, (zne hF_2 (by decide) h57), (zne hF_2 (by decide) h58), (zne hF_2 (by decide) h59), (zne hF_2 (by decide) h60), (zne hF_2 (by decide) h61), (zne hF_2 (by decide) h62), (zne hF_2 (by decide) h63), (zne hF_2 (by decide) h64), (zne hF_2 (by decide) h65), (zne hF_2 (by decide) h66), (zne hF_2 (by decide) h67), hR⟩, hfm_14⟩)⟩ dX7_copy_89
            · refine lv_aload_n hx hb dX7_copy_72 rfl (lv_at hl 0 rfl) ?_
              refine zget hC hZ fX7_44 (zlt hn rfl) h_3 rfl dX7_copy_73 ?_
              refine lv_iload_n hx hb dX7_copy_76 rfl (lv_at hl 1 rfl) ?_
              refine ziald hC hZ (zlt hn rfl) (zne hF_2 (by decide) h64) hd.1 hd.2 (by decide) dX7_copy_77 ?_
              refine lv_aload_n hx hb dX7_copy_78 rfl (lv_at hl 0 rfl) ?_
              refine zget hC hZ fX7_44 (zlt hn rfl) h_3 rfl dX7_copy_79 ?_
              refine lv_iload_n hx hb dX7_copy_82 rfl (lv_at hl 3 rfl) ?_
              refine ziald hC hZ (zlt hn rfl) (zne hF_2 (by decide) h64) hd_e0.1 hd_e0.2 (by decide) dX7_copy_83 ?_
              refine lv_icmp_eq (tgt := 90) hx hb dX7_copy_84 (by decide) (fun c_84 => ?_) (fun c_84 => ?_)
              · refine lv_iload hx hb dX7_copy_90 (lv_at hl 5 rfl) ?_
                refine lv_if_lt (tgt := 131) hx hb dX7_copy_92 (by decide) (fun c_92 => ?_) (fun c_92 => ?_)
                · refine lv_bipush (v := (-13)) hx hb dX7_copy_131 (by decide) ?_
                  have h2g : (bSh d ∧ bSh e0) ∧ ¬ hw (iN d) = 0 ∧ ¬ hw (iN e0) = 0 := ⟨⟨bIn7.mp b_7, bIn7.mp b_11⟩, c_37, c_46⟩
                  have hz2 : sFirst (sRowR sh d) (sRowR sh e0) = 0 := two_0 (a := 2) (c := 2) hHW h2g c_59 c_69
                  have hz := sFirst_0 (sRowR_le sh d) (sRowR_le sh e0) hz2
                  have hs := sRowR_0 hz.1
                  have hse := sRowR_0 hz.2
                  have hro := (hRS _ hd.2).2.2 hs.2
                  have hro_e0 := (hRS _ hd_e0.2).2.2 hse.2
                  have hgd := hG.2.2 _ hd.2
                  have hge := hG.2.2 _ hd_e0.2
                  have hsm := c_84
                  rw [hro.1, hro_e0.1] at hsm
                  have hbc : ¬ bCopy sh d i e0 j q := fun h => absurd c_92 (Int32.not_lt.mpr h.1.1)
                  have hq : ((-13) : Int32) = sCopy sh d i e0 j q := by unfold sCopy; rw [if_pos hz2, if_pos hsm, if_neg hbc]
                  have hfm_15 : frM F F_1 := (frM_up frM_rf hF_2 (by decide) (by decide))
                  exact zireti hC hZ hr hlocks ⟨hq, (by unfold sCopyS; rw [if_neg (fun h => hbc h.2.2)]; exact ⟨⟨bs, en, u, st, kk, dw, ho, sv, ia, tk, told, pl, nu, im, hw, kd, fg, so, mn, rw0, bt, h_3, (zne hF_2 (by decide) h57), (zne hF_2 (by decide) h58), (zne hF_2 (by decide) h59), (zne hF_2 (by decide) h60), (zne hF_2 (by decide) h61), (zne hF_2 (by decide) h62), (zne hF_2 (by decide) h63), (zne hF_2 (by decide) h64), (zne hF_2 (by decide) h65), (zne hF_2 (by decide) h66), (zne hF_2 (by decide) h67), hR⟩, hfm_15⟩)⟩ dX7_copy_133
                · refine lv_iload_n hx hb dX7_copy_95 rfl (lv_at hl 2 rfl) ?_
                  refine lv_if_lt (tgt := 131) hx hb dX7_copy_96 (by decide) (fun c_96 => ?_) (fun c_96 => ?_)
                  · refine lv_bipush (v := (-13)) hx hb dX7_copy_131 (by decide) ?_
                    have h2g : (bSh d ∧ bSh e0) ∧ ¬ hw (iN d) = 0 ∧ ¬ hw (iN e0) = 0 := ⟨⟨bIn7.mp b_7, bIn7.mp b_11⟩, c_37, c_46⟩
                    have hz2 : sFirst (sRowR sh d) (sRowR sh e0) = 0 := two_0 (a := 2) (c := 2) hHW h2g c_59 c_69
                    have hz := sFirst_0 (sRowR_le sh d) (sRowR_le sh e0) hz2
                    have hs := sRowR_0 hz.1
                    have hse := sRowR_0 hz.2
                    have hro := (hRS _ hd.2).2.2 hs.2
                    have hro_e0 := (hRS _ hd_e0.2).2.2 hse.2
                    have hgd := hG.2.2 _ hd.2
                    have hge := hG.2.2 _ hd_e0.2
                    have hsm := c_84
                    rw [hro.1, hro_e0.1] at hsm
                    have hbc : ¬ bCopy sh d i e0 j q := fun h => absurd c_96 (Int32.not_lt.mpr h.1.2.2.1)
                    have hq : ((-13) : Int32) = sCopy sh d i e0 j q := by unfold sCopy; rw [if_pos hz2, if_pos hsm, if_neg hbc]
                    have hfm_16 : frM F F_1 := (frM_up frM_rf hF_2 (by decide) (by decide))
                    exact zireti hC hZ hr hlocks ⟨hq, (by unfold sCopyS; rw [if_neg (fun h => hbc h.2.2)]; exact ⟨⟨bs, en, u, st, kk, dw, ho, sv, ia, tk, told, pl, nu, im, hw, kd, fg, so, mn, rw0, bt, h_3, (zne hF_2 (by decide) h57), (zne hF_2 (by decide) h58), (zne hF_2 (by decide) h59), (zne hF_2 (by decide) h60), (zne hF_2 (by decide) h61), (zne hF_2 (by decide) h62), (zne hF_2 (by decide) h63), (zne hF_2 (by decide) h64), (zne hF_2 (by decide) h65), (zne hF_2 (by decide) h66), (zne hF_2 (by decide) h67), hR⟩, hfm_16⟩)⟩ dX7_copy_133
                  · refine lv_iload hx hb dX7_copy_99 (lv_at hl 4 rfl) ?_
                    refine lv_if_lt (tgt := 131) hx hb dX7_copy_101 (by decide) (fun c_101 => ?_) (fun c_101 => ?_)
                    · refine lv_bipush (v := (-13)) hx hb dX7_copy_131 (by decide) ?_
                      have h2g : (bSh d ∧ bSh e0) ∧ ¬ hw (iN d) = 0 ∧ ¬ hw (iN e0) = 0 := ⟨⟨bIn7.mp b_7, bIn7.mp b_11⟩, c_37, c_46⟩
                      have hz2 : sFirst (sRowR sh d) (sRowR sh e0) = 0 := two_0 (a := 2) (c := 2) hHW h2g c_59 c_69
                      have hz := sFirst_0 (sRowR_le sh d) (sRowR_le sh e0) hz2
                      have hs := sRowR_0 hz.1
                      have hse := sRowR_0 hz.2
                      have hro := (hRS _ hd.2).2.2 hs.2
                      have hro_e0 := (hRS _ hd_e0.2).2.2 hse.2
                      have hgd := hG.2.2 _ hd.2
                      have hge := hG.2.2 _ hd_e0.2
                      have hsm := c_84
                      rw [hro.1, hro_e0.1] at hsm
                      have hbc : ¬ bCopy sh d i e0 j q := fun h => absurd c_101 (Int32.not_lt.mpr h.2.2.2.1)
                      have hq : ((-13) : Int32) = sCopy sh d i e0 j q := by unfold sCopy; rw [if_pos hz2, if_pos hsm, if_neg hbc]
                      have hfm_17 : frM F F_1 := (frM_up frM_rf hF_2 (by decide) (by decide))
                      exact zireti hC hZ hr hlocks ⟨hq, (by unfold sCopyS; rw [if_neg (fun h => hbc h.2.2)]; exact ⟨⟨bs, en, u, st, kk, dw, ho, sv, ia, tk, told, pl, nu, im, hw, kd, fg, so, mn, rw0, bt, h_3, (zne hF_2 (by decide) h57), (zne hF_2 (by decide) h58), (zne hF_2 (by decide) h59), (zne hF_2 (by decide) h60), (zne hF_2 (by decide) h61), (zne hF_2 (by decide) h62), (zne hF_2 (by decide) h63), (zne hF_2 (by decide) h64), (zne hF_2 (by decide) h65), (zne hF_2 (by decide) h66), (zne hF_2 (by decide) h67), hR⟩, hfm_17⟩)⟩ dX7_copy_133
                    · refine lv_iload_n hx hb dX7_copy_104 rfl (lv_at hl 2 rfl) ?_
                      refine lv_aload_n hx hb dX7_copy_105 rfl (lv_at hl 0 rfl) ?_
                      refine zget hC hZ fX7_47 (zlt hn rfl) h_3 rfl dX7_copy_106 ?_
                      refine lv_iload_n hx hb dX7_copy_109 rfl (lv_at hl 1 rfl) ?_
                      refine ziald hC hZ (zlt hn rfl) (zne hF_2 (by decide) h65) hd.1 hd.2 (by decide) dX7_copy_110 ?_
                      refine lv_iload hx hb dX7_copy_111 (lv_at hl 5 rfl) ?_
                      refine lv_isub hx hb dX7_copy_113 ?_
                      refine lv_icmp_gt (tgt := 131) hx hb dX7_copy_114 (by decide) (fun c_114 => ?_) (fun c_114 => ?_)
                      · refine lv_bipush (v := (-13)) hx hb dX7_copy_131 (by decide) ?_
                        have h2g : (bSh d ∧ bSh e0) ∧ ¬ hw (iN d) = 0 ∧ ¬ hw (iN e0) = 0 := ⟨⟨bIn7.mp b_7, bIn7.mp b_11⟩, c_37, c_46⟩
                        have hz2 : sFirst (sRowR sh d) (sRowR sh e0) = 0 := two_0 (a := 2) (c := 2) hHW h2g c_59 c_69
                        have hz := sFirst_0 (sRowR_le sh d) (sRowR_le sh e0) hz2
                        have hs := sRowR_0 hz.1
                        have hse := sRowR_0 hz.2
                        have hro := (hRS _ hd.2).2.2 hs.2
                        have hro_e0 := (hRS _ hd_e0.2).2.2 hse.2
                        have hgd := hG.2.2 _ hd.2
                        have hge := hG.2.2 _ hd_e0.2
                        have hsm := c_84
                        rw [hro.1, hro_e0.1] at hsm
                        have hm1 := mStretch (z := (sh (iN d)).2.2.2.1) (i := i) (q := q) hgd.2.1 hgd.2.2.1 (Int32.not_lt.mp c_92) (Int32.not_lt.mp c_96)
                        have hm2 := mStretch (z := (sh (iN e0)).2.2.2.1) (i := j) (q := q) hge.2.1 hge.2.2.1 (Int32.not_lt.mp c_92) (Int32.not_lt.mp c_101)
                        have c14 := c_114
                        rw [hro.2.1] at c14
                        have hbc : ¬ bCopy sh d i e0 j q := fun h => absurd (hm1.mp h.1) (Int32.not_le.mpr c14)
                        have hq : ((-13) : Int32) = sCopy sh d i e0 j q := by unfold sCopy; rw [if_pos hz2, if_pos hsm, if_neg hbc]
                        have hfm_18 : frM F F_1 := (frM_up frM_rf hF_2 (by decide) (by decide))
                        exact zireti hC hZ hr hlocks ⟨hq, (by unfold sCopyS; rw [if_neg (fun h => hbc h.2.2)]; exact ⟨⟨bs, en, u, st, kk, dw, ho, sv, ia, tk, told, pl, nu, im, hw, kd, fg, so, mn, rw0, bt, h_3, (zne hF_2 (by decide) h57), (zne hF_2 (by decide) h58), (zne hF_2 (by decide) h59), (zne hF_2 (by decide) h60), (zne hF_2 (by decide) h61), (zne hF_2 (by decide) h62), (zne hF_2 (by decide) h63), (zne hF_2 (by decide) h64), (zne hF_2 (by decide) h65), (zne hF_2 (by decide) h66), (zne hF_2 (by decide) h67), hR⟩, hfm_18⟩)⟩ dX7_copy_133
                      · refine lv_iload hx hb dX7_copy_117 (lv_at hl 4 rfl) ?_
                        refine lv_aload_n hx hb dX7_copy_119 rfl (lv_at hl 0 rfl) ?_
                        refine zget hC hZ fX7_47 (zlt hn rfl) h_3 rfl dX7_copy_120 ?_
                        refine lv_iload_n hx hb dX7_copy_123 rfl (lv_at hl 3 rfl) ?_
                        refine ziald hC hZ (zlt hn rfl) (zne hF_2 (by decide) h65) hd_e0.1 hd_e0.2 (by decide) dX7_copy_124 ?_
                        refine lv_iload hx hb dX7_copy_125 (lv_at hl 5 rfl) ?_
                        refine lv_isub hx hb dX7_copy_127 ?_
                        refine lv_icmp_le (tgt := 134) hx hb dX7_copy_128 (by decide) (fun c_128 => ?_) (fun c_128 => ?_)
                        · refine lv_iconst (v := 0) hx hb dX7_copy_134 (by decide) ?_
                          refine lv_istore (lv' := [(6, .int 0), (0, .ref (ad 56)), (1, .int d), (2, .int i), (3, .int e0), (4, .int j), (5, .int q)]) hx hb dX7_copy_135 hl (by decide) rfl (fun ls hl => ?_)
                          have h2g : (bSh d ∧ bSh e0) ∧ ¬ hw (iN d) = 0 ∧ ¬ hw (iN e0) = 0 := ⟨⟨bIn7.mp b_7, bIn7.mp b_11⟩, c_37, c_46⟩
                          have hz2 : sFirst (sRowR sh d) (sRowR sh e0) = 0 := two_0 (a := 2) (c := 2) hHW h2g c_59 c_69
                          have hz := sFirst_0 (sRowR_le sh d) (sRowR_le sh e0) hz2
                          have hs := sRowR_0 hz.1
                          have hse := sRowR_0 hz.2
                          have hro := (hRS _ hd.2).2.2 hs.2
                          have hro_e0 := (hRS _ hd_e0.2).2.2 hse.2
                          have hgd := hG.2.2 _ hd.2
                          have hge := hG.2.2 _ hd_e0.2
                          have hsm := c_84
                          rw [hro.1, hro_e0.1] at hsm
                          have hm1 := mStretch (z := (sh (iN d)).2.2.2.1) (i := i) (q := q) hgd.2.1 hgd.2.2.1 (Int32.not_lt.mp c_92) (Int32.not_lt.mp c_96)
                          have hm2 := mStretch (z := (sh (iN e0)).2.2.2.1) (i := j) (q := q) hge.2.1 hge.2.2.1 (Int32.not_lt.mp c_92) (Int32.not_lt.mp c_101)
                          have c14 := c_114
                          rw [hro.2.1] at c14
                          have c28 := c_128
                          rw [hro_e0.2.1] at c28
                          have hbc : bCopy sh d i e0 j q := ⟨hm1.mpr (Int32.not_lt.mp c14), hm2.mpr c28⟩
                          have hbi := bStretch_in hbc.1 hgd.2.1 hgd.2.2.1
                          have hbj := bStretch_in hbc.2 hge.2.1 hge.2.2.1
                          have hqn := iN_e (i := q) (i32le.mp hbc.1.1)
                          have hin := iN_e (i := i) (i32le.mp hbc.1.2.2.1)
                          have hjn := iN_e (i := j) (i32le.mp hbc.2.2.2.1)
                          have hiq9 : iN i + iN q ≤ 100 := hbi.2.2
                          have hjq9 : iN j + iN q ≤ 100 := hbj.2.2
                          have h67_19 : F_1 67 = oLongs cy 100 (zcl rw0 bt (100 * iN d + iN i) 0) := by rw [zcl_0]; exact (zne hF_2 (by decide) h67)
                          refine zlp (X := Nat) 137 (fun _ => []) (fun x ls F1 => lv_has ls 7 [(6, .int (nI x)), (0, .ref (ad 56)), (1, .int d), (2, .int i), (3, .int e0), (4, .int j), (5, .int q)] ∧ F1 = va_up F_1 67 (oLongs cy 100 (zcl rw0 bt (100 * iN d + iN i) x)) ∧ (x ≤ iN q)) (fun x => iN q - x) ?_ 0 hZ ⟨hl, (zself h67_19), (Nat.zero_le _)⟩
                          intro k ih137 ls F3_137 H locs hZ hφ
                          obtain ⟨hl, hF3_137, hk⟩ := hφ
                          have hl : lv_has ls 7 [(6, .int (nI k)), (0, .ref (ad 56)), (1, .int d), (2, .int i), (3, .int e0), (4, .int j), (5, .int q)] := hl
                          have hF3_137 : F3_137 = va_up F_1 67 (oLongs cy 100 (zcl rw0 bt (100 * iN d + iN i) k)) := hF3_137
                          have hk : k ≤ iN q := hk
                          have h_20 := zeq hF3_137
                          refine lv_iload hx hb dX7_copy_137 (lv_at hl 0 rfl) ?_
                          refine lv_iload hx hb dX7_copy_139 (lv_at hl 6 rfl) ?_
                          refine lv_icmp_ge (tgt := 171) hx hb dX7_copy_141 (by decide) (fun c_141 => ?_) (fun c_141 => ?_)
                          · refine lv_iconst (v := 0) hx hb dX7_copy_171 (by decide) ?_
                            refine lv_istore (lv' := [(6, .int 0), (0, .ref (ad 56)), (1, .int d), (2, .int i), (3, .int e0), (4, .int j), (5, .int q)]) hx hb dX7_copy_172 hl (by decide) rfl (fun ls hl => ?_)
                            have hkq : k = iN q := zge hqn.1 (by omega) hk c_141
                            have h67_21 := h_20
                            rw [hkq] at h67_21
                            have h66_22 : F3_137 66 = oLongs cy 800 (zdl rw0 (zcl rw0 bt (100 * iN d + iN i) (iN q)) (100 * iN e0 + iN j) 0) := by rw [zdl_0]; exact (zne hF3_137 (by decide) (zne hF_2 (by decide) h66))
                            refine zlp (X := Nat) 174 (fun _ => []) (fun x ls F1 => lv_has ls 7 [(6, .int (nI x)), (0, .ref (ad 56)), (1, .int d), (2, .int i), (3, .int e0), (4, .int j), (5, .int q)] ∧ F1 = va_up F3_137 66 (oLongs cy 800 (zdl rw0 (zcl rw0 bt (100 * iN d + iN i) (iN q)) (100 * iN e0 + iN j) x)) ∧ (x ≤ iN q)) (fun x => iN q - x) ?_ 0 hZ ⟨hl, (zself h66_22), (Nat.zero_le _)⟩
                            intro k2 ih174 ls F3_174 H locs hZ hφ
                            obtain ⟨hl, hF3_174, hk2⟩ := hφ
                            have hl : lv_has ls 7 [(6, .int (nI k2)), (0, .ref (ad 56)), (1, .int d), (2, .int i), (3, .int e0), (4, .int j), (5, .int q)] := hl
                            have hF3_174 : F3_174 = va_up F3_137 66 (oLongs cy 800 (zdl rw0 (zcl rw0 bt (100 * iN d + iN i) (iN q)) (100 * iN e0 + iN j) k2)) := hF3_174
                            have hk2 : k2 ≤ iN q := hk2
                            have h_23 := zeq hF3_174
                            refine lv_iload hx hb dX7_copy_174 (lv_at hl 0 rfl) ?_
                            refine lv_iload hx hb dX7_copy_176 (lv_at hl 6 rfl) ?_
                            refine lv_icmp_ge (tgt := 209) hx hb dX7_copy_178 (by decide) (fun c_178 => ?_) (fun c_178 => ?_)
                            · refine lv_iload hx hb dX7_copy_209 (lv_at hl 6 rfl) ?_
                              have hq : (q : Int32) = sCopy sh d i e0 j q := by unfold sCopy; rw [if_pos hz2, if_pos hsm, if_pos hbc]
                              have hkq : k2 = iN q := zge hqn.1 (by omega) hk2 c_178
                              have h66_24 := h_23
                              rw [hkq] at h66_24
                              have hfm_25 : frM F F3_174 := (frM_up (frM_up (frM_up frM_rf hF_2 (by decide) (by decide)) hF3_137 (by decide) (by decide)) hF3_174 (by decide) (by decide))
                              exact zireti hC hZ hr hlocks ⟨hq, (by unfold sCopyS; rw [if_pos ⟨hz2, hsm, hbc⟩]; exact ⟨⟨bs, en, u, st, kk, dw, ho, sv, ia, tk, told, pl, nu, im, hw, kd, fg, so, mn, (zdl rw0 (zcl rw0 bt (100 * iN d + iN i) (iN q)) (100 * iN e0 + iN j) (iN q)), (zcl rw0 bt (100 * iN d + iN i) (iN q)), (zne hF3_174 (by decide) (zne hF3_137 (by decide) h_3)), (zne hF3_174 (by decide) (zne hF3_137 (by decide) (zne hF_2 (by decide) h57))), (zne hF3_174 (by decide) (zne hF3_137 (by decide) (zne hF_2 (by decide) h58))), (zne hF3_174 (by decide) (zne hF3_137 (by decide) (zne hF_2 (by decide) h59))), (zne hF3_174 (by decide) (zne hF3_137 (by decide) (zne hF_2 (by decide) h60))), (zne hF3_174 (by decide) (zne hF3_137 (by decide) (zne hF_2 (by decide) h61))), (zne hF3_174 (by decide) (zne hF3_137 (by decide) (zne hF_2 (by decide) h62))), (zne hF3_174 (by decide) (zne hF3_137 (by decide) (zne hF_2 (by decide) h63))), (zne hF3_174 (by decide) (zne hF3_137 (by decide) (zne hF_2 (by decide) h64))), (zne hF3_174 (by decide) (zne hF3_137 (by decide) (zne hF_2 (by decide) h65))), h66_24, (zne hF3_174 (by decide) h67_21), (rX_copy hR hd.2 hd_e0.2 hs.2 hse.2 hbi.2.2 hbj.2.2 bt)⟩, hfm_25⟩)⟩ dX7_copy_211
                            · refine lv_aload_n hx hb dX7_copy_181 rfl (lv_at hl 1 rfl) ?_
                              refine zget hC hZ fX7_50 (zlt hn rfl) (zne hF3_174 (by decide) (zne hF3_137 (by decide) h_3)) rfl dX7_copy_182 ?_
                              refine lv_bipush (v := 100) hx hb dX7_copy_185 (by decide) ?_
                              refine lv_iload_n hx hb dX7_copy_187 rfl (lv_at hl 4 rfl) ?_
                              refine lv_imul hx hb dX7_copy_188 ?_
                              refine lv_iload hx hb dX7_copy_189 (lv_at hl 5 rfl) ?_
                              refine lv_iadd hx hb dX7_copy_191 ?_
                              refine lv_iload hx hb dX7_copy_192 (lv_at hl 0 rfl) ?_
                              refine lv_iadd hx hb dX7_copy_194 ?_
                              refine lv_aload_n hx hb dX7_copy_195 rfl (lv_at hl 1 rfl) ?_
                              refine zget hC hZ fX7_54 (zlt hn rfl) (zne hF3_174 (by decide) (zne hF3_137 (by decide) h_3)) rfl dX7_copy_196 ?_
                              refine lv_iload hx hb dX7_copy_199 (lv_at hl 0 rfl) ?_
                              have hlt2 := zlt2 hqn.1 (by omega) c_178
                              refine zlald hC hZ (zlt hn rfl) (zne hF3_174 (by decide) h67_21) rfl (by omega) (by decide) dX7_copy_201 ?_
                              refine zlast hC hZ (zlt hn rfl) h_23 (ix100k hd_e0.1 hjn.1 k2) (by have := hd_e0.2; omega) (by decide) dX7_copy_202 (fun F_26 hF_27 H locs hZ => ?_)
                              have h_28 := zeq hF_27
                              have h_29 := zne hF_27 (by decide) (zne hF3_174 (by decide) (zne hF3_137 (by decide) (zne hF_2 (by decide) h57)))
                              have h_30 := zne hF_27 (by decide) (zne hF3_174 (by decide) (zne hF3_137 (by decide) (zne hF_2 (by decide) h58)))
                              have h_31 := zne hF_27 (by decide) (zne hF3_174 (by decide) (zne hF3_137 (by decide) (zne hF_2 (by decide) h59)))
                              have h_32 := zne hF_27 (by decide) (zne hF3_174 (by decide) (zne hF3_137 (by decide) (zne hF_2 (by decide) h60)))
                              have h_33 := zne hF_27 (by decide) (zne hF3_174 (by decide) (zne hF3_137 (by decide) (zne hF_2 (by decide) h61)))
                              have h_34 := zne hF_27 (by decide) (zne hF3_174 (by decide) (zne hF3_137 (by decide) (zne hF_2 (by decide) h62)))
                              have h_35 := zne hF_27 (by decide) (zne hF3_174 (by decide) (zne hF3_137 (by decide) (zne hF_2 (by decide) h63)))
                              have h_36 := zne hF_27 (by decide) (zne hF3_174 (by decide) (zne hF3_137 (by decide) (zne hF_2 (by decide) h64)))
                              have h_37 := zne hF_27 (by decide) (zne hF3_174 (by decide) (zne hF3_137 (by decide) (zne hF_2 (by decide) h65)))
                              refine lv_iinc (v := nI (k2 + 1)) (lv' := [(6, .int (nI (k2 + 1))), (0, .ref (ad 56)), (1, .int d), (2, .int i), (3, .int e0), (4, .int j), (5, .int q)]) hx hb dX7_copy_203 hl (k := 0) rfl (nI_1 k2) (by decide) rfl (fun ls hl => ?_)
                              refine lv_goto (tgt := 174) hx hb dX7_copy_206 (by decide) ?_
                              have he_38 : F_26 = va_up F3_137 66 (oLongs cy 800 (vp_updL (zdl rw0 (zcl rw0 bt (100 * iN d + iN i) (iN q)) (100 * iN e0 + iN j) k2) ((100 * iN e0 + iN j) + k2) ((zcl rw0 bt (100 * iN d + iN i) (iN q)) k2))) := by rw [hF_27, hF3_174]; simp only [bx_uu]
                              rw [zdl_s] at he_38
                              exact ih174 (k2 + 1) ls _ H locs (by show iN q - (k2 + 1) < iN q - k2; omega) hZ ⟨hl, he_38, hlt2⟩
                          · refine lv_aload_n hx hb dX7_copy_144 rfl (lv_at hl 1 rfl) ?_
                            refine zget hC hZ fX7_54 (zlt hn rfl) (zne hF3_137 (by decide) h_3) rfl dX7_copy_145 ?_
                            refine lv_iload hx hb dX7_copy_148 (lv_at hl 0 rfl) ?_
                            refine lv_aload_n hx hb dX7_copy_150 rfl (lv_at hl 1 rfl) ?_
                            refine zget hC hZ fX7_50 (zlt hn rfl) (zne hF3_137 (by decide) h_3) rfl dX7_copy_151 ?_
                            refine lv_bipush (v := 100) hx hb dX7_copy_154 (by decide) ?_
                            refine lv_iload_n hx hb dX7_copy_156 rfl (lv_at hl 2 rfl) ?_
                            refine lv_imul hx hb dX7_copy_157 ?_
                            refine lv_iload_n hx hb dX7_copy_158 rfl (lv_at hl 3 rfl) ?_
                            refine lv_iadd hx hb dX7_copy_159 ?_
                            refine lv_iload hx hb dX7_copy_160 (lv_at hl 0 rfl) ?_
                            refine lv_iadd hx hb dX7_copy_162 ?_
                            have hlt := zlt2 hqn.1 (by omega) c_141
                            refine zlald hC hZ (zlt hn rfl) (zne hF3_137 (by decide) (zne hF_2 (by decide) h66)) (ix100k hd.1 hin.1 k) (by have := hd.2; omega) (by decide) dX7_copy_163 ?_
                            refine zlast hC hZ (zlt hn rfl) h_20 rfl (by omega) (by decide) dX7_copy_164 (fun F_39 hF_40 H locs hZ => ?_)
                            have h_41 := zeq hF_40
                            refine lv_iinc (v := nI (k + 1)) (lv' := [(6, .int (nI (k + 1))), (0, .ref (ad 56)), (1, .int d), (2, .int i), (3, .int e0), (4, .int j), (5, .int q)]) hx hb dX7_copy_165 hl (k := 0) rfl (nI_1 k) (by decide) rfl (fun ls hl => ?_)
                            refine lv_goto (tgt := 137) hx hb dX7_copy_168 (by decide) ?_
                            have he_42 : F_39 = va_up F_1 67 (oLongs cy 100 (vp_updL (zcl rw0 bt (100 * iN d + iN i) k) k (rw0 ((100 * iN d + iN i) + k)))) := by rw [hF_40, hF3_137]; simp only [bx_uu]
                            rw [zcl_s] at he_42
                            exact ih137 (k + 1) ls _ H locs (by show iN q - (k + 1) < iN q - k; omega) hZ ⟨hl, he_42, hlt⟩
                        · refine lv_bipush (v := (-13)) hx hb dX7_copy_131 (by decide) ?_
                          have h2g : (bSh d ∧ bSh e0) ∧ ¬ hw (iN d) = 0 ∧ ¬ hw (iN e0) = 0 := ⟨⟨bIn7.mp b_7, bIn7.mp b_11⟩, c_37, c_46⟩
                          have hz2 : sFirst (sRowR sh d) (sRowR sh e0) = 0 := two_0 (a := 2) (c := 2) hHW h2g c_59 c_69
                          have hz := sFirst_0 (sRowR_le sh d) (sRowR_le sh e0) hz2
                          have hs := sRowR_0 hz.1
                          have hse := sRowR_0 hz.2
                          have hro := (hRS _ hd.2).2.2 hs.2
                          have hro_e0 := (hRS _ hd_e0.2).2.2 hse.2
                          have hgd := hG.2.2 _ hd.2
                          have hge := hG.2.2 _ hd_e0.2
                          have hsm := c_84
                          rw [hro.1, hro_e0.1] at hsm
                          have hm1 := mStretch (z := (sh (iN d)).2.2.2.1) (i := i) (q := q) hgd.2.1 hgd.2.2.1 (Int32.not_lt.mp c_92) (Int32.not_lt.mp c_96)
                          have hm2 := mStretch (z := (sh (iN e0)).2.2.2.1) (i := j) (q := q) hge.2.1 hge.2.2.1 (Int32.not_lt.mp c_92) (Int32.not_lt.mp c_101)
                          have c14 := c_114
                          rw [hro.2.1] at c14
                          have c28 := c_128
                          rw [hro_e0.2.1] at c28
                          have hbc : ¬ bCopy sh d i e0 j q := fun h => absurd (hm2.mp h.2) c28
                          have hq : ((-13) : Int32) = sCopy sh d i e0 j q := by unfold sCopy; rw [if_pos hz2, if_pos hsm, if_neg hbc]
                          have hfm_43 : frM F F_1 := (frM_up frM_rf hF_2 (by decide) (by decide))
                          exact zireti hC hZ hr hlocks ⟨hq, (by unfold sCopyS; rw [if_neg (fun h => hbc h.2.2)]; exact ⟨⟨bs, en, u, st, kk, dw, ho, sv, ia, tk, told, pl, nu, im, hw, kd, fg, so, mn, rw0, bt, h_3, (zne hF_2 (by decide) h57), (zne hF_2 (by decide) h58), (zne hF_2 (by decide) h59), (zne hF_2 (by decide) h60), (zne hF_2 (by decide) h61), (zne hF_2 (by decide) h62), (zne hF_2 (by decide) h63), (zne hF_2 (by decide) h64), (zne hF_2 (by decide) h65), (zne hF_2 (by decide) h66), (zne hF_2 (by decide) h67), hR⟩, hfm_43⟩)⟩ dX7_copy_133
              · refine lv_bipush (v := (-12)) hx hb dX7_copy_87 (by decide) ?_
                have h2g : (bSh d ∧ bSh e0) ∧ ¬ hw (iN d) = 0 ∧ ¬ hw (iN e0) = 0 := ⟨⟨bIn7.mp b_7, bIn7.mp b_11⟩, c_37, c_46⟩
                have hz2 : sFirst (sRowR sh d) (sRowR sh e0) = 0 := two_0 (a := 2) (c := 2) hHW h2g c_59 c_69
                have hz := sFirst_0 (sRowR_le sh d) (sRowR_le sh e0) hz2
                have hs := sRowR_0 hz.1
                have hse := sRowR_0 hz.2
                have hro := (hRS _ hd.2).2.2 hs.2
                have hro_e0 := (hRS _ hd_e0.2).2.2 hse.2
                have hgd := hG.2.2 _ hd.2
                have hge := hG.2.2 _ hd_e0.2
                have hsm := c_84
                rw [hro.1, hro_e0.1] at hsm
                have hq : ((-12) : Int32) = sCopy sh d i e0 j q := by unfold sCopy; rw [if_pos hz2, if_neg hsm]
                have hfm_44 : frM F F_1 := (frM_up frM_rf hF_2 (by decide) (by decide))
                exact zireti hC hZ hr hlocks ⟨hq, (by unfold sCopyS; rw [if_neg (fun h => hsm h.2.1)]; exact ⟨⟨bs, en, u, st, kk, dw, ho, sv, ia, tk, told, pl, nu, im, hw, kd, fg, so, mn, rw0, bt, h_3, (zne hF_2 (by decide) h57), (zne hF_2 (by decide) h58), (zne hF_2 (by decide) h59), (zne hF_2 (by decide) h60), (zne hF_2 (by decide) h61), (zne hF_2 (by decide) h62), (zne hF_2 (by decide) h63), (zne hF_2 (by decide) h64), (zne hF_2 (by decide) h65), (zne hF_2 (by decide) h66), (zne hF_2 (by decide) h67), hR⟩, hfm_44⟩)⟩ dX7_copy_89
        · refine lv_bipush (v := (-11)) hx hb dX7_copy_49 (by decide) ?_
          have hm : mTwo hw d e0 = -11 := (if_pos ⟨bIn7.mp b_7, bIn7.mp b_11⟩).trans (if_pos (Or.inr c_46))
          have hrf : mTwo hw d e0 = sFirst (sRowR sh d) (sRowR sh e0) := mTwo_neg (a := 2) (c := 2) hHW (by rw [hm]; decide)
          rw [hm] at hrf
          have hnz : ¬ sFirst (sRowR sh d) (sRowR sh e0) = 0 := by rw [← hrf]; decide
          have hq : ((-11) : Int32) = sCopy sh d i e0 j q := by unfold sCopy; rw [if_neg hnz]; exact hrf
          have hfm_45 : frM F F_1 := (frM_up frM_rf hF_2 (by decide) (by decide))
          exact zireti hC hZ hr hlocks ⟨hq, (by unfold sCopyS; rw [if_neg (fun h => hnz h.1)]; exact ⟨⟨bs, en, u, st, kk, dw, ho, sv, ia, tk, told, pl, nu, im, hw, kd, fg, so, mn, rw0, bt, h_3, (zne hF_2 (by decide) h57), (zne hF_2 (by decide) h58), (zne hF_2 (by decide) h59), (zne hF_2 (by decide) h60), (zne hF_2 (by decide) h61), (zne hF_2 (by decide) h62), (zne hF_2 (by decide) h63), (zne hF_2 (by decide) h64), (zne hF_2 (by decide) h65), (zne hF_2 (by decide) h66), (zne hF_2 (by decide) h67), hR⟩, hfm_45⟩)⟩ dX7_copy_51
    · rw [if_neg b_11] at hp_10
      subst hp_10
      refine lv_if_ne (tgt := 31) hx hb dX7_copy_26 (by decide) (fun h => absurd (show (0 : Int32) = 0 by decide) h) (fun _ => ?_)
      refine lv_iconst (v := (-1)) hx hb dX7_copy_29 (by decide) ?_
      have hm : mTwo hw d e0 = -1 := if_neg (fun h => b_11 (bIn7.mpr h.2))
      have hrf : mTwo hw d e0 = sFirst (sRowR sh d) (sRowR sh e0) := mTwo_neg (a := 2) (c := 2) hHW (by rw [hm]; decide)
      rw [hm] at hrf
      have hnz : ¬ sFirst (sRowR sh d) (sRowR sh e0) = 0 := by rw [← hrf]; decide
      have hq : ((-1) : Int32) = sCopy sh d i e0 j q := by unfold sCopy; rw [if_neg hnz]; exact hrf
      have hfm_46 : frM F F_1 := (frM_up frM_rf hF_2 (by decide) (by decide))
      exact zireti hC hZ hr hlocks ⟨hq, (by unfold sCopyS; rw [if_neg (fun h => hnz h.1)]; exact ⟨⟨bs, en, u, st, kk, dw, ho, sv, ia, tk, told, pl, nu, im, hw, kd, fg, so, mn, rw0, bt, h_3, (zne hF_2 (by decide) h57), (zne hF_2 (by decide) h58), (zne hF_2 (by decide) h59), (zne hF_2 (by decide) h60), (zne hF_2 (by decide) h61), (zne hF_2 (by decide) h62), (zne hF_2 (by decide) h63), (zne hF_2 (by decide) h64), (zne hF_2 (by decide) h65), (zne hF_2 (by decide) h66), (zne hF_2 (by decide) h67), hR⟩, hfm_46⟩)⟩ dX7_copy_30
  · rw [if_neg b_7] at hp_6
    subst hp_6
    refine lv_if_eq (tgt := 29) hx hb dX7_copy_14 (by decide) (fun _ => ?_) (fun h => absurd (show (0 : Int32) = 0 by decide) h)
    refine lv_iconst (v := (-1)) hx hb dX7_copy_29 (by decide) ?_
    have hm : mTwo hw d e0 = -1 := if_neg (fun h => b_7 (bIn7.mpr h.1))
    have hrf : mTwo hw d e0 = sFirst (sRowR sh d) (sRowR sh e0) := mTwo_neg (a := 2) (c := 2) hHW (by rw [hm]; decide)
    rw [hm] at hrf
    have hnz : ¬ sFirst (sRowR sh d) (sRowR sh e0) = 0 := by rw [← hrf]; decide
    have hq : ((-1) : Int32) = sCopy sh d i e0 j q := by unfold sCopy; rw [if_neg hnz]; exact hrf
    have hfm_47 : frM F F_1 := (frM_up frM_rf hF_2 (by decide) (by decide))
    exact zireti hC hZ hr hlocks ⟨hq, (by unfold sCopyS; rw [if_neg (fun h => hnz h.1)]; exact ⟨⟨bs, en, u, st, kk, dw, ho, sv, ia, tk, told, pl, nu, im, hw, kd, fg, so, mn, rw0, bt, h_3, (zne hF_2 (by decide) h57), (zne hF_2 (by decide) h58), (zne hF_2 (by decide) h59), (zne hF_2 (by decide) h60), (zne hF_2 (by decide) h61), (zne hF_2 (by decide) h62), (zne hF_2 (by decide) h63), (zne hF_2 (by decide) h64), (zne hF_2 (by decide) h65), (zne hF_2 (by decide) h66), (zne hF_2 (by decide) h67), hR⟩, hfm_47⟩)⟩ dX7_copy_30
