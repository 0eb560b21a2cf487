theorem mX7_set : zMd yX7_set cX7_set 6 (some .int) 2 := ⟨by decide +kernel, gt_of 884 (by decide +kernel) rfl, gt_of 52 (by decide +kernel) rfl, by decide⟩
theorem dX7_set_0 : decode cX7_set 0 = .ok (.aload_n 0, 1) := by decide +kernel
theorem dX7_set_1 : decode cX7_set 1 = .ok (.iconst 0, 1) := by decide +kernel
theorem dX7_set_2 : decode cX7_set 2 = .ok (.putfield 57, 3) := by decide +kernel
theorem dX7_set_5 : decode cX7_set 5 = .ok (.iload_n 1, 1) := by decide +kernel
theorem dX7_set_6 : decode cX7_set 6 = .ok (.iconst 3, 1) := by decide +kernel
theorem dX7_set_7 : decode cX7_set 7 = .ok (.if_icmp .ne 8, 3) := by decide +kernel
theorem dX7_set_15 : decode cX7_set 15 = .ok (.iload_n 1, 1) := by decide +kernel
theorem dX7_set_16 : decode cX7_set 16 = .ok (.iconst 4, 1) := by decide +kernel
theorem dX7_set_17 : decode cX7_set 17 = .ok (.if_icmp .ne 7, 3) := by decide +kernel
theorem dX7_set_24 : decode cX7_set 24 = .ok (.iconst 0, 1) := by decide +kernel
theorem dX7_set_25 : decode cX7_set 25 = .ok (.istore_n 3, 1) := by decide +kernel
theorem dX7_set_26 : decode cX7_set 26 = .ok (.iload_n 1, 1) := by decide +kernel
theorem dX7_set_27 : decode cX7_set 27 = .ok (.iconst 2, 1) := by decide +kernel
theorem dX7_set_28 : decode cX7_set 28 = .ok (.if_icmp .ne 7, 3) := by decide +kernel
theorem dX7_set_35 : decode cX7_set 35 = .ok (.iload_n 1, 1) := by decide +kernel
theorem dX7_set_36 : decode cX7_set 36 = .ok (.iconst 3, 1) := by decide +kernel
theorem dX7_set_37 : decode cX7_set 37 = .ok (.if_icmp .ne 9, 3) := by decide +kernel
theorem dX7_set_46 : decode cX7_set 46 = .ok (.iload_n 1, 1) := by decide +kernel
theorem dX7_set_47 : decode cX7_set 47 = .ok (.iconst 4, 1) := by decide +kernel
theorem dX7_set_48 : decode cX7_set 48 = .ok (.if_icmp .ne 9, 3) := by decide +kernel
theorem dX7_set_57 : decode cX7_set 57 = .ok (.bipush 100, 2) := by decide +kernel
theorem dX7_set_59 : decode cX7_set 59 = .ok (.istore 4, 2) := by decide +kernel
theorem dX7_set_61 : decode cX7_set 61 = .ok (.iload_n 1, 1) := by decide +kernel
theorem dX7_set_62 : decode cX7_set 62 = .ok (.i2l, 1) := by decide +kernel
theorem dX7_set_63 : decode cX7_set 63 = .ok (.lconst 0, 1) := by decide +kernel
theorem dX7_set_64 : decode cX7_set 64 = .ok (.ldc2_w 61, 3) := by decide +kernel
theorem qX7_61 : Cond.constantLong RX7 61 4 ∈ gtbl := gt_of 885 (by decide +kernel) rfl
theorem dX7_set_67 : decode cX7_set 67 = .ok (.invokestatic 63, 3) := by decide +kernel
theorem dX7_set_70 : decode cX7_set 70 = .ok (.ifCond .eq 16, 3) := by decide +kernel
theorem dX7_set_73 : decode cX7_set 73 = .ok (.iload_n 2, 1) := by decide +kernel
theorem dX7_set_74 : decode cX7_set 74 = .ok (.i2l, 1) := by decide +kernel
theorem dX7_set_75 : decode cX7_set 75 = .ok (.iload_n 3, 1) := by decide +kernel
theorem dX7_set_76 : decode cX7_set 76 = .ok (.i2l, 1) := by decide +kernel
theorem dX7_set_77 : decode cX7_set 77 = .ok (.iload 4, 2) := by decide +kernel
theorem dX7_set_79 : decode cX7_set 79 = .ok (.i2l, 1) := by decide +kernel
theorem dX7_set_80 : decode cX7_set 80 = .ok (.invokestatic 63, 3) := by decide +kernel
theorem dX7_set_83 : decode cX7_set 83 = .ok (.ifCond .ne 5, 3) := by decide +kernel
theorem dX7_set_88 : decode cX7_set 88 = .ok (.iload_n 1, 1) := by decide +kernel
theorem dX7_set_89 : decode cX7_set 89 = .ok (.iconst 3, 1) := by decide +kernel
theorem dX7_set_90 : decode cX7_set 90 = .ok (.if_icmp .ne 14, 3) := by decide +kernel
theorem dX7_set_104 : decode cX7_set 104 = .ok (.iload_n 1, 1) := by decide +kernel
theorem dX7_set_105 : decode cX7_set 105 = .ok (.ifCond .ne 10, 3) := by decide +kernel
theorem dX7_set_115 : decode cX7_set 115 = .ok (.iload_n 1, 1) := by decide +kernel
theorem dX7_set_116 : decode cX7_set 116 = .ok (.iconst 1, 1) := by decide +kernel
theorem dX7_set_117 : decode cX7_set 117 = .ok (.if_icmp .ne 10, 3) := by decide +kernel
theorem dX7_set_127 : decode cX7_set 127 = .ok (.iload_n 1, 1) := by decide +kernel
theorem dX7_set_128 : decode cX7_set 128 = .ok (.iconst 2, 1) := by decide +kernel
theorem dX7_set_129 : decode cX7_set 129 = .ok (.if_icmp .ne 10, 3) := by decide +kernel
theorem dX7_set_139 : decode cX7_set 139 = .ok (.iload_n 1, 1) := by decide +kernel
theorem dX7_set_140 : decode cX7_set 140 = .ok (.iconst 3, 1) := by decide +kernel
theorem dX7_set_141 : decode cX7_set 141 = .ok (.if_icmp .ne 10, 3) := by decide +kernel
theorem dX7_set_120 : decode cX7_set 120 = .ok (.aload_n 0, 1) := by decide +kernel
theorem dX7_set_121 : decode cX7_set 121 = .ok (.getfield 13, 3) := by decide +kernel
theorem dX7_set_124 : decode cX7_set 124 = .ok (.goto 31, 3) := by decide +kernel
theorem dX7_set_155 : decode cX7_set 155 = .ok (.istore 5, 2) := by decide +kernel
theorem dX7_set_157 : decode cX7_set 157 = .ok (.aload_n 0, 1) := by decide +kernel
theorem dX7_set_158 : decode cX7_set 158 = .ok (.iload_n 1, 1) := by decide +kernel
theorem dX7_set_159 : decode cX7_set 159 = .ok (.ifCond .ne 7, 3) := by decide +kernel
theorem dX7_set_166 : decode cX7_set 166 = .ok (.aload_n 0, 1) := by decide +kernel
theorem dX7_set_167 : decode cX7_set 167 = .ok (.getfield 7, 3) := by decide +kernel
theorem dX7_set_170 : decode cX7_set 170 = .ok (.putfield 7, 3) := by decide +kernel
theorem dX7_set_173 : decode cX7_set 173 = .ok (.aload_n 0, 1) := by decide +kernel
theorem dX7_set_174 : decode cX7_set 174 = .ok (.iload_n 1, 1) := by decide +kernel
theorem dX7_set_175 : decode cX7_set 175 = .ok (.iconst 1, 1) := by decide +kernel
theorem dX7_set_176 : decode cX7_set 176 = .ok (.if_icmp .ne 7, 3) := by decide +kernel
theorem dX7_set_179 : decode cX7_set 179 = .ok (.iload_n 2, 1) := by decide +kernel
theorem dX7_set_180 : decode cX7_set 180 = .ok (.goto 7, 3) := by decide +kernel
theorem dX7_set_187 : decode cX7_set 187 = .ok (.putfield 13, 3) := by decide +kernel
theorem dX7_set_190 : decode cX7_set 190 = .ok (.aload_n 0, 1) := by decide +kernel
theorem dX7_set_191 : decode cX7_set 191 = .ok (.iload_n 1, 1) := by decide +kernel
theorem dX7_set_192 : decode cX7_set 192 = .ok (.iconst 2, 1) := by decide +kernel
theorem dX7_set_193 : decode cX7_set 193 = .ok (.if_icmp .ne 7, 3) := by decide +kernel
theorem dX7_set_200 : decode cX7_set 200 = .ok (.aload_n 0, 1) := by decide +kernel
theorem dX7_set_201 : decode cX7_set 201 = .ok (.getfield 70, 3) := by decide +kernel
theorem dX7_set_204 : decode cX7_set 204 = .ok (.putfield 70, 3) := by decide +kernel
theorem dX7_set_207 : decode cX7_set 207 = .ok (.aload_n 0, 1) := by decide +kernel
theorem dX7_set_208 : decode cX7_set 208 = .ok (.iload_n 1, 1) := by decide +kernel
theorem dX7_set_209 : decode cX7_set 209 = .ok (.iconst 3, 1) := by decide +kernel
theorem dX7_set_210 : decode cX7_set 210 = .ok (.if_icmp .ne 7, 3) := by decide +kernel
theorem dX7_set_217 : decode cX7_set 217 = .ok (.aload_n 0, 1) := by decide +kernel
theorem dX7_set_218 : decode cX7_set 218 = .ok (.getfield 16, 3) := by decide +kernel
theorem dX7_set_221 : decode cX7_set 221 = .ok (.putfield 16, 3) := by decide +kernel
theorem dX7_set_224 : decode cX7_set 224 = .ok (.aload_n 0, 1) := by decide +kernel
theorem dX7_set_225 : decode cX7_set 225 = .ok (.iload_n 1, 1) := by decide +kernel
theorem dX7_set_226 : decode cX7_set 226 = .ok (.iconst 4, 1) := by decide +kernel
theorem dX7_set_227 : decode cX7_set 227 = .ok (.if_icmp .ne 7, 3) := by decide +kernel
theorem dX7_set_234 : decode cX7_set 234 = .ok (.aload_n 0, 1) := by decide +kernel
theorem dX7_set_235 : decode cX7_set 235 = .ok (.getfield 19, 3) := by decide +kernel
theorem dX7_set_238 : decode cX7_set 238 = .ok (.putfield 19, 3) := by decide +kernel
theorem dX7_set_241 : decode cX7_set 241 = .ok (.iload 5, 2) := by decide +kernel
theorem dX7_set_243 : decode cX7_set 243 = .ok (.ireturn, 1) := by decide +kernel
theorem dX7_set_108 : decode cX7_set 108 = .ok (.aload_n 0, 1) := by decide +kernel
theorem dX7_set_109 : decode cX7_set 109 = .ok (.getfield 7, 3) := by decide +kernel
theorem dX7_set_112 : decode cX7_set 112 = .ok (.goto 43, 3) := by decide +kernel
theorem dX7_set_162 : decode cX7_set 162 = .ok (.iload_n 2, 1) := by decide +kernel
theorem dX7_set_163 : decode cX7_set 163 = .ok (.goto 7, 3) := by decide +kernel
theorem dX7_set_183 : decode cX7_set 183 = .ok (.aload_n 0, 1) := by decide +kernel
theorem dX7_set_184 : decode cX7_set 184 = .ok (.getfield 13, 3) := by decide +kernel
theorem dX7_set_86 : decode cX7_set 86 = .ok (.iconst (-1), 1) := by decide +kernel
theorem dX7_set_87 : decode cX7_set 87 = .ok (.ireturn, 1) := by decide +kernel
theorem dX7_set_31 : decode cX7_set 31 = .ok (.iconst 2, 1) := by decide +kernel
theorem dX7_set_32 : decode cX7_set 32 = .ok (.goto 27, 3) := by decide +kernel
theorem dX7_set_132 : decode cX7_set 132 = .ok (.aload_n 0, 1) := by decide +kernel
theorem dX7_set_133 : decode cX7_set 133 = .ok (.getfield 70, 3) := by decide +kernel
theorem dX7_set_136 : decode cX7_set 136 = .ok (.goto 19, 3) := by decide +kernel
theorem dX7_set_196 : decode cX7_set 196 = .ok (.iload_n 2, 1) := by decide +kernel
theorem dX7_set_197 : decode cX7_set 197 = .ok (.goto 7, 3) := by decide +kernel
theorem dX7_set_20 : decode cX7_set 20 = .ok (.iconst 1, 1) := by decide +kernel
theorem dX7_set_21 : decode cX7_set 21 = .ok (.goto 4, 3) := by decide +kernel
theorem dX7_set_51 : decode cX7_set 51 = .ok (.sipush 400, 3) := by decide +kernel
theorem dX7_set_54 : decode cX7_set 54 = .ok (.goto 5, 3) := by decide +kernel
theorem dX7_set_151 : decode cX7_set 151 = .ok (.aload_n 0, 1) := by decide +kernel
theorem dX7_set_152 : decode cX7_set 152 = .ok (.getfield 19, 3) := by decide +kernel
theorem dX7_set_230 : decode cX7_set 230 = .ok (.iload_n 2, 1) := by decide +kernel
theorem dX7_set_231 : decode cX7_set 231 = .ok (.goto 7, 3) := by decide +kernel
theorem dX7_set_10 : decode cX7_set 10 = .ok (.bipush 10, 2) := by decide +kernel
theorem dX7_set_12 : decode cX7_set 12 = .ok (.goto 13, 3) := by decide +kernel
theorem dX7_set_40 : decode cX7_set 40 = .ok (.sipush 9999, 3) := by decide +kernel
theorem dX7_set_43 : decode cX7_set 43 = .ok (.goto 16, 3) := by decide +kernel
theorem dX7_set_93 : decode cX7_set 93 = .ok (.aload_n 0, 1) := by decide +kernel
theorem dX7_set_94 : decode cX7_set 94 = .ok (.getfield 67, 3) := by decide +kernel
theorem dX7_set_97 : decode cX7_set 97 = .ok (.iload_n 2, 1) := by decide +kernel
theorem dX7_set_98 : decode cX7_set 98 = .ok (.if_icmp .lt 6, 3) := by decide +kernel
theorem dX7_set_144 : decode cX7_set 144 = .ok (.aload_n 0, 1) := by decide +kernel
theorem dX7_set_145 : decode cX7_set 145 = .ok (.getfield 16, 3) := by decide +kernel
theorem dX7_set_148 : decode cX7_set 148 = .ok (.goto 7, 3) := by decide +kernel
theorem dX7_set_213 : decode cX7_set 213 = .ok (.iload_n 2, 1) := by decide +kernel
theorem dX7_set_214 : decode cX7_set 214 = .ok (.goto 7, 3) := by decide +kernel
theorem dX7_set_101 : decode cX7_set 101 = .ok (.bipush (-3), 2) := by decide +kernel
theorem dX7_set_103 : decode cX7_set 103 = .ok (.ireturn, 1) := by decide +kernel
set_option maxRecDepth 100000 in
theorem c_X7_set (l : Launch) (D : va_G) (cy : Nat → Nat) (n : Nat) (ad : Nat → Nat) (F : Nat → va_E) (sz : Nat) (th0 pic : Int32) (sc ps : Scn) (sh : Nat → Shf) (hn : 68 ≤ n) (hX : RM ad cy F th0 pic sc ps sh) (hG : gX sc ps sh) (what q : Int32) : Met l yX7_set (zw yX7_set cX7_set 6 (some .int)) (rmL 1) (zPc D cy n ad F sz [.ref (ad 56), .int what, .int q]) (va_Qi (fun r F1 => r = sSet sc what q ∧ RM ad cy F1 0 pic (sSetN sc what q) ps sh ∧ frM F F1) (zB D n ad) (zA n ad sz)) 0 0 (zA n ad sz) := by
  refine zmet (by decide +kernel) (Nat.le_of_ble_eq_true rfl) (fun p e s m args below meth c ls hC hsz hZ hA hr hlocks hnm hl => ?_)
  have hC : zC p m c cX7_set 6 s args RX7 D cy := hC
  have hx := hC.1.1
  have hb := hC.1.2.1
  have hl : lv_has ls 6 [(0, .ref (ad 56)), (1, .int what), (2, .int q)] := hl
  obtain ⟨bs, en, u, st, kk, dw, ho, sv, ia, tk, told, pl, nu, im, hw, kd, fg, so, mn, rw0, bt, hM, h57, h58, h59, h60, h61, h62, h63, h64, h65, h66, h67, hR⟩ := hX
  have hRS := hR.2.2
  have hHW := rX_hw hR
  refine lv_aload_n hx hb dX7_set_0 rfl (lv_at hl 0 rfl) ?_
  refine lv_iconst (v := 0) hx hb dX7_set_1 (by decide) ?_
  refine zput (E := oModel ad sc.1 sc.2.1 sc.2.2.2.1 sc.2.2.2.2 0 bs en u st kk dw ho sv pic ia tk) hC hZ pX7_57 (zlt hn rfl) hM rfl rfl rfl (Nat.le_of_ble_eq_true rfl) dX7_set_2 (fun F_1 hF_2 H locs hZ => ?_)
  have h_3 := zeq hF_2
  refine lv_iload_n hx hb dX7_set_5 rfl (lv_at hl 1 rfl) ?_
  refine lv_iconst (v := 3) hx hb dX7_set_6 (by decide) ?_
  refine lv_icmp_ne (tgt := 15) hx hb dX7_set_7 (by decide) (fun c_7 => ?_) (fun c_7 => ?_)
  · refine lv_iload_n hx hb dX7_set_15 rfl (lv_at hl 1 rfl) ?_
    refine lv_iconst (v := 4) hx hb dX7_set_16 (by decide) ?_
    refine lv_icmp_ne (tgt := 24) hx hb dX7_set_17 (by decide) (fun c_17 => ?_) (fun c_17 => ?_)
    · refine lv_iconst (v := 0) hx hb dX7_set_24 (by decide) ?_
      refine lv_istore_n (lv' := [(3, .int 0), (0, .ref (ad 56)), (1, .int what), (2, .int q)]) hx hb dX7_set_25 rfl hl (by decide) rfl (fun ls hl => ?_)
      refine lv_iload_n hx hb dX7_set_26 rfl (lv_at hl 2 rfl) ?_
      refine lv_iconst (v := 2) hx hb dX7_set_27 (by decide) ?_
      refine lv_icmp_ne (tgt := 35) hx hb dX7_set_28 (by decide) (fun c_28 => ?_) (fun c_28 => ?_)
      · refine lv_iload_n hx hb dX7_set_35 rfl (lv_at hl 2 rfl) ?_
        refine lv_iconst (v := 3) hx hb dX7_set_36 (by decide) ?_
        refine lv_icmp_ne (tgt := 46) hx hb dX7_set_37 (by decide) (fun _ => ?_) (fun h => absurd h c_7)
        refine lv_iload_n hx hb dX7_set_46 rfl (lv_at hl 2 rfl) ?_
        refine lv_iconst (v := 4) hx hb dX7_set_47 (by decide) ?_
        refine lv_icmp_ne (tgt := 57) hx hb dX7_set_48 (by decide) (fun _ => ?_) (fun h => absurd h c_17)
        refine lv_bipush (v := 100) hx hb dX7_set_57 (by decide) ?_
        refine lv_istore (lv' := [(4, .int 100), (3, .int 0), (0, .ref (ad 56)), (1, .int what), (2, .int q)]) hx hb dX7_set_59 hl (by decide) rfl (fun ls hl => ?_)
        refine lv_iload_n hx hb dX7_set_61 rfl (lv_at hl 3 rfl) ?_
        refine lv_i2l (v := (what).toInt64) hx hb dX7_set_62 (by rfl) ?_
        refine lv_lconst (v := 0) hx hb dX7_set_63 (by decide) ?_
        refine lv_ldc2 (v := 4) hx hb hC.1.2.2.2.1 (hC.1.2.2.2.2 _ qX7_61) dX7_set_64 ?_
        refine zgoi hZ hA (zrunS (As := [.long ((what).toInt64), .long 0, .long 4]) (rest := []) hC hZ (c_X7_in l D cy n ad F_1 H.size what 0 4 0 4 (by decide) (by decide)) mX7_in sX7_in kX7_63 (zRj_of rfl) rfl hl.1 rfl (Nat.le_of_ble_eq_true rfl) dX7_set_67 ⟨Nat.le_refl _, Nat.le_refl _⟩) (fun r_5 F_4 hp_6 H locs hZ => ?_)
        obtain ⟨hp_6, rfl⟩ := hp_6
        by_cases b_7 : bIn what 0 4
        · rw [if_pos b_7] at hp_6
          subst hp_6
          refine lv_if_eq (tgt := 86) hx hb dX7_set_70 (by decide) (fun h => absurd (show (1 : Int32) = 0 from h) (by decide)) (fun _ => ?_)
          refine lv_iload_n hx hb dX7_set_73 rfl (lv_at hl 4 rfl) ?_
          refine lv_i2l (v := (q).toInt64) hx hb dX7_set_74 (by rfl) ?_
          refine lv_iload_n hx hb dX7_set_75 rfl (lv_at hl 1 rfl) ?_
          refine lv_i2l (v := 0) hx hb dX7_set_76 (by decide) ?_
          refine lv_iload hx hb dX7_set_77 (lv_at hl 0 rfl) ?_
          refine lv_i2l (v := 100) hx hb dX7_set_79 (by decide) ?_
          refine zgoi hZ hA (zrunS (As := [.long ((q).toInt64), .long 0, .long 100]) (rest := []) hC hZ (c_X7_in l D cy n ad F_1 H.size q 0 100 0 100 (by decide) (by decide)) mX7_in sX7_in kX7_63 (zRj_of rfl) rfl hl.1 rfl (Nat.le_of_ble_eq_true rfl) dX7_set_80 ⟨Nat.le_refl _, Nat.le_refl _⟩) (fun r_9 F_8 hp_10 H locs hZ => ?_)
          obtain ⟨hp_10, rfl⟩ := hp_10
          by_cases b_11 : bIn q 0 100
          · rw [if_pos b_11] at hp_10
            subst hp_10
            refine lv_if_ne (tgt := 88) hx hb dX7_set_83 (by decide) (fun _ => ?_) (fun h => absurd (show (1 : Int32) = 0 from h) (by decide))
            refine lv_iload_n hx hb dX7_set_88 rfl (lv_at hl 3 rfl) ?_
            refine lv_iconst (v := 3) hx hb dX7_set_89 (by decide) ?_
            refine lv_icmp_ne (tgt := 104) hx hb dX7_set_90 (by decide) (fun _ => ?_) (fun h => absurd h c_7)
            refine lv_iload_n hx hb dX7_set_104 rfl (lv_at hl 3 rfl) ?_
            refine lv_if_ne (tgt := 115) hx hb dX7_set_105 (by decide) (fun c_105 => ?_) (fun c_105 => ?_)
            · refine lv_iload_n hx hb dX7_set_115 rfl (lv_at hl 3 rfl) ?_
              refine lv_iconst (v := 1) hx hb dX7_set_116 (by decide) ?_
              refine lv_icmp_ne (tgt := 127) hx hb dX7_set_117 (by decide) (fun c_117 => ?_) (fun c_117 => ?_)
              · refine lv_iload_n hx hb dX7_set_127 rfl (lv_at hl 3 rfl) ?_
                refine lv_iconst (v := 2) hx hb dX7_set_128 (by decide) ?_
                refine lv_icmp_ne (tgt := 139) hx hb dX7_set_129 (by decide) (fun _ => ?_) (fun h => absurd h c_28)
                refine lv_iload_n hx hb dX7_set_139 rfl (lv_at hl 3 rfl) ?_
                refine lv_iconst (v := 3) hx hb dX7_set_140 (by decide) ?_
                refine lv_icmp_ne (tgt := 151) hx hb dX7_set_141 (by decide) (fun _ => ?_) (fun h => absurd h c_7)
                exact ((in04 b_7).elim c_105 (fun h => h.elim c_117 (fun h => h.elim c_28 (fun h => h.elim c_7 c_17)))).elim
              · refine lv_aload_n hx hb dX7_set_120 rfl (lv_at hl 2 rfl) ?_
                refine zget hC hZ fX7_13 (zlt hn rfl) h_3 rfl dX7_set_121 ?_
                refine lv_goto (tgt := 155) hx hb dX7_set_124 (by decide) ?_
                refine lv_istore (lv' := [(5, .int sc.1.2.1), (4, .int 100), (3, .int 0), (0, .ref (ad 56)), (1, .int what), (2, .int q)]) hx hb dX7_set_155 hl (by decide) rfl (fun ls hl => ?_)
                refine lv_aload_n hx hb dX7_set_157 rfl (lv_at hl 3 rfl) ?_
                refine lv_iload_n hx hb dX7_set_158 rfl (lv_at hl 4 rfl) ?_
                refine lv_if_ne (tgt := 166) hx hb dX7_set_159 (by decide) (fun _ => ?_) (fun h => absurd h (by rw [c_117]; decide))
                refine lv_aload_n hx hb dX7_set_166 rfl (lv_at hl 3 rfl) ?_
                refine zget hC hZ fX7_7 (zlt hn rfl) h_3 rfl dX7_set_167 ?_
                refine zput (E := oModel ad sc.1 sc.2.1 sc.2.2.2.1 sc.2.2.2.2 0 bs en u st kk dw ho sv pic ia tk) hC hZ pX7_7 (zlt hn rfl) h_3 rfl rfl rfl (Nat.le_of_ble_eq_true rfl) dX7_set_170 (fun F_12 hF_13 H locs hZ => ?_)
                have h_14 := zeq hF_13
                refine lv_aload_n hx hb dX7_set_173 rfl (lv_at hl 3 rfl) ?_
                refine lv_iload_n hx hb dX7_set_174 rfl (lv_at hl 4 rfl) ?_
                refine lv_iconst (v := 1) hx hb dX7_set_175 (by decide) ?_
                refine lv_icmp_ne (tgt := 183) hx hb dX7_set_176 (by decide) (fun h => absurd c_117 h) (fun _ => ?_)
                refine lv_iload_n hx hb dX7_set_179 rfl (lv_at hl 5 rfl) ?_
                refine lv_goto (tgt := 187) hx hb dX7_set_180 (by decide) ?_
                refine zput (E := oModel ad (sc.1.1, q, sc.1.2.2.1, sc.1.2.2.2) sc.2.1 sc.2.2.2.1 sc.2.2.2.2 0 bs en u st kk dw ho sv pic ia tk) hC hZ pX7_13 (zlt hn rfl) h_14 rfl rfl rfl (Nat.le_of_ble_eq_true rfl) dX7_set_187 (fun F_15 hF_16 H locs hZ => ?_)
                have h_17 := zeq hF_16
                refine lv_aload_n hx hb dX7_set_190 rfl (lv_at hl 3 rfl) ?_
                refine lv_iload_n hx hb dX7_set_191 rfl (lv_at hl 4 rfl) ?_
                refine lv_iconst (v := 2) hx hb dX7_set_192 (by decide) ?_
                refine lv_icmp_ne (tgt := 200) hx hb dX7_set_193 (by decide) (fun _ => ?_) (fun h => absurd h (by rw [c_117]; decide))
                refine lv_aload_n hx hb dX7_set_200 rfl (lv_at hl 3 rfl) ?_
                refine zget hC hZ fX7_70 (zlt hn rfl) h_17 rfl dX7_set_201 ?_
                refine zput (E := oModel ad (sc.1.1, q, sc.1.2.2.1, sc.1.2.2.2) sc.2.1 sc.2.2.2.1 sc.2.2.2.2 0 bs en u st kk dw ho sv pic ia tk) hC hZ pX7_70 (zlt hn rfl) h_17 rfl rfl rfl (Nat.le_of_ble_eq_true rfl) dX7_set_204 (fun F_18 hF_19 H locs hZ => ?_)
                have h_20 := zeq hF_19
                refine lv_aload_n hx hb dX7_set_207 rfl (lv_at hl 3 rfl) ?_
                refine lv_iload_n hx hb dX7_set_208 rfl (lv_at hl 4 rfl) ?_
                refine lv_iconst (v := 3) hx hb dX7_set_209 (by decide) ?_
                refine lv_icmp_ne (tgt := 217) hx hb dX7_set_210 (by decide) (fun _ => ?_) (fun h => absurd h (by rw [c_117]; decide))
                refine lv_aload_n hx hb dX7_set_217 rfl (lv_at hl 3 rfl) ?_
                refine zget hC hZ fX7_16 (zlt hn rfl) h_20 rfl dX7_set_218 ?_
                refine zput (E := oModel ad (sc.1.1, q, sc.1.2.2.1, sc.1.2.2.2) sc.2.1 sc.2.2.2.1 sc.2.2.2.2 0 bs en u st kk dw ho sv pic ia tk) hC hZ pX7_16 (zlt hn rfl) h_20 rfl rfl rfl (Nat.le_of_ble_eq_true rfl) dX7_set_221 (fun F_21 hF_22 H locs hZ => ?_)
                have h_23 := zeq hF_22
                have h_24 := zne hF_22 (by decide) (zne hF_19 (by decide) (zne hF_16 (by decide) (zne hF_13 (by decide) (zne hF_2 (by decide) h57))))
                have h_25 := zne hF_22 (by decide) (zne hF_19 (by decide) (zne hF_16 (by decide) (zne hF_13 (by decide) (zne hF_2 (by decide) h58))))
                have h_26 := zne hF_22 (by decide) (zne hF_19 (by decide) (zne hF_16 (by decide) (zne hF_13 (by decide) (zne hF_2 (by decide) h59))))
                have h_27 := zne hF_22 (by decide) (zne hF_19 (by decide) (zne hF_16 (by decide) (zne hF_13 (by decide) (zne hF_2 (by decide) h60))))
                have h_28 := zne hF_22 (by decide) (zne hF_19 (by decide) (zne hF_16 (by decide) (zne hF_13 (by decide) (zne hF_2 (by decide) h61))))
                have h_29 := zne hF_22 (by decide) (zne hF_19 (by decide) (zne hF_16 (by decide) (zne hF_13 (by decide) (zne hF_2 (by decide) h62))))
                have h_30 := zne hF_22 (by decide) (zne hF_19 (by decide) (zne hF_16 (by decide) (zne hF_13 (by decide) (zne hF_2 (by decide) h63))))
                have h_31 := zne hF_22 (by decide) (zne hF_19 (by decide) (zne hF_16 (by decide) (zne hF_13 (by decide) (zne hF_2 (by decide) h64))))
                have h_32 := zne hF_22 (by decide) (zne hF_19 (by decide) (zne hF_16 (by decide) (zne hF_13 (by decide) (zne hF_2 (by decide) h65))))
                have h_33 := zne hF_22 (by decide) (zne hF_19 (by decide) (zne hF_16 (by decide) (zne hF_13 (by decide) (zne hF_2 (by decide) h66))))
                have h_34 := zne hF_22 (by decide) (zne hF_19 (by decide) (zne hF_16 (by decide) (zne hF_13 (by decide) (zne hF_2 (by decide) h67))))
                refine lv_aload_n hx hb dX7_set_224 rfl (lv_at hl 3 rfl) ?_
                refine lv_iload_n hx hb dX7_set_225 rfl (lv_at hl 4 rfl) ?_
                refine lv_iconst (v := 4) hx hb dX7_set_226 (by decide) ?_
                refine lv_icmp_ne (tgt := 234) hx hb dX7_set_227 (by decide) (fun _ => ?_) (fun h => absurd h (by rw [c_117]; decide))
                refine lv_aload_n hx hb dX7_set_234 rfl (lv_at hl 3 rfl) ?_
                refine zget hC hZ fX7_19 (zlt hn rfl) h_23 rfl dX7_set_235 ?_
                refine zput (E := oModel ad (sc.1.1, q, sc.1.2.2.1, sc.1.2.2.2) sc.2.1 sc.2.2.2.1 sc.2.2.2.2 0 bs en u st kk dw ho sv pic ia tk) hC hZ pX7_19 (zlt hn rfl) h_23 rfl rfl rfl (Nat.le_of_ble_eq_true rfl) dX7_set_238 (fun F_35 hF_36 H locs hZ => ?_)
                have h_37 := zeq hF_36
                refine lv_iload hx hb dX7_set_241 (lv_at hl 0 rfl) ?_
                have hmay : bMay what q := by rcases in04 b_7 with e | e | e | e | e <;> first | exact absurd e c_7 | exact absurd e c_17 | exact absurd e c_28 | exact absurd e c_105 | (rw [e] at c_117; exact absurd c_117 (by decide)) | (rw [e]; exact may0.mpr b_11) | (rw [e]; exact may1.mpr b_11) | (rw [e]; exact may2.mpr b_11) | (rw [e]; exact may3.mpr b_11) | (rw [e]; exact may4.mpr b_11)
                have hq : (sc.1.2.1 : Int32) = sSet sc what q := by unfold sSet; rw [if_pos hmay, if_neg (fun h : bSetNo sc what q => c_7 h.1), c_117]; rfl
                have hfm_38 : frM F F_35 := (frM_up (frM_up (frM_up (frM_up (frM_up (frM_up frM_rf hF_2 (by decide) (by decide)) hF_13 (by decide) (by decide)) hF_16 (by decide) (by decide)) hF_19 (by decide) (by decide)) hF_22 (by decide) (by decide)) hF_36 (by decide) (by decide))
                exact zireti hC hZ hr hlocks ⟨hq, (by unfold sSetN; rw [if_pos ⟨hmay, (fun h : bSetNo sc what q => c_7 h.1)⟩, c_117, sSetS_1]; exact ⟨⟨bs, en, u, st, kk, dw, ho, sv, ia, tk, told, pl, nu, im, hw, kd, fg, so, mn, rw0, bt, h_37, (zne hF_36 (by decide) h_24), (zne hF_36 (by decide) h_25), (zne hF_36 (by decide) h_26), (zne hF_36 (by decide) h_27), (zne hF_36 (by decide) h_28), (zne hF_36 (by decide) h_29), (zne hF_36 (by decide) h_30), (zne hF_36 (by decide) h_31), (zne hF_36 (by decide) h_32), (zne hF_36 (by decide) h_33), (zne hF_36 (by decide) h_34), hR⟩, hfm_38⟩)⟩ dX7_set_243
            · refine lv_aload_n hx hb dX7_set_108 rfl (lv_at hl 2 rfl) ?_
              refine zget hC hZ fX7_7 (zlt hn rfl) h_3 rfl dX7_set_109 ?_
              refine lv_goto (tgt := 155) hx hb dX7_set_112 (by decide) ?_
              refine lv_istore (lv' := [(5, .int sc.1.1), (4, .int 100), (3, .int 0), (0, .ref (ad 56)), (1, .int what), (2, .int q)]) hx hb dX7_set_155 hl (by decide) rfl (fun ls hl => ?_)
              refine lv_aload_n hx hb dX7_set_157 rfl (lv_at hl 3 rfl) ?_
              refine lv_iload_n hx hb dX7_set_158 rfl (lv_at hl 4 rfl) ?_
              refine lv_if_ne (tgt := 166) hx hb dX7_set_159 (by decide) (fun h => absurd c_105 h) (fun _ => ?_)
              refine lv_iload_n hx hb dX7_set_162 rfl (lv_at hl 5 rfl) ?_
              refine lv_goto (tgt := 170) hx hb dX7_set_163 (by decide) ?_
              refine zput (E := oModel ad (q, sc.1.2.1, sc.1.2.2.1, sc.1.2.2.2) sc.2.1 sc.2.2.2.1 sc.2.2.2.2 0 bs en u st kk dw ho sv pic ia tk) hC hZ pX7_7 (zlt hn rfl) h_3 rfl rfl rfl (Nat.le_of_ble_eq_true rfl) dX7_set_170 (fun F_39 hF_40 H locs hZ => ?_)
              have h_41 := zeq hF_40
              refine lv_aload_n hx hb dX7_set_173 rfl (lv_at hl 3 rfl) ?_
              refine lv_iload_n hx hb dX7_set_174 rfl (lv_at hl 4 rfl) ?_
              refine lv_iconst (v := 1) hx hb dX7_set_175 (by decide) ?_
              refine lv_icmp_ne (tgt := 183) hx hb dX7_set_176 (by decide) (fun _ => ?_) (fun h => absurd h (by rw [c_105]; decide))
              refine lv_aload_n hx hb dX7_set_183 rfl (lv_at hl 3 rfl) ?_
              refine zget hC hZ fX7_13 (zlt hn rfl) h_41 rfl dX7_set_184 ?_
              refine zput (E := oModel ad (q, sc.1.2.1, sc.1.2.2.1, sc.1.2.2.2) sc.2.1 sc.2.2.2.1 sc.2.2.2.2 0 bs en u st kk dw ho sv pic ia tk) hC hZ pX7_13 (zlt hn rfl) h_41 rfl rfl rfl (Nat.le_of_ble_eq_true rfl) dX7_set_187 (fun F_42 hF_43 H locs hZ => ?_)
              have h_44 := zeq hF_43
              refine lv_aload_n hx hb dX7_set_190 rfl (lv_at hl 3 rfl) ?_
              refine lv_iload_n hx hb dX7_set_191 rfl (lv_at hl 4 rfl) ?_
              refine lv_iconst (v := 2) hx hb dX7_set_192 (by decide) ?_
              refine lv_icmp_ne (tgt := 200) hx hb dX7_set_193 (by decide) (fun _ => ?_) (fun h => absurd h (by rw [c_105]; decide))
              refine lv_aload_n hx hb dX7_set_200 rfl (lv_at hl 3 rfl) ?_
              refine zget hC hZ fX7_70 (zlt hn rfl) h_44 rfl dX7_set_201 ?_
              refine zput (E := oModel ad (q, sc.1.2.1, sc.1.2.2.1, sc.1.2.2.2) sc.2.1 sc.2.2.2.1 sc.2.2.2.2 0 bs en u st kk dw ho sv pic ia tk) hC hZ pX7_70 (zlt hn rfl) h_44 rfl rfl rfl (Nat.le_of_ble_eq_true rfl) dX7_set_204 (fun F_45 hF_46 H locs hZ => ?_)
              have h_47 := zeq hF_46
              refine lv_aload_n hx hb dX7_set_207 rfl (lv_at hl 3 rfl) ?_
              refine lv_iload_n hx hb dX7_set_208 rfl (lv_at hl 4 rfl) ?_
              refine lv_iconst (v := 3) hx hb dX7_set_209 (by decide) ?_
              refine lv_icmp_ne (tgt := 217) hx hb dX7_set_210 (by decide) (fun _ => ?_) (fun h => absurd h (by rw [c_105]; decide))
              refine lv_aload_n hx hb dX7_set_217 rfl (lv_at hl 3 rfl) ?_
              refine zget hC hZ fX7_16 (zlt hn rfl) h_47 rfl dX7_set_218 ?_
              refine zput (E := oModel ad (q, sc.1.2.1, sc.1.2.2.1, sc.1.2.2.2) sc.2.1 sc.2.2.2.1 sc.2.2.2.2 0 bs en u st kk dw ho sv pic ia tk) hC hZ pX7_16 (zlt hn rfl) h_47 rfl rfl rfl (Nat.le_of_ble_eq_true rfl) dX7_set_221 (fun F_48 hF_49 H locs hZ => ?_)
              have h_50 := zeq hF_49
              have h_51 := zne hF_49 (by decide) (zne hF_46 (by decide) (zne hF_43 (by decide) (zne hF_40 (by decide) (zne hF_2 (by decide) h57))))
              have h_52 := zne hF_49 (by decide) (zne hF_46 (by decide) (zne hF_43 (by decide) (zne hF_40 (by decide) (zne hF_2 (by decide) h58))))
              have h_53 := zne hF_49 (by decide) (zne hF_46 (by decide) (zne hF_43 (by decide) (zne hF_40 (by decide) (zne hF_2 (by decide) h59))))
              have h_54 := zne hF_49 (by decide) (zne hF_46 (by decide) (zne hF_43 (by decide) (zne hF_40 (by decide) (zne hF_2 (by decide) h60))))
              have h_55 := zne hF_49 (by decide) (zne hF_46 (by decide) (zne hF_43 (by decide) (zne hF_40 (by decide) (zne hF_2 (by decide) h61))))
              have h_56 := zne hF_49 (by decide) (zne hF_46 (by decide) (zne hF_43 (by decide) (zne hF_40 (by decide) (zne hF_2 (by decide) h62))))
              have h_57 := zne hF_49 (by decide) (zne hF_46 (by decide) (zne hF_43 (by decide) (zne hF_40 (by decide) (zne hF_2 (by decide) h63))))
              have h_58 := zne hF_49 (by decide) (zne hF_46 (by decide) (zne hF_43 (by decide) (zne hF_40 (by decide) (zne hF_2 (by decide) h64))))
              have h_59 := zne hF_49 (by decide) (zne hF_46 (by decide) (zne hF_43 (by decide) (zne hF_40 (by decide) (zne hF_2 (by decide) h65))))
              have h_60 := zne hF_49 (by decide) (zne hF_46 (by decide) (zne hF_43 (by decide) (zne hF_40 (by decide) (zne hF_2 (by decide) h66))))
              have h_61 := zne hF_49 (by decide) (zne hF_46 (by decide) (zne hF_43 (by decide) (zne hF_40 (by decide) (zne hF_2 (by decide) h67))))
              refine lv_aload_n hx hb dX7_set_224 rfl (lv_at hl 3 rfl) ?_
              refine lv_iload_n hx hb dX7_set_225 rfl (lv_at hl 4 rfl) ?_
              refine lv_iconst (v := 4) hx hb dX7_set_226 (by decide) ?_
              refine lv_icmp_ne (tgt := 234) hx hb dX7_set_227 (by decide) (fun _ => ?_) (fun h => absurd h (by rw [c_105]; decide))
              refine lv_aload_n hx hb dX7_set_234 rfl (lv_at hl 3 rfl) ?_
              refine zget hC hZ fX7_19 (zlt hn rfl) h_50 rfl dX7_set_235 ?_
              refine zput (E := oModel ad (q, sc.1.2.1, sc.1.2.2.1, sc.1.2.2.2) sc.2.1 sc.2.2.2.1 sc.2.2.2.2 0 bs en u st kk dw ho sv pic ia tk) hC hZ pX7_19 (zlt hn rfl) h_50 rfl rfl rfl (Nat.le_of_ble_eq_true rfl) dX7_set_238 (fun F_62 hF_63 H locs hZ => ?_)
              have h_64 := zeq hF_63
              refine lv_iload hx hb dX7_set_241 (lv_at hl 0 rfl) ?_
              have hmay : bMay what q := by rcases in04 b_7 with e | e | e | e | e <;> first | exact absurd e c_7 | exact absurd e c_17 | exact absurd e c_28 | (rw [e] at c_105; exact absurd c_105 (by decide)) | (rw [e]; exact may0.mpr b_11) | (rw [e]; exact may1.mpr b_11) | (rw [e]; exact may2.mpr b_11) | (rw [e]; exact may3.mpr b_11) | (rw [e]; exact may4.mpr b_11)
              have hq : (sc.1.1 : Int32) = sSet sc what q := by unfold sSet; rw [if_pos hmay, if_neg (fun h : bSetNo sc what q => c_7 h.1), c_105]; rfl
              have hfm_65 : frM F F_62 := (frM_up (frM_up (frM_up (frM_up (frM_up (frM_up frM_rf hF_2 (by decide) (by decide)) hF_40 (by decide) (by decide)) hF_43 (by decide) (by decide)) hF_46 (by decide) (by decide)) hF_49 (by decide) (by decide)) hF_63 (by decide) (by decide))
              exact zireti hC hZ hr hlocks ⟨hq, (by unfold sSetN; rw [if_pos ⟨hmay, (fun h : bSetNo sc what q => c_7 h.1)⟩, c_105, sSetS_0]; exact ⟨⟨bs, en, u, st, kk, dw, ho, sv, ia, tk, told, pl, nu, im, hw, kd, fg, so, mn, rw0, bt, h_64, (zne hF_63 (by decide) h_51), (zne hF_63 (by decide) h_52), (zne hF_63 (by decide) h_53), (zne hF_63 (by decide) h_54), (zne hF_63 (by decide) h_55), (zne hF_63 (by decide) h_56), (zne hF_63 (by decide) h_57), (zne hF_63 (by decide) h_58), (zne hF_63 (by decide) h_59), (zne hF_63 (by decide) h_60), (zne hF_63 (by decide) h_61), hR⟩, hfm_65⟩)⟩ dX7_set_243
          · rw [if_neg b_11] at hp_10
            subst hp_10
            refine lv_if_ne (tgt := 88) hx hb dX7_set_83 (by decide) (fun h => absurd (show (0 : Int32) = 0 by decide) h) (fun _ => ?_)
            refine lv_iconst (v := (-1)) hx hb dX7_set_86 (by decide) ?_
            have hmay : ¬ bMay what q := fun h => by rcases in04 b_7 with e | e | e | e | e <;> first | exact absurd e c_7 | exact absurd e c_17 | exact absurd e c_28 | (rw [e] at h; exact b_11 (may0.mp h)) | (rw [e] at h; exact b_11 (may1.mp h)) | (rw [e] at h; exact b_11 (may2.mp h)) | (rw [e] at h; exact b_11 (may3.mp h)) | (rw [e] at h; exact b_11 (may4.mp h))
            have hq : ((-1) : Int32) = sSet sc what q := by exact (if_neg hmay).symm
            have hfm_66 : frM F F_1 := (frM_up frM_rf hF_2 (by decide) (by decide))
            exact zireti hC hZ hr hlocks ⟨hq, (by unfold sSetN; rw [if_neg (fun h => hmay h.1)]; exact ⟨⟨bs, en, u, st, kk, dw, ho, sv, ia, tk, told, pl, nu, im, hw, kd, fg, so, mn, rw0, bt, h_3, (zne hF_2 (by decide) h57), (zne hF_2 (by decide) h58), (zne hF_2 (by decide) h59), (zne hF_2 (by decide) h60), (zne hF_2 (by decide) h61), (zne hF_2 (by decide) h62), (zne hF_2 (by decide) h63), (zne hF_2 (by decide) h64), (zne hF_2 (by decide) h65), (zne hF_2 (by decide) h66), (zne hF_2 (by decide) h67), hR⟩, hfm_66⟩)⟩ dX7_set_87
        · rw [if_neg b_7] at hp_6
          subst hp_6
          refine lv_if_eq (tgt := 86) hx hb dX7_set_70 (by decide) (fun _ => ?_) (fun h => absurd (show (0 : Int32) = 0 by decide) h)
          refine lv_iconst (v := (-1)) hx hb dX7_set_86 (by decide) ?_
          have hmay : ¬ bMay what q := fun h => b_7 (bMay_04 h)
          have hq : ((-1) : Int32) = sSet sc what q := by exact (if_neg hmay).symm
          have hfm_67 : frM F F_1 := (frM_up frM_rf hF_2 (by decide) (by decide))
          exact zireti hC hZ hr hlocks ⟨hq, (by unfold sSetN; rw [if_neg (fun h => hmay h.1)]; exact ⟨⟨bs, en, u, st, kk, dw, ho, sv, ia, tk, told, pl, nu, im, hw, kd, fg, so, mn, rw0, bt, h_3, (zne hF_2 (by decide) h57), (zne hF_2 (by decide) h58), (zne hF_2 (by decide) h59), (zne hF_2 (by decide) h60), (zne hF_2 (by decide) h61), (zne hF_2 (by decide) h62), (zne hF_2 (by decide) h63), (zne hF_2 (by decide) h64), (zne hF_2 (by decide) h65), (zne hF_2 (by decide) h66), (zne hF_2 (by decide) h67), hR⟩, hfm_67⟩)⟩ dX7_set_87
      · refine lv_iconst (v := 2) hx hb dX7_set_31 (by decide) ?_
        refine lv_goto (tgt := 59) hx hb dX7_set_32 (by decide) ?_
        refine lv_istore (lv' := [(4, .int 2), (3, .int 0), (0, .ref (ad 56)), (1, .int what), (2, .int q)]) hx hb dX7_set_59 hl (by decide) rfl (fun ls hl => ?_)
        refine lv_iload_n hx hb dX7_set_61 rfl (lv_at hl 3 rfl) ?_
        refine lv_i2l (v := (what).toInt64) hx hb dX7_set_62 (by rfl) ?_
        refine lv_lconst (v := 0) hx hb dX7_set_63 (by decide) ?_
        refine lv_ldc2 (v := 4) hx hb hC.1.2.2.2.1 (hC.1.2.2.2.2 _ qX7_61) dX7_set_64 ?_
        refine zgoi hZ hA (zrunS (As := [.long ((what).toInt64), .long 0, .long 4]) (rest := []) hC hZ (c_X7_in l D cy n ad F_1 H.size what 0 4 0 4 (by decide) (by decide)) mX7_in sX7_in kX7_63 (zRj_of rfl) rfl hl.1 rfl (Nat.le_of_ble_eq_true rfl) dX7_set_67 ⟨Nat.le_refl _, Nat.le_refl _⟩) (fun r_69 F_68 hp_70 H locs hZ => ?_)
        obtain ⟨hp_70, rfl⟩ := hp_70
        by_cases b_71 : bIn what 0 4
        · rw [if_pos b_71] at hp_70
          subst hp_70
          refine lv_if_eq (tgt := 86) hx hb dX7_set_70 (by decide) (fun h => absurd (show (1 : Int32) = 0 from h) (by decide)) (fun _ => ?_)
          refine lv_iload_n hx hb dX7_set_73 rfl (lv_at hl 4 rfl) ?_
          refine lv_i2l (v := (q).toInt64) hx hb dX7_set_74 (by rfl) ?_
          refine lv_iload_n hx hb dX7_set_75 rfl (lv_at hl 1 rfl) ?_
          refine lv_i2l (v := 0) hx hb dX7_set_76 (by decide) ?_
          refine lv_iload hx hb dX7_set_77 (lv_at hl 0 rfl) ?_
          refine lv_i2l (v := 2) hx hb dX7_set_79 (by decide) ?_
          refine zgoi hZ hA (zrunS (As := [.long ((q).toInt64), .long 0, .long 2]) (rest := []) hC hZ (c_X7_in l D cy n ad F_1 H.size q 0 2 0 2 (by decide) (by decide)) mX7_in sX7_in kX7_63 (zRj_of rfl) rfl hl.1 rfl (Nat.le_of_ble_eq_true rfl) dX7_set_80 ⟨Nat.le_refl _, Nat.le_refl _⟩) (fun r_73 F_72 hp_74 H locs hZ => ?_)
          obtain ⟨hp_74, rfl⟩ := hp_74
          by_cases b_75 : bIn q 0 2
          · rw [if_pos b_75] at hp_74
            subst hp_74
            refine lv_if_ne (tgt := 88) hx hb dX7_set_83 (by decide) (fun _ => ?_) (fun h => absurd (show (1 : Int32) = 0 from h) (by decide))
            refine lv_iload_n hx hb dX7_set_88 rfl (lv_at hl 3 rfl) ?_
            refine lv_iconst (v := 3) hx hb dX7_set_89 (by decide) ?_
            refine lv_icmp_ne (tgt := 104) hx hb dX7_set_90 (by decide) (fun _ => ?_) (fun h => absurd h (by rw [c_28]; decide))
            refine lv_iload_n hx hb dX7_set_104 rfl (lv_at hl 3 rfl) ?_
            refine lv_if_ne (tgt := 115) hx hb dX7_set_105 (by decide) (fun _ => ?_) (fun h => absurd h (by rw [c_28]; decide))
            refine lv_iload_n hx hb dX7_set_115 rfl (lv_at hl 3 rfl) ?_
            refine lv_iconst (v := 1) hx hb dX7_set_116 (by decide) ?_
            refine lv_icmp_ne (tgt := 127) hx hb dX7_set_117 (by decide) (fun _ => ?_) (fun h => absurd h (by rw [c_28]; decide))
            refine lv_iload_n hx hb dX7_set_127 rfl (lv_at hl 3 rfl) ?_
            refine lv_iconst (v := 2) hx hb dX7_set_128 (by decide) ?_
            refine lv_icmp_ne (tgt := 139) hx hb dX7_set_129 (by decide) (fun h => absurd c_28 h) (fun _ => ?_)
            refine lv_aload_n hx hb dX7_set_132 rfl (lv_at hl 2 rfl) ?_
            refine zget hC hZ fX7_70 (zlt hn rfl) h_3 rfl dX7_set_133 ?_
            refine lv_goto (tgt := 155) hx hb dX7_set_136 (by decide) ?_
            refine lv_istore (lv' := [(5, .int sc.1.2.2.1), (4, .int 2), (3, .int 0), (0, .ref (ad 56)), (1, .int what), (2, .int q)]) hx hb dX7_set_155 hl (by decide) rfl (fun ls hl => ?_)
            refine lv_aload_n hx hb dX7_set_157 rfl (lv_at hl 3 rfl) ?_
            refine lv_iload_n hx hb dX7_set_158 rfl (lv_at hl 4 rfl) ?_
            refine lv_if_ne (tgt := 166) hx hb dX7_set_159 (by decide) (fun _ => ?_) (fun h => absurd h (by rw [c_28]; decide))
            refine lv_aload_n hx hb dX7_set_166 rfl (lv_at hl 3 rfl) ?_
            refine zget hC hZ fX7_7 (zlt hn rfl) h_3 rfl dX7_set_167 ?_
            refine zput (E := oModel ad sc.1 sc.2.1 sc.2.2.2.1 sc.2.2.2.2 0 bs en u st kk dw ho sv pic ia tk) hC hZ pX7_7 (zlt hn rfl) h_3 rfl rfl rfl (Nat.le_of_ble_eq_true rfl) dX7_set_170 (fun F_76 hF_77 H locs hZ => ?_)
            have h_78 := zeq hF_77
            refine lv_aload_n hx hb dX7_set_173 rfl (lv_at hl 3 rfl) ?_
            refine lv_iload_n hx hb dX7_set_174 rfl (lv_at hl 4 rfl) ?_
            refine lv_iconst (v := 1) hx hb dX7_set_175 (by decide) ?_
            refine lv_icmp_ne (tgt := 183) hx hb dX7_set_176 (by decide) (fun _ => ?_) (fun h => absurd h (by rw [c_28]; decide))
            refine lv_aload_n hx hb dX7_set_183 rfl (lv_at hl 3 rfl) ?_
            refine zget hC hZ fX7_13 (zlt hn rfl) h_78 rfl dX7_set_184 ?_
            refine zput (E := oModel ad sc.1 sc.2.1 sc.2.2.2.1 sc.2.2.2.2 0 bs en u st kk dw ho sv pic ia tk) hC hZ pX7_13 (zlt hn rfl) h_78 rfl rfl rfl (Nat.le_of_ble_eq_true rfl) dX7_set_187 (fun F_79 hF_80 H locs hZ => ?_)
            have h_81 := zeq hF_80
            refine lv_aload_n hx hb dX7_set_190 rfl (lv_at hl 3 rfl) ?_
            refine lv_iload_n hx hb dX7_set_191 rfl (lv_at hl 4 rfl) ?_
            refine lv_iconst (v := 2) hx hb dX7_set_192 (by decide) ?_
            refine lv_icmp_ne (tgt := 200) hx hb dX7_set_193 (by decide) (fun h => absurd c_28 h) (fun _ => ?_)
            refine lv_iload_n hx hb dX7_set_196 rfl (lv_at hl 5 rfl) ?_
            refine lv_goto (tgt := 204) hx hb dX7_set_197 (by decide) ?_
            refine zput (E := oModel ad (sc.1.1, sc.1.2.1, q, sc.1.2.2.2) sc.2.1 sc.2.2.2.1 sc.2.2.2.2 0 bs en u st kk dw ho sv pic ia tk) hC hZ pX7_70 (zlt hn rfl) h_81 rfl rfl rfl (Nat.le_of_ble_eq_true rfl) dX7_set_204 (fun F_82 hF_83 H locs hZ => ?_)
            have h_84 := zeq hF_83
            refine lv_aload_n hx hb dX7_set_207 rfl (lv_at hl 3 rfl) ?_
            refine lv_iload_n hx hb dX7_set_208 rfl (lv_at hl 4 rfl) ?_
            refine lv_iconst (v := 3) hx hb dX7_set_209 (by decide) ?_
            refine lv_icmp_ne (tgt := 217) hx hb dX7_set_210 (by decide) (fun _ => ?_) (fun h => absurd h (by rw [c_28]; decide))
            refine lv_aload_n hx hb dX7_set_217 rfl (lv_at hl 3 rfl) ?_
            refine zget hC hZ fX7_16 (zlt hn rfl) h_84 rfl dX7_set_218 ?_
            refine zput (E := oModel ad (sc.1.1, sc.1.2.1, q, sc.1.2.2.2) sc.2.1 sc.2.2.2.1 sc.2.2.2.2 0 bs en u st kk dw ho sv pic ia tk) hC hZ pX7_16 (zlt hn rfl) h_84 rfl rfl rfl (Nat.le_of_ble_eq_true rfl) dX7_set_221 (fun F_85 hF_86 H locs hZ => ?_)
            have h_87 := zeq hF_86
            have h_88 := zne hF_86 (by decide) (zne hF_83 (by decide) (zne hF_80 (by decide) (zne hF_77 (by decide) (zne hF_2 (by decide) h57))))
            have h_89 := zne hF_86 (by decide) (zne hF_83 (by decide) (zne hF_80 (by decide) (zne hF_77 (by decide) (zne hF_2 (by decide) h58))))
            have h_90 := zne hF_86 (by decide) (zne hF_83 (by decide) (zne hF_80 (by decide) (zne hF_77 (by decide) (zne hF_2 (by decide) h59))))
            have h_91 := zne hF_86 (by decide) (zne hF_83 (by decide) (zne hF_80 (by decide) (zne hF_77 (by decide) (zne hF_2 (by decide) h60))))
            have h_92 := zne hF_86 (by decide) (zne hF_83 (by decide) (zne hF_80 (by decide) (zne hF_77 (by decide) (zne hF_2 (by decide) h61))))
            have h_93 := zne hF_86 (by decide) (zne hF_83 (by decide) (zne hF_80 (by decide) (zne hF_77 (by decide) (zne hF_2 (by decide) h62))))
            have h_94 := zne hF_86 (by decide) (zne hF_83 (by decide) (zne hF_80 (by decide) (zne hF_77 (by decide) (zne hF_2 (by decide) h63))))
            have h_95 := zne hF_86 (by decide) (zne hF_83 (by decide) (zne hF_80 (by decide) (zne hF_77 (by decide) (zne hF_2 (by decide) h64))))
            have h_96 := zne hF_86 (by decide) (zne hF_83 (by decide) (zne hF_80 (by decide) (zne hF_77 (by decide) (zne hF_2 (by decide) h65))))
            have h_97 := zne hF_86 (by decide) (zne hF_83 (by decide) (zne hF_80 (by decide) (zne hF_77 (by decide) (zne hF_2 (by decide) h66))))
            have h_98 := zne hF_86 (by decide) (zne hF_83 (by decide) (zne hF_80 (by decide) (zne hF_77 (by decide) (zne hF_2 (by decide) h67))))
            refine lv_aload_n hx hb dX7_set_224 rfl (lv_at hl 3 rfl) ?_
            refine lv_iload_n hx hb dX7_set_225 rfl (lv_at hl 4 rfl) ?_
            refine lv_iconst (v := 4) hx hb dX7_set_226 (by decide) ?_
            refine lv_icmp_ne (tgt := 234) hx hb dX7_set_227 (by decide) (fun _ => ?_) (fun h => absurd h (by rw [c_28]; decide))
            refine lv_aload_n hx hb dX7_set_234 rfl (lv_at hl 3 rfl) ?_
            refine zget hC hZ fX7_19 (zlt hn rfl) h_87 rfl dX7_set_235 ?_
            refine zput (E := oModel ad (sc.1.1, sc.1.2.1, q, sc.1.2.2.2) sc.2.1 sc.2.2.2.1 sc.2.2.2.2 0 bs en u st kk dw ho sv pic ia tk) hC hZ pX7_19 (zlt hn rfl) h_87 rfl rfl rfl (Nat.le_of_ble_eq_true rfl) dX7_set_238 (fun F_99 hF_100 H locs hZ => ?_)
            have h_101 := zeq hF_100
            refine lv_iload hx hb dX7_set_241 (lv_at hl 0 rfl) ?_
            have hmay : bMay what q := by rcases in04 b_71 with e | e | e | e | e <;> first | exact absurd e c_7 | exact absurd e c_17 | (rw [e] at c_28; exact absurd c_28 (by decide)) | (rw [e]; exact may0.mpr b_75) | (rw [e]; exact may1.mpr b_75) | (rw [e]; exact may2.mpr b_75) | (rw [e]; exact may3.mpr b_75) | (rw [e]; exact may4.mpr b_75)
            have hq : (sc.1.2.2.1 : Int32) = sSet sc what q := by unfold sSet; rw [if_pos hmay, if_neg (fun h : bSetNo sc what q => c_7 h.1), c_28]; rfl
            have hfm_102 : frM F F_99 := (frM_up (frM_up (frM_up (frM_up (frM_up (frM_up frM_rf hF_2 (by decide) (by decide)) hF_77 (by decide) (by decide)) hF_80 (by decide) (by decide)) hF_83 (by decide) (by decide)) hF_86 (by decide) (by decide)) hF_100 (by decide) (by decide))
            exact zireti hC hZ hr hlocks ⟨hq, (by unfold sSetN; rw [if_pos ⟨hmay, (fun h : bSetNo sc what q => c_7 h.1)⟩, c_28, sSetS_2]; exact ⟨⟨bs, en, u, st, kk, dw, ho, sv, ia, tk, told, pl, nu, im, hw, kd, fg, so, mn, rw0, bt, h_101, (zne hF_100 (by decide) h_88), (zne hF_100 (by decide) h_89), (zne hF_100 (by decide) h_90), (zne hF_100 (by decide) h_91), (zne hF_100 (by decide) h_92), (zne hF_100 (by decide) h_93), (zne hF_100 (by decide) h_94), (zne hF_100 (by decide) h_95), (zne hF_100 (by decide) h_96), (zne hF_100 (by decide) h_97), (zne hF_100 (by decide) h_98), hR⟩, hfm_102⟩)⟩ dX7_set_243
          · rw [if_neg b_75] at hp_74
            subst hp_74
            refine lv_if_ne (tgt := 88) hx hb dX7_set_83 (by decide) (fun h => absurd (show (0 : Int32) = 0 by decide) h) (fun _ => ?_)
            refine lv_iconst (v := (-1)) hx hb dX7_set_86 (by decide) ?_
            have hmay : ¬ bMay what q := fun h => by rcases in04 b_71 with e | e | e | e | e <;> first | exact absurd e c_7 | exact absurd e c_17 | (rw [e] at c_28; exact absurd c_28 (by decide)) | (rw [e] at h; exact b_75 (may0.mp h)) | (rw [e] at h; exact b_75 (may1.mp h)) | (rw [e] at h; exact b_75 (may2.mp h)) | (rw [e] at h; exact b_75 (may3.mp h)) | (rw [e] at h; exact b_75 (may4.mp h))
            have hq : ((-1) : Int32) = sSet sc what q := by exact (if_neg hmay).symm
            have hfm_103 : frM F F_1 := (frM_up frM_rf hF_2 (by decide) (by decide))
            exact zireti hC hZ hr hlocks ⟨hq, (by unfold sSetN; rw [if_neg (fun h => hmay h.1)]; exact ⟨⟨bs, en, u, st, kk, dw, ho, sv, ia, tk, told, pl, nu, im, hw, kd, fg, so, mn, rw0, bt, h_3, (zne hF_2 (by decide) h57), (zne hF_2 (by decide) h58), (zne hF_2 (by decide) h59), (zne hF_2 (by decide) h60), (zne hF_2 (by decide) h61), (zne hF_2 (by decide) h62), (zne hF_2 (by decide) h63), (zne hF_2 (by decide) h64), (zne hF_2 (by decide) h65), (zne hF_2 (by decide) h66), (zne hF_2 (by decide) h67), hR⟩, hfm_103⟩)⟩ dX7_set_87
        · rw [if_neg b_71] at hp_70
          subst hp_70
          refine lv_if_eq (tgt := 86) hx hb dX7_set_70 (by decide) (fun _ => ?_) (fun h => absurd (show (0 : Int32) = 0 by decide) h)
          refine lv_iconst (v := (-1)) hx hb dX7_set_86 (by decide) ?_
          have hmay : ¬ bMay what q := fun h => b_71 (bMay_04 h)
          have hq : ((-1) : Int32) = sSet sc what q := by exact (if_neg hmay).symm
          have hfm_104 : frM F F_1 := (frM_up frM_rf hF_2 (by decide) (by decide))
          exact zireti hC hZ hr hlocks ⟨hq, (by unfold sSetN; rw [if_neg (fun h => hmay h.1)]; exact ⟨⟨bs, en, u, st, kk, dw, ho, sv, ia, tk, told, pl, nu, im, hw, kd, fg, so, mn, rw0, bt, h_3, (zne hF_2 (by decide) h57), (zne hF_2 (by decide) h58), (zne hF_2 (by decide) h59), (zne hF_2 (by decide) h60), (zne hF_2 (by decide) h61), (zne hF_2 (by decide) h62), (zne hF_2 (by decide) h63), (zne hF_2 (by decide) h64), (zne hF_2 (by decide) h65), (zne hF_2 (by decide) h66), (zne hF_2 (by decide) h67), hR⟩, hfm_104⟩)⟩ dX7_set_87
    · refine lv_iconst (v := 1) hx hb dX7_set_20 (by decide) ?_
      refine lv_goto (tgt := 25) hx hb dX7_set_21 (by decide) ?_
      refine lv_istore_n (lv' := [(3, .int 1), (0, .ref (ad 56)), (1, .int what), (2, .int q)]) hx hb dX7_set_25 rfl hl (by decide) rfl (fun ls hl => ?_)
      refine lv_iload_n hx hb dX7_set_26 rfl (lv_at hl 2 rfl) ?_
      refine lv_iconst (v := 2) hx hb dX7_set_27 (by decide) ?_
      refine lv_icmp_ne (tgt := 35) hx hb dX7_set_28 (by decide) (fun _ => ?_) (fun h => absurd h (by rw [c_17]; decide))
      refine lv_iload_n hx hb dX7_set_35 rfl (lv_at hl 2 rfl) ?_
      refine lv_iconst (v := 3) hx hb dX7_set_36 (by decide) ?_
      refine lv_icmp_ne (tgt := 46) hx hb dX7_set_37 (by decide) (fun _ => ?_) (fun h => absurd h (by rw [c_17]; decide))
      refine lv_iload_n hx hb dX7_set_46 rfl (lv_at hl 2 rfl) ?_
      refine lv_iconst (v := 4) hx hb dX7_set_47 (by decide) ?_
      refine lv_icmp_ne (tgt := 57) hx hb dX7_set_48 (by decide) (fun h => absurd c_17 h) (fun _ => ?_)
      refine lv_sipush (v := 400) hx hb dX7_set_51 (by decide) ?_
      refine lv_goto (tgt := 59) hx hb dX7_set_54 (by decide) ?_
      refine lv_istore (lv' := [(4, .int 400), (3, .int 1), (0, .ref (ad 56)), (1, .int what), (2, .int q)]) hx hb dX7_set_59 hl (by decide) rfl (fun ls hl => ?_)
      refine lv_iload_n hx hb dX7_set_61 rfl (lv_at hl 3 rfl) ?_
      refine lv_i2l (v := (what).toInt64) hx hb dX7_set_62 (by rfl) ?_
      refine lv_lconst (v := 0) hx hb dX7_set_63 (by decide) ?_
      refine lv_ldc2 (v := 4) hx hb hC.1.2.2.2.1 (hC.1.2.2.2.2 _ qX7_61) dX7_set_64 ?_
      refine zgoi hZ hA (zrunS (As := [.long ((what).toInt64), .long 0, .long 4]) (rest := []) hC hZ (c_X7_in l D cy n ad F_1 H.size what 0 4 0 4 (by decide) (by decide)) mX7_in sX7_in kX7_63 (zRj_of rfl) rfl hl.1 rfl (Nat.le_of_ble_eq_true rfl) dX7_set_67 ⟨Nat.le_refl _, Nat.le_refl _⟩) (fun r_106 F_105 hp_107 H locs hZ => ?_)
      obtain ⟨hp_107, rfl⟩ := hp_107
      by_cases b_108 : bIn what 0 4
      · rw [if_pos b_108] at hp_107
        subst hp_107
        refine lv_if_eq (tgt := 86) hx hb dX7_set_70 (by decide) (fun h => absurd (show (1 : Int32) = 0 from h) (by decide)) (fun _ => ?_)
        refine lv_iload_n hx hb dX7_set_73 rfl (lv_at hl 4 rfl) ?_
        refine lv_i2l (v := (q).toInt64) hx hb dX7_set_74 (by rfl) ?_
        refine lv_iload_n hx hb dX7_set_75 rfl (lv_at hl 1 rfl) ?_
        refine lv_i2l (v := 1) hx hb dX7_set_76 (by decide) ?_
        refine lv_iload hx hb dX7_set_77 (lv_at hl 0 rfl) ?_
        refine lv_i2l (v := 400) hx hb dX7_set_79 (by decide) ?_
        refine zgoi hZ hA (zrunS (As := [.long ((q).toInt64), .long 1, .long 400]) (rest := []) hC hZ (c_X7_in l D cy n ad F_1 H.size q 1 400 1 400 (by decide) (by decide)) mX7_in sX7_in kX7_63 (zRj_of rfl) rfl hl.1 rfl (Nat.le_of_ble_eq_true rfl) dX7_set_80 ⟨Nat.le_refl _, Nat.le_refl _⟩) (fun r_110 F_109 hp_111 H locs hZ => ?_)
        obtain ⟨hp_111, rfl⟩ := hp_111
        by_cases b_112 : bIn q 1 400
        · rw [if_pos b_112] at hp_111
          subst hp_111
          refine lv_if_ne (tgt := 88) hx hb dX7_set_83 (by decide) (fun _ => ?_) (fun h => absurd (show (1 : Int32) = 0 from h) (by decide))
          refine lv_iload_n hx hb dX7_set_88 rfl (lv_at hl 3 rfl) ?_
          refine lv_iconst (v := 3) hx hb dX7_set_89 (by decide) ?_
          refine lv_icmp_ne (tgt := 104) hx hb dX7_set_90 (by decide) (fun _ => ?_) (fun h => absurd h (by rw [c_17]; decide))
          refine lv_iload_n hx hb dX7_set_104 rfl (lv_at hl 3 rfl) ?_
          refine lv_if_ne (tgt := 115) hx hb dX7_set_105 (by decide) (fun _ => ?_) (fun h => absurd h (by rw [c_17]; decide))
          refine lv_iload_n hx hb dX7_set_115 rfl (lv_at hl 3 rfl) ?_
          refine lv_iconst (v := 1) hx hb dX7_set_116 (by decide) ?_
          refine lv_icmp_ne (tgt := 127) hx hb dX7_set_117 (by decide) (fun _ => ?_) (fun h => absurd h (by rw [c_17]; decide))
          refine lv_iload_n hx hb dX7_set_127 rfl (lv_at hl 3 rfl) ?_
          refine lv_iconst (v := 2) hx hb dX7_set_128 (by decide) ?_
          refine lv_icmp_ne (tgt := 139) hx hb dX7_set_129 (by decide) (fun _ => ?_) (fun h => absurd h (by rw [c_17]; decide))
          refine lv_iload_n hx hb dX7_set_139 rfl (lv_at hl 3 rfl) ?_
          refine lv_iconst (v := 3) hx hb dX7_set_140 (by decide) ?_
          refine lv_icmp_ne (tgt := 151) hx hb dX7_set_141 (by decide) (fun _ => ?_) (fun h => absurd h (by rw [c_17]; decide))
          refine lv_aload_n hx hb dX7_set_151 rfl (lv_at hl 2 rfl) ?_
          refine zget hC hZ fX7_19 (zlt hn rfl) h_3 rfl dX7_set_152 ?_
          refine lv_istore (lv' := [(5, .int sc.1.2.2.2), (4, .int 400), (3, .int 1), (0, .ref (ad 56)), (1, .int what), (2, .int q)]) hx hb dX7_set_155 hl (by decide) rfl (fun ls hl => ?_)
          refine lv_aload_n hx hb dX7_set_157 rfl (lv_at hl 3 rfl) ?_
          refine lv_iload_n hx hb dX7_set_158 rfl (lv_at hl 4 rfl) ?_
          refine lv_if_ne (tgt := 166) hx hb dX7_set_159 (by decide) (fun _ => ?_) (fun h => absurd h (by rw [c_17]; decide))
          refine lv_aload_n hx hb dX7_set_166 rfl (lv_at hl 3 rfl) ?_
          refine zget hC hZ fX7_7 (zlt hn rfl) h_3 rfl dX7_set_167 ?_
          refine zput (E := oModel ad sc.1 sc.2.1 sc.2.2.2.1 sc.2.2.2.2 0 bs en u st kk dw ho sv pic ia tk) hC hZ pX7_7 (zlt hn rfl) h_3 rfl rfl rfl (Nat.le_of_ble_eq_true rfl) dX7_set_170 (fun F_113 hF_114 H locs hZ => ?_)
          have h_115 := zeq hF_114
          refine lv_aload_n hx hb dX7_set_173 rfl (lv_at hl 3 rfl) ?_
          refine lv_iload_n hx hb dX7_set_174 rfl (lv_at hl 4 rfl) ?_
          refine lv_iconst (v := 1) hx hb dX7_set_175 (by decide) ?_
          refine lv_icmp_ne (tgt := 183) hx hb dX7_set_176 (by decide) (fun _ => ?_) (fun h => absurd h (by rw [c_17]; decide))
          refine lv_aload_n hx hb dX7_set_183 rfl (lv_at hl 3 rfl) ?_
          refine zget hC hZ fX7_13 (zlt hn rfl) h_115 rfl dX7_set_184 ?_
          refine zput (E := oModel ad sc.1 sc.2.1 sc.2.2.2.1 sc.2.2.2.2 0 bs en u st kk dw ho sv pic ia tk) hC hZ pX7_13 (zlt hn rfl) h_115 rfl rfl rfl (Nat.le_of_ble_eq_true rfl) dX7_set_187 (fun F_116 hF_117 H locs hZ => ?_)
          have h_118 := zeq hF_117
          refine lv_aload_n hx hb dX7_set_190 rfl (lv_at hl 3 rfl) ?_
          refine lv_iload_n hx hb dX7_set_191 rfl (lv_at hl 4 rfl) ?_
          refine lv_iconst (v := 2) hx hb dX7_set_192 (by decide) ?_
          refine lv_icmp_ne (tgt := 200) hx hb dX7_set_193 (by decide) (fun _ => ?_) (fun h => absurd h (by rw [c_17]; decide))
          refine lv_aload_n hx hb dX7_set_200 rfl (lv_at hl 3 rfl) ?_
          refine zget hC hZ fX7_70 (zlt hn rfl) h_118 rfl dX7_set_201 ?_
          refine zput (E := oModel ad sc.1 sc.2.1 sc.2.2.2.1 sc.2.2.2.2 0 bs en u st kk dw ho sv pic ia tk) hC hZ pX7_70 (zlt hn rfl) h_118 rfl rfl rfl (Nat.le_of_ble_eq_true rfl) dX7_set_204 (fun F_119 hF_120 H locs hZ => ?_)
          have h_121 := zeq hF_120
          have h_122 := zne hF_120 (by decide) (zne hF_117 (by decide) (zne hF_114 (by decide) (zne hF_2 (by decide) h57)))
          have h_123 := zne hF_120 (by decide) (zne hF_117 (by decide) (zne hF_114 (by decide) (zne hF_2 (by decide) h58)))
          have h_124 := zne hF_120 (by decide) (zne hF_117 (by decide) (zne hF_114 (by decide) (zne hF_2 (by decide) h59)))
          have h_125 := zne hF_120 (by decide) (zne hF_117 (by decide) (zne hF_114 (by decide) (zne hF_2 (by decide) h60)))
          have h_126 := zne hF_120 (by decide) (zne hF_117 (by decide) (zne hF_114 (by decide) (zne hF_2 (by decide) h61)))
          have h_127 := zne hF_120 (by decide) (zne hF_117 (by decide) (zne hF_114 (by decide) (zne hF_2 (by decide) h62)))
          have h_128 := zne hF_120 (by decide) (zne hF_117 (by decide) (zne hF_114 (by decide) (zne hF_2 (by decide) h63)))
          have h_129 := zne hF_120 (by decide) (zne hF_117 (by decide) (zne hF_114 (by decide) (zne hF_2 (by decide) h64)))
          have h_130 := zne hF_120 (by decide) (zne hF_117 (by decide) (zne hF_114 (by decide) (zne hF_2 (by decide) h65)))
          have h_131 := zne hF_120 (by decide) (zne hF_117 (by decide) (zne hF_114 (by decide) (zne hF_2 (by decide) h66)))
          have h_132 := zne hF_120 (by decide) (zne hF_117 (by decide) (zne hF_114 (by decide) (zne hF_2 (by decide) h67)))
          refine lv_aload_n hx hb dX7_set_207 rfl (lv_at hl 3 rfl) ?_
          refine lv_iload_n hx hb dX7_set_208 rfl (lv_at hl 4 rfl) ?_
          refine lv_iconst (v := 3) hx hb dX7_set_209 (by decide) ?_
          refine lv_icmp_ne (tgt := 217) hx hb dX7_set_210 (by decide) (fun _ => ?_) (fun h => absurd h (by rw [c_17]; decide))
          refine lv_aload_n hx hb dX7_set_217 rfl (lv_at hl 3 rfl) ?_
          refine zget hC hZ fX7_16 (zlt hn rfl) h_121 rfl dX7_set_218 ?_
          refine zput (E := oModel ad sc.1 sc.2.1 sc.2.2.2.1 sc.2.2.2.2 0 bs en u st kk dw ho sv pic ia tk) hC hZ pX7_16 (zlt hn rfl) h_121 rfl rfl rfl (Nat.le_of_ble_eq_true rfl) dX7_set_221 (fun F_133 hF_134 H locs hZ => ?_)
          have h_135 := zeq hF_134
          refine lv_aload_n hx hb dX7_set_224 rfl (lv_at hl 3 rfl) ?_
          refine lv_iload_n hx hb dX7_set_225 rfl (lv_at hl 4 rfl) ?_
          refine lv_iconst (v := 4) hx hb dX7_set_226 (by decide) ?_
          refine lv_icmp_ne (tgt := 234) hx hb dX7_set_227 (by decide) (fun h => absurd c_17 h) (fun _ => ?_)
          refine lv_iload_n hx hb dX7_set_230 rfl (lv_at hl 5 rfl) ?_
          refine lv_goto (tgt := 238) hx hb dX7_set_231 (by decide) ?_
          refine zput (E := oModel ad (sc.1.1, sc.1.2.1, sc.1.2.2.1, q) sc.2.1 sc.2.2.2.1 sc.2.2.2.2 0 bs en u st kk dw ho sv pic ia tk) hC hZ pX7_19 (zlt hn rfl) h_135 rfl rfl rfl (Nat.le_of_ble_eq_true rfl) dX7_set_238 (fun F_136 hF_137 H locs hZ => ?_)
          have h_138 := zeq hF_137
          refine lv_iload hx hb dX7_set_241 (lv_at hl 0 rfl) ?_
          have hmay : bMay what q := by rcases in04 b_108 with e | e | e | e | e <;> first | exact absurd e c_7 | (rw [e] at c_17; exact absurd c_17 (by decide)) | (rw [e]; exact may0.mpr b_112) | (rw [e]; exact may1.mpr b_112) | (rw [e]; exact may2.mpr b_112) | (rw [e]; exact may3.mpr b_112) | (rw [e]; exact may4.mpr b_112)
          have hq : (sc.1.2.2.2 : Int32) = sSet sc what q := by unfold sSet; rw [if_pos hmay, if_neg (fun h : bSetNo sc what q => c_7 h.1), c_17]; rfl
          have hfm_139 : frM F F_136 := (frM_up (frM_up (frM_up (frM_up (frM_up (frM_up frM_rf hF_2 (by decide) (by decide)) hF_114 (by decide) (by decide)) hF_117 (by decide) (by decide)) hF_120 (by decide) (by decide)) hF_134 (by decide) (by decide)) hF_137 (by decide) (by decide))
          exact zireti hC hZ hr hlocks ⟨hq, (by unfold sSetN; rw [if_pos ⟨hmay, (fun h : bSetNo sc what q => c_7 h.1)⟩, c_17, sSetS_4]; exact ⟨⟨bs, en, u, st, kk, dw, ho, sv, ia, tk, told, pl, nu, im, hw, kd, fg, so, mn, rw0, bt, h_138, (zne hF_137 (by decide) (zne hF_134 (by decide) h_122)), (zne hF_137 (by decide) (zne hF_134 (by decide) h_123)), (zne hF_137 (by decide) (zne hF_134 (by decide) h_124)), (zne hF_137 (by decide) (zne hF_134 (by decide) h_125)), (zne hF_137 (by decide) (zne hF_134 (by decide) h_126)), (zne hF_137 (by decide) (zne hF_134 (by decide) h_127)), (zne hF_137 (by decide) (zne hF_134 (by decide) h_128)), (zne hF_137 (by decide) (zne hF_134 (by decide) h_129)), (zne hF_137 (by decide) (zne hF_134 (by decide) h_130)), (zne hF_137 (by decide) (zne hF_134 (by decide) h_131)), (zne hF_137 (by decide) (zne hF_134 (by decide) h_132)), hR⟩, hfm_139⟩)⟩ dX7_set_243
        · rw [if_neg b_112] at hp_111
          subst hp_111
          refine lv_if_ne (tgt := 88) hx hb dX7_set_83 (by decide) (fun h => absurd (show (0 : Int32) = 0 by decide) h) (fun _ => ?_)
          refine lv_iconst (v := (-1)) hx hb dX7_set_86 (by decide) ?_
          have hmay : ¬ bMay what q := fun h => by rcases in04 b_108 with e | e | e | e | e <;> first | exact absurd e c_7 | (rw [e] at c_17; exact absurd c_17 (by decide)) | (rw [e] at h; exact b_112 (may0.mp h)) | (rw [e] at h; exact b_112 (may1.mp h)) | (rw [e] at h; exact b_112 (may2.mp h)) | (rw [e] at h; exact b_112 (may3.mp h)) | (rw [e] at h; exact b_112 (may4.mp h))
          have hq : ((-1) : Int32) = sSet sc what q := by exact (if_neg hmay).symm
          have hfm_140 : frM F F_1 := (frM_up frM_rf hF_2 (by decide) (by decide))
          exact zireti hC hZ hr hlocks ⟨hq, (by unfold sSetN; rw [if_neg (fun h => hmay h.1)]; exact ⟨⟨bs, en, u, st, kk, dw, ho, sv, ia, tk, told, pl, nu, im, hw, kd, fg, so, mn, rw0, bt, h_3, (zne hF_2 (by decide) h57), (zne hF_2 (by decide) h58), (zne hF_2 (by decide) h59), (zne hF_2 (by decide) h60), (zne hF_2 (by decide) h61), (zne hF_2 (by decide) h62), (zne hF_2 (by decide) h63), (zne hF_2 (by decide) h64), (zne hF_2 (by decide) h65), (zne hF_2 (by decide) h66), (zne hF_2 (by decide) h67), hR⟩, hfm_140⟩)⟩ dX7_set_87
      · rw [if_neg b_108] at hp_107
        subst hp_107
        refine lv_if_eq (tgt := 86) hx hb dX7_set_70 (by decide) (fun _ => ?_) (fun h => absurd (show (0 : Int32) = 0 by decide) h)
        refine lv_iconst (v := (-1)) hx hb dX7_set_86 (by decide) ?_
        have hmay : ¬ bMay what q := fun h => b_108 (bMay_04 h)
        have hq : ((-1) : Int32) = sSet sc what q := by exact (if_neg hmay).symm
        have hfm_141 : frM F F_1 := (frM_up frM_rf hF_2 (by decide) (by decide))
        exact zireti hC hZ hr hlocks ⟨hq, (by unfold sSetN; rw [if_neg (fun h => hmay h.1)]; exact ⟨⟨bs, en, u, st, kk, dw, ho, sv, ia, tk, told, pl, nu, im, hw, kd, fg, so, mn, rw0, bt, h_3, (zne hF_2 (by decide) h57), (zne hF_2 (by decide) h58), (zne hF_2 (by decide) h59), (zne hF_2 (by decide) h60), (zne hF_2 (by decide) h61), (zne hF_2 (by decide) h62), (zne hF_2 (by decide) h63), (zne hF_2 (by decide) h64), (zne hF_2 (by decide) h65), (zne hF_2 (by decide) h66), (zne hF_2 (by decide) h67), hR⟩, hfm_141⟩)⟩ dX7_set_87
  · refine lv_bipush (v := 10) hx hb dX7_set_10 (by decide) ?_
    refine lv_goto (tgt := 25) hx hb dX7_set_12 (by decide) ?_
    refine lv_istore_n (lv' := [(3, .int 10), (0, .ref (ad 56)), (1, .int what), (2, .int q)]) hx hb dX7_set_25 rfl hl (by decide) rfl (fun ls hl => ?_)
    refine lv_iload_n hx hb dX7_set_26 rfl (lv_at hl 2 rfl) ?_
    refine lv_iconst (v := 2) hx hb dX7_set_27 (by decide) ?_
    refine lv_icmp_ne (tgt := 35) hx hb dX7_set_28 (by decide) (fun _ => ?_) (fun h => absurd h (by rw [c_7]; decide))
    refine lv_iload_n hx hb dX7_set_35 rfl (lv_at hl 2 rfl) ?_
    refine lv_iconst (v := 3) hx hb dX7_set_36 (by decide) ?_
    refine lv_icmp_ne (tgt := 46) hx hb dX7_set_37 (by decide) (fun h => absurd c_7 h) (fun _ => ?_)
    refine lv_sipush (v := 9999) hx hb dX7_set_40 (by decide) ?_
    refine lv_goto (tgt := 59) hx hb dX7_set_43 (by decide) ?_
    refine lv_istore (lv' := [(4, .int 9999), (3, .int 10), (0, .ref (ad 56)), (1, .int what), (2, .int q)]) hx hb dX7_set_59 hl (by decide) rfl (fun ls hl => ?_)
    refine lv_iload_n hx hb dX7_set_61 rfl (lv_at hl 3 rfl) ?_
    refine lv_i2l (v := (what).toInt64) hx hb dX7_set_62 (by rfl) ?_
    refine lv_lconst (v := 0) hx hb dX7_set_63 (by decide) ?_
    refine lv_ldc2 (v := 4) hx hb hC.1.2.2.2.1 (hC.1.2.2.2.2 _ qX7_61) dX7_set_64 ?_
    refine zgoi hZ hA (zrunS (As := [.long ((what).toInt64), .long 0, .long 4]) (rest := []) hC hZ (c_X7_in l D cy n ad F_1 H.size what 0 4 0 4 (by decide) (by decide)) mX7_in sX7_in kX7_63 (zRj_of rfl) rfl hl.1 rfl (Nat.le_of_ble_eq_true rfl) dX7_set_67 ⟨Nat.le_refl _, Nat.le_refl _⟩) (fun r_143 F_142 hp_144 H locs hZ => ?_)
    obtain ⟨hp_144, rfl⟩ := hp_144
    by_cases b_145 : bIn what 0 4
    · rw [if_pos b_145] at hp_144
      subst hp_144
      refine lv_if_eq (tgt := 86) hx hb dX7_set_70 (by decide) (fun h => absurd (show (1 : Int32) = 0 from h) (by decide)) (fun _ => ?_)
      refine lv_iload_n hx hb dX7_set_73 rfl (lv_at hl 4 rfl) ?_
      refine lv_i2l (v := (q).toInt64) hx hb dX7_set_74 (by rfl) ?_
      refine lv_iload_n hx hb dX7_set_75 rfl (lv_at hl 1 rfl) ?_
      refine lv_i2l (v := 10) hx hb dX7_set_76 (by decide) ?_
      refine lv_iload hx hb dX7_set_77 (lv_at hl 0 rfl) ?_
      refine lv_i2l (v := 9999) hx hb dX7_set_79 (by decide) ?_
      refine zgoi hZ hA (zrunS (As := [.long ((q).toInt64), .long 10, .long 9999]) (rest := []) hC hZ (c_X7_in l D cy n ad F_1 H.size q 10 9999 10 9999 (by decide) (by decide)) mX7_in sX7_in kX7_63 (zRj_of rfl) rfl hl.1 rfl (Nat.le_of_ble_eq_true rfl) dX7_set_80 ⟨Nat.le_refl _, Nat.le_refl _⟩) (fun r_147 F_146 hp_148 H locs hZ => ?_)
      obtain ⟨hp_148, rfl⟩ := hp_148
      by_cases b_149 : bIn q 10 9999
      · rw [if_pos b_149] at hp_148
        subst hp_148
        refine lv_if_ne (tgt := 88) hx hb dX7_set_83 (by decide) (fun _ => ?_) (fun h => absurd (show (1 : Int32) = 0 from h) (by decide))
        refine lv_iload_n hx hb dX7_set_88 rfl (lv_at hl 3 rfl) ?_
        refine lv_iconst (v := 3) hx hb dX7_set_89 (by decide) ?_
        refine lv_icmp_ne (tgt := 104) hx hb dX7_set_90 (by decide) (fun h => absurd c_7 h) (fun _ => ?_)
        refine lv_aload_n hx hb dX7_set_93 rfl (lv_at hl 2 rfl) ?_
        refine zget hC hZ fX7_67 (zlt hn rfl) h_3 rfl dX7_set_94 ?_
        refine lv_iload_n hx hb dX7_set_97 rfl (lv_at hl 4 rfl) ?_
        refine lv_icmp_lt (tgt := 104) hx hb dX7_set_98 (by decide) (fun c_98 => ?_) (fun c_98 => ?_)
        · refine lv_iload_n hx hb dX7_set_104 rfl (lv_at hl 3 rfl) ?_
          refine lv_if_ne (tgt := 115) hx hb dX7_set_105 (by decide) (fun _ => ?_) (fun h => absurd h (by rw [c_7]; decide))
          refine lv_iload_n hx hb dX7_set_115 rfl (lv_at hl 3 rfl) ?_
          refine lv_iconst (v := 1) hx hb dX7_set_116 (by decide) ?_
          refine lv_icmp_ne (tgt := 127) hx hb dX7_set_117 (by decide) (fun _ => ?_) (fun h => absurd h (by rw [c_7]; decide))
          refine lv_iload_n hx hb dX7_set_127 rfl (lv_at hl 3 rfl) ?_
          refine lv_iconst (v := 2) hx hb dX7_set_128 (by decide) ?_
          refine lv_icmp_ne (tgt := 139) hx hb dX7_set_129 (by decide) (fun _ => ?_) (fun h => absurd h (by rw [c_7]; decide))
          refine lv_iload_n hx hb dX7_set_139 rfl (lv_at hl 3 rfl) ?_
          refine lv_iconst (v := 3) hx hb dX7_set_140 (by decide) ?_
          refine lv_icmp_ne (tgt := 151) hx hb dX7_set_141 (by decide) (fun h => absurd c_7 h) (fun _ => ?_)
          refine lv_aload_n hx hb dX7_set_144 rfl (lv_at hl 2 rfl) ?_
          refine zget hC hZ fX7_16 (zlt hn rfl) h_3 rfl dX7_set_145 ?_
          refine lv_goto (tgt := 155) hx hb dX7_set_148 (by decide) ?_
          refine lv_istore (lv' := [(5, .int sc.2.1), (4, .int 9999), (3, .int 10), (0, .ref (ad 56)), (1, .int what), (2, .int q)]) hx hb dX7_set_155 hl (by decide) rfl (fun ls hl => ?_)
          refine lv_aload_n hx hb dX7_set_157 rfl (lv_at hl 3 rfl) ?_
          refine lv_iload_n hx hb dX7_set_158 rfl (lv_at hl 4 rfl) ?_
          refine lv_if_ne (tgt := 166) hx hb dX7_set_159 (by decide) (fun _ => ?_) (fun h => absurd h (by rw [c_7]; decide))
          refine lv_aload_n hx hb dX7_set_166 rfl (lv_at hl 3 rfl) ?_
          refine zget hC hZ fX7_7 (zlt hn rfl) h_3 rfl dX7_set_167 ?_
          refine zput (E := oModel ad sc.1 sc.2.1 sc.2.2.2.1 sc.2.2.2.2 0 bs en u st kk dw ho sv pic ia tk) hC hZ pX7_7 (zlt hn rfl) h_3 rfl rfl rfl (Nat.le_of_ble_eq_true rfl) dX7_set_170 (fun F_150 hF_151 H locs hZ => ?_)
          have h_152 := zeq hF_151
          refine lv_aload_n hx hb dX7_set_173 rfl (lv_at hl 3 rfl) ?_
          refine lv_iload_n hx hb dX7_set_174 rfl (lv_at hl 4 rfl) ?_
          refine lv_iconst (v := 1) hx hb dX7_set_175 (by decide) ?_
          refine lv_icmp_ne (tgt := 183) hx hb dX7_set_176 (by decide) (fun _ => ?_) (fun h => absurd h (by rw [c_7]; decide))
          refine lv_aload_n hx hb dX7_set_183 rfl (lv_at hl 3 rfl) ?_
          refine zget hC hZ fX7_13 (zlt hn rfl) h_152 rfl dX7_set_184 ?_
          refine zput (E := oModel ad sc.1 sc.2.1 sc.2.2.2.1 sc.2.2.2.2 0 bs en u st kk dw ho sv pic ia tk) hC hZ pX7_13 (zlt hn rfl) h_152 rfl rfl rfl (Nat.le_of_ble_eq_true rfl) dX7_set_187 (fun F_153 hF_154 H locs hZ => ?_)
          have h_155 := zeq hF_154
          refine lv_aload_n hx hb dX7_set_190 rfl (lv_at hl 3 rfl) ?_
          refine lv_iload_n hx hb dX7_set_191 rfl (lv_at hl 4 rfl) ?_
          refine lv_iconst (v := 2) hx hb dX7_set_192 (by decide) ?_
          refine lv_icmp_ne (tgt := 200) hx hb dX7_set_193 (by decide) (fun _ => ?_) (fun h => absurd h (by rw [c_7]; decide))
          refine lv_aload_n hx hb dX7_set_200 rfl (lv_at hl 3 rfl) ?_
          refine zget hC hZ fX7_70 (zlt hn rfl) h_155 rfl dX7_set_201 ?_
          refine zput (E := oModel ad sc.1 sc.2.1 sc.2.2.2.1 sc.2.2.2.2 0 bs en u st kk dw ho sv pic ia tk) hC hZ pX7_70 (zlt hn rfl) h_155 rfl rfl rfl (Nat.le_of_ble_eq_true rfl) dX7_set_204 (fun F_156 hF_157 H locs hZ => ?_)
          have h_158 := zeq hF_157
          have h_159 := zne hF_157 (by decide) (zne hF_154 (by decide) (zne hF_151 (by decide) (zne hF_2 (by decide) h57)))
          have h_160 := zne hF_157 (by decide) (zne hF_154 (by decide) (zne hF_151 (by decide) (zne hF_2 (by decide) h58)))
          have h_161 := zne hF_157 (by decide) (zne hF_154 (by decide) (zne hF_151 (by decide) (zne hF_2 (by decide) h59)))
          have h_162 := zne hF_157 (by decide) (zne hF_154 (by decide) (zne hF_151 (by decide) (zne hF_2 (by decide) h60)))
          have h_163 := zne hF_157 (by decide) (zne hF_154 (by decide) (zne hF_151 (by decide) (zne hF_2 (by decide) h61)))
          have h_164 := zne hF_157 (by decide) (zne hF_154 (by decide) (zne hF_151 (by decide) (zne hF_2 (by decide) h62)))
          have h_165 := zne hF_157 (by decide) (zne hF_154 (by decide) (zne hF_151 (by decide) (zne hF_2 (by decide) h63)))
          have h_166 := zne hF_157 (by decide) (zne hF_154 (by decide) (zne hF_151 (by decide) (zne hF_2 (by decide) h64)))
          have h_167 := zne hF_157 (by decide) (zne hF_154 (by decide) (zne hF_151 (by decide) (zne hF_2 (by decide) h65)))
          have h_168 := zne hF_157 (by decide) (zne hF_154 (by decide) (zne hF_151 (by decide) (zne hF_2 (by decide) h66)))
          have h_169 := zne hF_157 (by decide) (zne hF_154 (by decide) (zne hF_151 (by decide) (zne hF_2 (by decide) h67)))
          refine lv_aload_n hx hb dX7_set_207 rfl (lv_at hl 3 rfl) ?_
          refine lv_iload_n hx hb dX7_set_208 rfl (lv_at hl 4 rfl) ?_
          refine lv_iconst (v := 3) hx hb dX7_set_209 (by decide) ?_
          refine lv_icmp_ne (tgt := 217) hx hb dX7_set_210 (by decide) (fun h => absurd c_7 h) (fun _ => ?_)
          refine lv_iload_n hx hb dX7_set_213 rfl (lv_at hl 5 rfl) ?_
          refine lv_goto (tgt := 221) hx hb dX7_set_214 (by decide) ?_
          refine zput (E := oModel ad sc.1 q sc.2.2.2.1 sc.2.2.2.2 0 bs en u st kk dw ho sv pic ia tk) hC hZ pX7_16 (zlt hn rfl) h_158 rfl rfl rfl (Nat.le_of_ble_eq_true rfl) dX7_set_221 (fun F_170 hF_171 H locs hZ => ?_)
          have h_172 := zeq hF_171
          refine lv_aload_n hx hb dX7_set_224 rfl (lv_at hl 3 rfl) ?_
          refine lv_iload_n hx hb dX7_set_225 rfl (lv_at hl 4 rfl) ?_
          refine lv_iconst (v := 4) hx hb dX7_set_226 (by decide) ?_
          refine lv_icmp_ne (tgt := 234) hx hb dX7_set_227 (by decide) (fun _ => ?_) (fun h => absurd h (by rw [c_7]; decide))
          refine lv_aload_n hx hb dX7_set_234 rfl (lv_at hl 3 rfl) ?_
          refine zget hC hZ fX7_19 (zlt hn rfl) h_172 rfl dX7_set_235 ?_
          refine zput (E := oModel ad sc.1 q sc.2.2.2.1 sc.2.2.2.2 0 bs en u st kk dw ho sv pic ia tk) hC hZ pX7_19 (zlt hn rfl) h_172 rfl rfl rfl (Nat.le_of_ble_eq_true rfl) dX7_set_238 (fun F_173 hF_174 H locs hZ => ?_)
          have h_175 := zeq hF_174
          refine lv_iload hx hb dX7_set_241 (lv_at hl 0 rfl) ?_
          have hmay : bMay what q := by rcases in04 b_145 with e | e | e | e | e <;> first | (rw [e] at c_7; exact absurd c_7 (by decide)) | (rw [e]; exact may0.mpr b_149) | (rw [e]; exact may1.mpr b_149) | (rw [e]; exact may2.mpr b_149) | (rw [e]; exact may3.mpr b_149) | (rw [e]; exact may4.mpr b_149)
          have hq : (sc.2.1 : Int32) = sSet sc what q := by unfold sSet; rw [if_pos hmay, if_neg (fun h : bSetNo sc what q => absurd h.2 (Int32.not_le.mpr c_98)), c_7]; rfl
          have hfm_176 : frM F F_173 := (frM_up (frM_up (frM_up (frM_up (frM_up (frM_up frM_rf hF_2 (by decide) (by decide)) hF_151 (by decide) (by decide)) hF_154 (by decide) (by decide)) hF_157 (by decide) (by decide)) hF_171 (by decide) (by decide)) hF_174 (by decide) (by decide))
          exact zireti hC hZ hr hlocks ⟨hq, (by unfold sSetN; rw [if_pos ⟨hmay, (fun h : bSetNo sc what q => absurd h.2 (Int32.not_le.mpr c_98))⟩, c_7, sSetS_3]; exact ⟨⟨bs, en, u, st, kk, dw, ho, sv, ia, tk, told, pl, nu, im, hw, kd, fg, so, mn, rw0, bt, h_175, (zne hF_174 (by decide) (zne hF_171 (by decide) h_159)), (zne hF_174 (by decide) (zne hF_171 (by decide) h_160)), (zne hF_174 (by decide) (zne hF_171 (by decide) h_161)), (zne hF_174 (by decide) (zne hF_171 (by decide) h_162)), (zne hF_174 (by decide) (zne hF_171 (by decide) h_163)), (zne hF_174 (by decide) (zne hF_171 (by decide) h_164)), (zne hF_174 (by decide) (zne hF_171 (by decide) h_165)), (zne hF_174 (by decide) (zne hF_171 (by decide) h_166)), (zne hF_174 (by decide) (zne hF_171 (by decide) h_167)), (zne hF_174 (by decide) (zne hF_171 (by decide) h_168)), (zne hF_174 (by decide) (zne hF_171 (by decide) h_169)), hR⟩, hfm_176⟩)⟩ dX7_set_243
        · refine lv_bipush (v := (-3)) hx hb dX7_set_101 (by decide) ?_
          have hmay : bMay what q := by rcases in04 b_145 with e | e | e | e | e <;> first | (rw [e] at c_7; exact absurd c_7 (by decide)) | (rw [e]; exact may0.mpr b_149) | (rw [e]; exact may1.mpr b_149) | (rw [e]; exact may2.mpr b_149) | (rw [e]; exact may3.mpr b_149) | (rw [e]; exact may4.mpr b_149)
          have hq : ((-3) : Int32) = sSet sc what q := by unfold sSet; rw [if_pos hmay, if_pos ⟨c_7, Int32.not_lt.mp c_98⟩]
          have hfm_177 : frM F F_1 := (frM_up frM_rf hF_2 (by decide) (by decide))
          exact zireti hC hZ hr hlocks ⟨hq, (by unfold sSetN; rw [if_neg (fun h => h.2 ⟨c_7, Int32.not_lt.mp c_98⟩)]; exact ⟨⟨bs, en, u, st, kk, dw, ho, sv, ia, tk, told, pl, nu, im, hw, kd, fg, so, mn, rw0, bt, h_3, (zne hF_2 (by decide) h57), (zne hF_2 (by decide) h58), (zne hF_2 (by decide) h59), (zne hF_2 (by decide) h60), (zne hF_2 (by decide) h61), (zne hF_2 (by decide) h62), (zne hF_2 (by decide) h63), (zne hF_2 (by decide) h64), (zne hF_2 (by decide) h65), (zne hF_2 (by decide) h66), (zne hF_2 (by decide) h67), hR⟩, hfm_177⟩)⟩ dX7_set_103
      · rw [if_neg b_149] at hp_148
        subst hp_148
        refine lv_if_ne (tgt := 88) hx hb dX7_set_83 (by decide) (fun h => absurd (show (0 : Int32) = 0 by decide) h) (fun _ => ?_)
        refine lv_iconst (v := (-1)) hx hb dX7_set_86 (by decide) ?_
        have hmay : ¬ bMay what q := fun h => by rcases in04 b_145 with e | e | e | e | e <;> first | (rw [e] at c_7; exact absurd c_7 (by decide)) | (rw [e] at h; exact b_149 (may0.mp h)) | (rw [e] at h; exact b_149 (may1.mp h)) | (rw [e] at h; exact b_149 (may2.mp h)) | (rw [e] at h; exact b_149 (may3.mp h)) | (rw [e] at h; exact b_149 (may4.mp h))
        have hq : ((-1) : Int32) = sSet sc what q := by exact (if_neg hmay).symm
        have hfm_178 : frM F F_1 := (frM_up frM_rf hF_2 (by decide) (by decide))
        exact zireti hC hZ hr hlocks ⟨hq, (by unfold sSetN; rw [if_neg (fun h => hmay h.1)]; exact ⟨⟨bs, en, u, st, kk, dw, ho, sv, ia, tk, told, pl, nu, im, hw, kd, fg, so, mn, rw0, bt, h_3, (zne hF_2 (by decide) h57), (zne hF_2 (by decide) h58), (zne hF_2 (by decide) h59), (zne hF_2 (by decide) h60), (zne hF_2 (by decide) h61), (zne hF_2 (by decide) h62), (zne hF_2 (by decide) h63), (zne hF_2 (by decide) h64), (zne hF_2 (by decide) h65), (zne hF_2 (by decide) h66), (zne hF_2 (by decide) h67), hR⟩, hfm_178⟩)⟩ dX7_set_87
    · rw [if_neg b_145] at hp_144
      subst hp_144
      refine lv_if_eq (tgt := 86) hx hb dX7_set_70 (by decide) (fun _ => ?_) (fun h => absurd (show (0 : Int32) = 0 by decide) h)
      refine lv_iconst (v := (-1)) hx hb dX7_set_86 (by decide) ?_
      have hmay : ¬ bMay what q := fun h => b_145 (bMay_04 h)
      have hq : ((-1) : Int32) = sSet sc what q := by exact (if_neg hmay).symm
      have hfm_179 : frM F F_1 := (frM_up frM_rf hF_2 (by decide) (by decide))
      exact zireti hC hZ hr hlocks ⟨hq, (by unfold sSetN; rw [if_neg (fun h => hmay h.1)]; exact ⟨⟨bs, en, u, st, kk, dw, ho, sv, ia, tk, told, pl, nu, im, hw, kd, fg, so, mn, rw0, bt, h_3, (zne hF_2 (by decide) h57), (zne hF_2 (by decide) h58), (zne hF_2 (by decide) h59), (zne hF_2 (by decide) h60), (zne hF_2 (by decide) h61), (zne hF_2 (by decide) h62), (zne hF_2 (by decide) h63), (zne hF_2 (by decide) h64), (zne hF_2 (by decide) h65), (zne hF_2 (by decide) h66), (zne hF_2 (by decide) h67), hR⟩, hfm_179⟩)⟩ dX7_set_87
