theorem mX7_tries : zMd yX7_tries cX7_tries 5 (some .int) 1 := ⟨by decide +kernel, gt_of 892 (by decide +kernel) rfl, gt_of 52 (by decide +kernel) rfl, by decide⟩
theorem dX7_tries_0 : decode cX7_tries 0 = .ok (.aload_n 0, 1) := by decide +kernel
theorem dX7_tries_1 : decode cX7_tries 1 = .ok (.iconst 0, 1) := by decide +kernel
theorem dX7_tries_2 : decode cX7_tries 2 = .ok (.putfield 57, 3) := by decide +kernel
theorem dX7_tries_5 : decode cX7_tries 5 = .ok (.aload_n 0, 1) := by decide +kernel
theorem dX7_tries_6 : decode cX7_tries 6 = .ok (.iload_n 1, 1) := by decide +kernel
theorem dX7_tries_7 : decode cX7_tries 7 = .ok (.invokevirtual 111, 3) := by decide +kernel
theorem dX7_tries_10 : decode cX7_tries 10 = .ok (.ifCond .ge 11, 3) := by decide +kernel
theorem dX7_tries_21 : decode cX7_tries 21 = .ok (.aload_n 0, 1) := by decide +kernel
theorem dX7_tries_22 : decode cX7_tries 22 = .ok (.getfield 44, 3) := by decide +kernel
theorem dX7_tries_25 : decode cX7_tries 25 = .ok (.iload_n 1, 1) := by decide +kernel
theorem dX7_tries_26 : decode cX7_tries 26 = .ok (.iaload, 1) := by decide +kernel
theorem dX7_tries_27 : decode cX7_tries 27 = .ok (.ifCond .eq 8, 3) := by decide +kernel
theorem dX7_tries_35 : decode cX7_tries 35 = .ok (.iconst 0, 1) := by decide +kernel
theorem dX7_tries_36 : decode cX7_tries 36 = .ok (.istore_n 2, 1) := by decide +kernel
theorem dX7_tries_37 : decode cX7_tries 37 = .ok (.iload_n 2, 1) := by decide +kernel
theorem dX7_tries_38 : decode cX7_tries 38 = .ok (.ifCond .ge 5, 3) := by decide +kernel
theorem dX7_tries_43 : decode cX7_tries 43 = .ok (.aload_n 0, 1) := by decide +kernel
theorem dX7_tries_44 : decode cX7_tries 44 = .ok (.bipush 100, 2) := by decide +kernel
theorem dX7_tries_46 : decode cX7_tries 46 = .ok (.iload_n 1, 1) := by decide +kernel
theorem dX7_tries_47 : decode cX7_tries 47 = .ok (.imul, 1) := by decide +kernel
theorem dX7_tries_48 : decode cX7_tries 48 = .ok (.putfield 79, 3) := by decide +kernel
theorem pX7_79 : zFldP RX7 79 7 13 false .int := ⟨RX7, TX7, 39, tyX7, rfl, inX7, by decide, rfl, Or.inl (gt_of 771 (by decide +kernel) rfl), tyX7_ok, nmX7, rfl, by decide +kernel, fun h => by cases h⟩
theorem dX7_tries_51 : decode cX7_tries 51 = .ok (.aload_n 0, 1) := by decide +kernel
theorem dX7_tries_52 : decode cX7_tries 52 = .ok (.aload_n 0, 1) := by decide +kernel
theorem dX7_tries_53 : decode cX7_tries 53 = .ok (.getfield 47, 3) := by decide +kernel
theorem dX7_tries_56 : decode cX7_tries 56 = .ok (.iload_n 1, 1) := by decide +kernel
theorem dX7_tries_57 : decode cX7_tries 57 = .ok (.iaload, 1) := by decide +kernel
theorem dX7_tries_58 : decode cX7_tries 58 = .ok (.putfield 76, 3) := by decide +kernel
theorem pX7_76 : zFldP RX7 76 7 14 false .int := ⟨RX7, TX7, 39, tyX7, rfl, inX7, by decide, rfl, Or.inl (gt_of 772 (by decide +kernel) rfl), tyX7_ok, nmX7, rfl, by decide +kernel, fun h => by cases h⟩
theorem dX7_tries_61 : decode cX7_tries 61 = .ok (.aload_n 0, 1) := by decide +kernel
theorem dX7_tries_62 : decode cX7_tries 62 = .ok (.iconst 0, 1) := by decide +kernel
theorem dX7_tries_63 : decode cX7_tries 63 = .ok (.putfield 73, 3) := by decide +kernel
theorem dX7_tries_66 : decode cX7_tries 66 = .ok (.aload_n 0, 1) := by decide +kernel
theorem dX7_tries_67 : decode cX7_tries 67 = .ok (.iconst 0, 1) := by decide +kernel
theorem dX7_tries_68 : decode cX7_tries 68 = .ok (.putfield 82, 3) := by decide +kernel
theorem dX7_tries_71 : decode cX7_tries 71 = .ok (.aload_n 0, 1) := by decide +kernel
theorem dX7_tries_72 : decode cX7_tries 72 = .ok (.iconst 0, 1) := by decide +kernel
theorem dX7_tries_73 : decode cX7_tries 73 = .ok (.putfield 97, 3) := by decide +kernel
theorem dX7_tries_76 : decode cX7_tries 76 = .ok (.aload_n 0, 1) := by decide +kernel
theorem dX7_tries_77 : decode cX7_tries 77 = .ok (.getfield 82, 3) := by decide +kernel
theorem dX7_tries_80 : decode cX7_tries 80 = .ok (.ifCond .ne 28, 3) := by decide +kernel
theorem dX7_tries_108 : decode cX7_tries 108 = .ok (.aload_n 0, 1) := by decide +kernel
theorem dX7_tries_109 : decode cX7_tries 109 = .ok (.getfield 82, 3) := by decide +kernel
theorem dX7_tries_112 : decode cX7_tries 112 = .ok (.ifCond .eq 12, 3) := by decide +kernel
theorem dX7_tries_115 : decode cX7_tries 115 = .ok (.sipush (-1000), 3) := by decide +kernel
theorem dX7_tries_118 : decode cX7_tries 118 = .ok (.aload_n 0, 1) := by decide +kernel
theorem dX7_tries_119 : decode cX7_tries 119 = .ok (.getfield 73, 3) := by decide +kernel
theorem dX7_tries_122 : decode cX7_tries 122 = .ok (.isub, 1) := by decide +kernel
theorem dX7_tries_123 : decode cX7_tries 123 = .ok (.ireturn, 1) := by decide +kernel
theorem dX7_tries_83 : decode cX7_tries 83 = .ok (.aload_n 0, 1) := by decide +kernel
theorem dX7_tries_84 : decode cX7_tries 84 = .ok (.getfield 97, 3) := by decide +kernel
theorem dX7_tries_87 : decode cX7_tries 87 = .ok (.ifCond .eq 14, 3) := by decide +kernel
theorem dX7_tries_101 : decode cX7_tries 101 = .ok (.aload_n 0, 1) := by decide +kernel
theorem dX7_tries_102 : decode cX7_tries 102 = .ok (.invokevirtual 115, 3) := by decide +kernel
theorem kX7_115 : zLk RX7 115 yX7_readStatement := Or.inl (gt_of 898 (by decide +kernel) rfl)
theorem vX7_readStatement : zMi yX7_readStatement := ⟨gt_of 900 (by decide +kernel) rfl, gt_of 20 (by decide +kernel) rfl⟩
theorem dX7_tries_105 : decode cX7_tries 105 = .ok (.goto (-29), 3) := by decide +kernel
theorem dX7_tries_90 : decode cX7_tries 90 = .ok (.aload_n 0, 1) := by decide +kernel
theorem dX7_tries_91 : decode cX7_tries 91 = .ok (.getfield 73, 3) := by decide +kernel
theorem dX7_tries_94 : decode cX7_tries 94 = .ok (.aload_n 0, 1) := by decide +kernel
theorem dX7_tries_95 : decode cX7_tries 95 = .ok (.getfield 76, 3) := by decide +kernel
theorem dX7_tries_98 : decode cX7_tries 98 = .ok (.if_icmp .ge 10, 3) := by decide +kernel
theorem dX7_tries_124 : decode cX7_tries 124 = .ok (.iconst 0, 1) := by decide +kernel
theorem dX7_tries_125 : decode cX7_tries 125 = .ok (.istore_n 3, 1) := by decide +kernel
theorem dX7_tries_126 : decode cX7_tries 126 = .ok (.iload_n 3, 1) := by decide +kernel
theorem dX7_tries_127 : decode cX7_tries 127 = .ok (.aload_n 0, 1) := by decide +kernel
theorem dX7_tries_128 : decode cX7_tries 128 = .ok (.getfield 97, 3) := by decide +kernel
theorem dX7_tries_131 : decode cX7_tries 131 = .ok (.if_icmp .ge 95, 3) := by decide +kernel
theorem dX7_tries_226 : decode cX7_tries 226 = .ok (.iconst 0, 1) := by decide +kernel
theorem dX7_tries_227 : decode cX7_tries 227 = .ok (.istore_n 3, 1) := by decide +kernel
theorem dX7_tries_228 : decode cX7_tries 228 = .ok (.iload_n 3, 1) := by decide +kernel
theorem dX7_tries_229 : decode cX7_tries 229 = .ok (.iconst 4, 1) := by decide +kernel
theorem dX7_tries_230 : decode cX7_tries 230 = .ok (.aload_n 0, 1) := by decide +kernel
theorem dX7_tries_231 : decode cX7_tries 231 = .ok (.getfield 97, 3) := by decide +kernel
theorem dX7_tries_234 : decode cX7_tries 234 = .ok (.imul, 1) := by decide +kernel
theorem dX7_tries_235 : decode cX7_tries 235 = .ok (.if_icmp .ge 28, 3) := by decide +kernel
theorem dX7_tries_263 : decode cX7_tries 263 = .ok (.aload_n 0, 1) := by decide +kernel
theorem dX7_tries_264 : decode cX7_tries 264 = .ok (.dup, 1) := by decide +kernel
theorem dX7_tries_265 : decode cX7_tries 265 = .ok (.getfield 120, 3) := by decide +kernel
theorem dX7_tries_268 : decode cX7_tries 268 = .ok (.aload_n 0, 1) := by decide +kernel
theorem dX7_tries_269 : decode cX7_tries 269 = .ok (.getfield 97, 3) := by decide +kernel
theorem dX7_tries_272 : decode cX7_tries 272 = .ok (.iadd, 1) := by decide +kernel
theorem dX7_tries_273 : decode cX7_tries 273 = .ok (.putfield 120, 3) := by decide +kernel
theorem dX7_tries_276 : decode cX7_tries 276 = .ok (.aload_n 0, 1) := by decide +kernel
theorem dX7_tries_277 : decode cX7_tries 277 = .ok (.getfield 97, 3) := by decide +kernel
theorem dX7_tries_280 : decode cX7_tries 280 = .ok (.ireturn, 1) := by decide +kernel
theorem dX7_tries_238 : decode cX7_tries 238 = .ok (.aload_n 0, 1) := by decide +kernel
theorem dX7_tries_239 : decode cX7_tries 239 = .ok (.getfield 22, 3) := by decide +kernel
theorem dX7_tries_242 : decode cX7_tries 242 = .ok (.iconst 4, 1) := by decide +kernel
theorem dX7_tries_243 : decode cX7_tries 243 = .ok (.aload_n 0, 1) := by decide +kernel
theorem dX7_tries_244 : decode cX7_tries 244 = .ok (.getfield 120, 3) := by decide +kernel
theorem dX7_tries_247 : decode cX7_tries 247 = .ok (.imul, 1) := by decide +kernel
theorem dX7_tries_248 : decode cX7_tries 248 = .ok (.iload_n 3, 1) := by decide +kernel
theorem dX7_tries_249 : decode cX7_tries 249 = .ok (.iadd, 1) := by decide +kernel
theorem dX7_tries_250 : decode cX7_tries 250 = .ok (.aload_n 0, 1) := by decide +kernel
theorem dX7_tries_251 : decode cX7_tries 251 = .ok (.getfield 29, 3) := by decide +kernel
theorem dX7_tries_254 : decode cX7_tries 254 = .ok (.iload_n 3, 1) := by decide +kernel
theorem dX7_tries_255 : decode cX7_tries 255 = .ok (.iaload, 1) := by decide +kernel
theorem dX7_tries_256 : decode cX7_tries 256 = .ok (.iastore, 1) := by decide +kernel
theorem dX7_tries_257 : decode cX7_tries 257 = .ok (.iinc 3 1, 3) := by decide +kernel
theorem dX7_tries_260 : decode cX7_tries 260 = .ok (.goto (-32), 3) := by decide +kernel
theorem dX7_tries_134 : decode cX7_tries 134 = .ok (.iconst 4, 1) := by decide +kernel
theorem dX7_tries_135 : decode cX7_tries 135 = .ok (.iload_n 3, 1) := by decide +kernel
theorem dX7_tries_136 : decode cX7_tries 136 = .ok (.imul, 1) := by decide +kernel
theorem dX7_tries_137 : decode cX7_tries 137 = .ok (.istore 4, 2) := by decide +kernel
theorem dX7_tries_139 : decode cX7_tries 139 = .ok (.aload_n 0, 1) := by decide +kernel
theorem dX7_tries_140 : decode cX7_tries 140 = .ok (.getfield 29, 3) := by decide +kernel
theorem dX7_tries_143 : decode cX7_tries 143 = .ok (.iload 4, 2) := by decide +kernel
theorem dX7_tries_145 : decode cX7_tries 145 = .ok (.iaload, 1) := by decide +kernel
theorem dX7_tries_146 : decode cX7_tries 146 = .ok (.bipush 100, 2) := by decide +kernel
theorem dX7_tries_148 : decode cX7_tries 148 = .ok (.if_icmp .gt 61, 3) := by decide +kernel
theorem dX7_tries_209 : decode cX7_tries 209 = .ok (.sipush (-2000), 3) := by decide +kernel
theorem dX7_tries_212 : decode cX7_tries 212 = .ok (.aload_n 0, 1) := by decide +kernel
theorem dX7_tries_213 : decode cX7_tries 213 = .ok (.getfield 26, 3) := by decide +kernel
theorem dX7_tries_216 : decode cX7_tries 216 = .ok (.iload_n 3, 1) := by decide +kernel
theorem dX7_tries_217 : decode cX7_tries 217 = .ok (.iaload, 1) := by decide +kernel
theorem dX7_tries_218 : decode cX7_tries 218 = .ok (.isub, 1) := by decide +kernel
theorem dX7_tries_219 : decode cX7_tries 219 = .ok (.ireturn, 1) := by decide +kernel
theorem dX7_tries_151 : decode cX7_tries 151 = .ok (.aload_n 0, 1) := by decide +kernel
theorem dX7_tries_152 : decode cX7_tries 152 = .ok (.getfield 29, 3) := by decide +kernel
theorem dX7_tries_155 : decode cX7_tries 155 = .ok (.iload 4, 2) := by decide +kernel
theorem dX7_tries_157 : decode cX7_tries 157 = .ok (.iconst 1, 1) := by decide +kernel
theorem dX7_tries_158 : decode cX7_tries 158 = .ok (.iadd, 1) := by decide +kernel
theorem dX7_tries_159 : decode cX7_tries 159 = .ok (.iaload, 1) := by decide +kernel
theorem dX7_tries_160 : decode cX7_tries 160 = .ok (.bipush 100, 2) := by decide +kernel
theorem dX7_tries_162 : decode cX7_tries 162 = .ok (.if_icmp .gt 47, 3) := by decide +kernel
theorem dX7_tries_165 : decode cX7_tries 165 = .ok (.aload_n 0, 1) := by decide +kernel
theorem dX7_tries_166 : decode cX7_tries 166 = .ok (.getfield 29, 3) := by decide +kernel
theorem dX7_tries_169 : decode cX7_tries 169 = .ok (.iload 4, 2) := by decide +kernel
theorem dX7_tries_171 : decode cX7_tries 171 = .ok (.iconst 2, 1) := by decide +kernel
theorem dX7_tries_172 : decode cX7_tries 172 = .ok (.iadd, 1) := by decide +kernel
theorem dX7_tries_173 : decode cX7_tries 173 = .ok (.iaload, 1) := by decide +kernel
theorem dX7_tries_174 : decode cX7_tries 174 = .ok (.iconst 2, 1) := by decide +kernel
theorem dX7_tries_175 : decode cX7_tries 175 = .ok (.if_icmp .gt 34, 3) := by decide +kernel
theorem dX7_tries_178 : decode cX7_tries 178 = .ok (.aload_n 0, 1) := by decide +kernel
theorem dX7_tries_179 : decode cX7_tries 179 = .ok (.getfield 29, 3) := by decide +kernel
theorem dX7_tries_182 : decode cX7_tries 182 = .ok (.iload 4, 2) := by decide +kernel
theorem dX7_tries_184 : decode cX7_tries 184 = .ok (.iconst 3, 1) := by decide +kernel
theorem dX7_tries_185 : decode cX7_tries 185 = .ok (.iadd, 1) := by decide +kernel
theorem dX7_tries_186 : decode cX7_tries 186 = .ok (.iaload, 1) := by decide +kernel
theorem dX7_tries_187 : decode cX7_tries 187 = .ok (.i2l, 1) := by decide +kernel
theorem dX7_tries_188 : decode cX7_tries 188 = .ok (.lconst 1, 1) := by decide +kernel
theorem dX7_tries_189 : decode cX7_tries 189 = .ok (.ldc2_w 118, 3) := by decide +kernel
theorem qX7_118 : Cond.constantLong RX7 118 400 ∈ gtbl := gt_of 924 (by decide +kernel) rfl
theorem dX7_tries_192 : decode cX7_tries 192 = .ok (.invokestatic 63, 3) := by decide +kernel
theorem dX7_tries_195 : decode cX7_tries 195 = .ok (.ifCond .eq 14, 3) := by decide +kernel
theorem dX7_tries_198 : decode cX7_tries 198 = .ok (.aload_n 0, 1) := by decide +kernel
theorem dX7_tries_199 : decode cX7_tries 199 = .ok (.getfield 120, 3) := by decide +kernel
theorem dX7_tries_202 : decode cX7_tries 202 = .ok (.iload_n 3, 1) := by decide +kernel
theorem dX7_tries_203 : decode cX7_tries 203 = .ok (.iadd, 1) := by decide +kernel
theorem dX7_tries_204 : decode cX7_tries 204 = .ok (.bipush 8, 2) := by decide +kernel
theorem dX7_tries_206 : decode cX7_tries 206 = .ok (.if_icmp .lt 14, 3) := by decide +kernel
theorem dX7_tries_220 : decode cX7_tries 220 = .ok (.iinc 3 1, 3) := by decide +kernel
theorem dX7_tries_223 : decode cX7_tries 223 = .ok (.goto (-97), 3) := by decide +kernel
theorem dX7_tries_30 : decode cX7_tries 30 = .ok (.bipush (-12), 2) := by decide +kernel
theorem dX7_tries_32 : decode cX7_tries 32 = .ok (.goto 4, 3) := by decide +kernel
theorem dX7_tries_41 : decode cX7_tries 41 = .ok (.iload_n 2, 1) := by decide +kernel
theorem dX7_tries_42 : decode cX7_tries 42 = .ok (.ireturn, 1) := by decide +kernel
theorem dX7_tries_13 : decode cX7_tries 13 = .ok (.aload_n 0, 1) := by decide +kernel
theorem dX7_tries_14 : decode cX7_tries 14 = .ok (.iload_n 1, 1) := by decide +kernel
theorem dX7_tries_15 : decode cX7_tries 15 = .ok (.invokevirtual 111, 3) := by decide +kernel
theorem dX7_tries_18 : decode cX7_tries 18 = .ok (.goto 18, 3) := by decide +kernel
set_option maxRecDepth 100000 in
theorem c_X7_tries (l : Launch) (D : va_G) (cy : Nat → Nat) (n : Nat) (ad : Nat → Nat) (F : Nat → va_E) (sz : Nat) (th0 pic : Int32) (sc ps : Scn) (sh : Nat → Shf) (hn : 68 ≤ n) (hX : RM ad cy F th0 pic sc ps sh) (hG : gX sc ps sh) (d : Int32) (r0 : Int32) (tr1 : Nat → Stg) (tc1 : Int32) (hT : TQ sc sh d r0 tr1 tc1) : Met l yX7_tries (zw yX7_tries cX7_tries 5 (some .int)) (rmL 4) (zPc D cy n ad F sz [.ref (ad 56), .int d]) (va_Qi (fun r F1 => r = r0 ∧ RM ad cy F1 0 pic (sc.1, sc.2.1, tr1, tc1, sc.2.2.2.2) ps sh ∧ frM F F1) (zB D n ad) (zA n ad sz)) 0 0 (zA n ad sz) := by
  refine zmet (by decide +kernel) (Nat.le_of_ble_eq_true rfl) (fun p e s m args below meth c ls hC hsz hZ hA hr hlocks hnm hl => ?_)
  have hC : zC p m c cX7_tries 5 s args RX7 D cy := hC
  have hx := hC.1.1
  have hb := hC.1.2.1
  have hl : lv_has ls 5 [(0, .ref (ad 56)), (1, .int d)] := hl
  obtain ⟨bs, en, u, st, kk, dw, ho, sv, ia, tk, told, pl, nu, im, hw, kd, fg, so, mn, rw0, bt, hM, h57, h58, h59, h60, h61, h62, h63, h64, h65, h66, h67, hR⟩ := hX
  have hRS := hR.2.2
  have hHW := rX_hw hR
  refine lv_aload_n hx hb dX7_tries_0 rfl (lv_at hl 0 rfl) ?_
  refine lv_iconst (v := 0) hx hb dX7_tries_1 (by decide) ?_
  refine zput (E := oModel ad sc.1 sc.2.1 sc.2.2.2.1 sc.2.2.2.2 0 bs en u st kk dw ho sv pic ia tk) hC hZ pX7_57 (zlt hn rfl) hM rfl rfl rfl (Nat.le_of_ble_eq_true rfl) dX7_tries_2 (fun F_1 hF_2 H locs hZ => ?_)
  have h_3 := zeq hF_2
  refine lv_aload_n hx hb dX7_tries_5 rfl (lv_at hl 0 rfl) ?_
  refine lv_iload_n hx hb dX7_tries_6 rfl (lv_at hl 1 rfl) ?_
  refine zgoi hZ hA (zrunV (As := [.int d]) (rest := []) (k := 56) hC hZ (c_X7_wrongRow l D cy n ad F_1 H.size sc.1 sc.2.1 sc.2.2.2.1 sc.2.2.2.2 0 bs en u st kk dw ho sv pic ia tk hn h_3 hw (zne hF_2 (by decide) h61) d) mX7_wrongRow vX7_wrongRow kX7_111 (zRj_of rfl) (zlt hn rfl) h_3 rfl rfl hl.1 rfl (Nat.le_of_ble_eq_true rfl) dX7_tries_7 ⟨Nat.le_refl _, Nat.le_refl _⟩) (fun r_5 F_4 hp_6 H locs hZ => ?_)
  rw [mRowR_eq hHW] at hp_6
  obtain ⟨rfl, rfl⟩ := hp_6
  refine lv_if_ge (tgt := 21) hx hb dX7_tries_10 (by decide) (fun c_10 => ?_) (fun c_10 => ?_)
  · refine lv_aload_n hx hb dX7_tries_21 rfl (lv_at hl 0 rfl) ?_
    refine zget hC hZ fX7_44 (zlt hn rfl) h_3 rfl dX7_tries_22 ?_
    refine lv_iload_n hx hb dX7_tries_25 rfl (lv_at hl 1 rfl) ?_
    have hz_7 : (sRowR sh d) = 0 := sRowR_ge (Int32.not_lt.mpr c_10)
    have hs := sRowR_0 hz_7
    have hd := hs.1
    have hro := (hRS _ hd.2).2.2 hs.2
    refine ziald hC hZ (zlt hn rfl) (zne hF_2 (by decide) h64) hd.1 hd.2 (by decide) dX7_tries_26 ?_
    refine lv_if_eq (tgt := 35) hx hb dX7_tries_27 (by decide) (fun c_27 => ?_) (fun c_27 => ?_)
    · refine lv_iconst (v := 0) hx hb dX7_tries_35 (by decide) ?_
      refine lv_istore_n (lv' := [(2, .int 0), (0, .ref (ad 56)), (1, .int d)]) hx hb dX7_tries_36 rfl hl (by decide) rfl (fun ls hl => ?_)
      refine lv_iload_n hx hb dX7_tries_37 rfl (lv_at hl 0 rfl) ?_
      refine lv_if_ge (tgt := 43) hx hb dX7_tries_38 (by decide) (fun _ => ?_) (fun h => absurd (show (0 : Int32) ≤ 0 by decide) h)
      refine lv_aload_n hx hb dX7_tries_43 rfl (lv_at hl 1 rfl) ?_
      refine lv_bipush (v := 100) hx hb dX7_tries_44 (by decide) ?_
      refine lv_iload_n hx hb dX7_tries_46 rfl (lv_at hl 2 rfl) ?_
      refine lv_imul hx hb dX7_tries_47 ?_
      refine zput (E := oModel ad sc.1 sc.2.1 sc.2.2.2.1 sc.2.2.2.2 0 (100 * d) en u st kk dw ho sv pic ia tk) hC hZ pX7_79 (zlt hn rfl) h_3 rfl rfl rfl (Nat.le_of_ble_eq_true rfl) dX7_tries_48 (fun F_8 hF_9 H locs hZ => ?_)
      have h_10 := zeq hF_9
      refine lv_aload_n hx hb dX7_tries_51 rfl (lv_at hl 1 rfl) ?_
      refine lv_aload_n hx hb dX7_tries_52 rfl (lv_at hl 1 rfl) ?_
      refine zget hC hZ fX7_47 (zlt hn rfl) h_10 rfl dX7_tries_53 ?_
      refine lv_iload_n hx hb dX7_tries_56 rfl (lv_at hl 2 rfl) ?_
      refine ziald hC hZ (zlt hn rfl) (zne hF_9 (by decide) (zne hF_2 (by decide) h65)) hd.1 hd.2 (by decide) dX7_tries_57 ?_
      refine zput (E := oModel ad sc.1 sc.2.1 sc.2.2.2.1 sc.2.2.2.2 0 (100 * d) (mn (iN d)) u st kk dw ho sv pic ia tk) hC hZ pX7_76 (zlt hn rfl) h_10 rfl rfl rfl (Nat.le_of_ble_eq_true rfl) dX7_tries_58 (fun F_11 hF_12 H locs hZ => ?_)
      have h_13 := zeq hF_12
      refine lv_aload_n hx hb dX7_tries_61 rfl (lv_at hl 1 rfl) ?_
      refine lv_iconst (v := 0) hx hb dX7_tries_62 (by decide) ?_
      refine zput (E := oModel ad sc.1 sc.2.1 sc.2.2.2.1 sc.2.2.2.2 0 (100 * d) (mn (iN d)) (0, u.2) st kk dw ho sv pic ia tk) hC hZ pX7_73 (zlt hn rfl) h_13 rfl rfl rfl (Nat.le_of_ble_eq_true rfl) dX7_tries_63 (fun F_14 hF_15 H locs hZ => ?_)
      have h_16 := zeq hF_15
      refine lv_aload_n hx hb dX7_tries_66 rfl (lv_at hl 1 rfl) ?_
      refine lv_iconst (v := 0) hx hb dX7_tries_67 (by decide) ?_
      refine zput (E := oModel ad sc.1 sc.2.1 sc.2.2.2.1 sc.2.2.2.2 0 (100 * d) (mn (iN d)) (0, 0) st kk dw ho sv pic ia tk) hC hZ pX7_82 (zlt hn rfl) h_16 rfl rfl rfl (Nat.le_of_ble_eq_true rfl) dX7_tries_68 (fun F_17 hF_18 H locs hZ => ?_)
      have h_19 := zeq hF_18
      have h_20 := zne hF_18 (by decide) (zne hF_15 (by decide) (zne hF_12 (by decide) (zne hF_9 (by decide) (zne hF_2 (by decide) h57))))
      have h_21 := zne hF_18 (by decide) (zne hF_15 (by decide) (zne hF_12 (by decide) (zne hF_9 (by decide) (zne hF_2 (by decide) h58))))
      have h_22 := zne hF_18 (by decide) (zne hF_15 (by decide) (zne hF_12 (by decide) (zne hF_9 (by decide) (zne hF_2 (by decide) h59))))
      have h_23 := zne hF_18 (by decide) (zne hF_15 (by decide) (zne hF_12 (by decide) (zne hF_9 (by decide) (zne hF_2 (by decide) h60))))
      have h_24 := zne hF_18 (by decide) (zne hF_15 (by decide) (zne hF_12 (by decide) (zne hF_9 (by decide) (zne hF_2 (by decide) h61))))
      have h_25 := zne hF_18 (by decide) (zne hF_15 (by decide) (zne hF_12 (by decide) (zne hF_9 (by decide) (zne hF_2 (by decide) h62))))
      have h_26 := zne hF_18 (by decide) (zne hF_15 (by decide) (zne hF_12 (by decide) (zne hF_9 (by decide) (zne hF_2 (by decide) h63))))
      have h_27 := zne hF_18 (by decide) (zne hF_15 (by decide) (zne hF_12 (by decide) (zne hF_9 (by decide) (zne hF_2 (by decide) h64))))
      have h_28 := zne hF_18 (by decide) (zne hF_15 (by decide) (zne hF_12 (by decide) (zne hF_9 (by decide) (zne hF_2 (by decide) h65))))
      have h_29 := zne hF_18 (by decide) (zne hF_15 (by decide) (zne hF_12 (by decide) (zne hF_9 (by decide) (zne hF_2 (by decide) h66))))
      have h_30 := zne hF_18 (by decide) (zne hF_15 (by decide) (zne hF_12 (by decide) (zne hF_9 (by decide) (zne hF_2 (by decide) h67))))
      refine lv_aload_n hx hb dX7_tries_71 rfl (lv_at hl 1 rfl) ?_
      refine lv_iconst (v := 0) hx hb dX7_tries_72 (by decide) ?_
      refine zput (E := oModel ad sc.1 sc.2.1 sc.2.2.2.1 sc.2.2.2.2 0 (100 * d) (mn (iN d)) (0, 0) 0 kk dw ho sv pic ia tk) hC hZ pX7_97 (zlt hn rfl) h_19 rfl rfl rfl (Nat.le_of_ble_eq_true rfl) dX7_tries_73 (fun F_31 hF_32 H locs hZ => ?_)
      have h_33 := zeq hF_32
      have hso0 : (sh (iN d)).2.2.1 = 0 := hro.1.symm.trans c_27
      have hgz := hG.2.2 _ hd.2
      have hzn := iN_b (N := 100) hgz.2.1 hgz.2.2.1
      have hT1 := TQ_T hT hz_7 hso0
      obtain ⟨zn, hzn0⟩ : ∃ z, z = iN (sh (iN d)).2.2.2.1 := ⟨_, rfl⟩
      rw [← hzn0] at hzn hT1
      obtain ⟨x0, hx00⟩ : ∃ x, x = 100 * iN d := ⟨_, rfl⟩
      have hx0 : x0 + 100 ≤ 800 := by have := hd.2; omega
      have hbs : 100 * d = nI x0 := by rw [hx00]; exact (congrArg (fun v : Int32 => 100 * v) hd.1).trans (nI_100 _)
      have hen : mn (iN d) = nI zn := hro.2.1.trans hzn.1
      have hrw : ∀ i, i < 100 → rw0 (x0 + i) = ((sh (iN d)).2.2.2.2 i).toInt64 := by rw [hx00]; exact hro.2.2
      have hby0 := hgz.2.2.2.2.2 hso0
      have hby : ∀ i, i < 100 → -128 ≤ (rw0 (x0 + i)).toInt32.toInt ∧ (rw0 (x0 + i)).toInt32.toInt ≤ 127 := fun i hi => by rw [hrw i hi, l64to]; exact hby0 i hi
      have hP := mch_PR (rw0 := rw0) (x0 := x0) hzn.2
      have hE := mch_E (x0 := x0) hzn.2 hrw hby0
      have hT2 := TPost_E hE hT1
      have hgs := hG.1.1
      have htc := tc_n hG.1
      refine zlp (X := Nat × (Int32 × Int32) × (Nat → Int32) × (Nat → Int32)) 76 (fun _ => []) (fun x ls F1 => lv_has ls 5 [(2, .int 0), (0, .ref (ad 56)), (1, .int d)] ∧ F1 56 = oModel ad sc.1 sc.2.1 sc.2.2.2.1 sc.2.2.2.2 0 (100 * d) (mn (iN d)) x.2.1 (nI x.1) kk dw ho sv pic ia tk ∧ F1 58 = oInts cy 50 x.2.2.1 ∧ F1 59 = oInts cy 200 x.2.2.2 ∧ frP [56, 58, 59] F F1 ∧ LI (mch rw0 x0 zn) sc.1 (nI zn) x.1 x.2.1 x.2.2.1 x.2.2.2) (fun x => 40 - x.1) ?_ (0, (0, 0), pl, nu) hZ ⟨hl, h_33, (zne hF_32 (by decide) h_21), (zne hF_32 (by decide) h_22), (frP_up (frP_up (frP_up (frP_up (frP_up (frP_up frP_rf hF_2 (by decide)) hF_9 (by decide)) hF_12 (by decide)) hF_15 (by decide)) hF_18 (by decide)) hF_32 (by decide)), LI_0⟩
      intro x ih ls F3 H locs hZ hφ
      obtain ⟨j, u1, pl1, nu1⟩ := x
      obtain ⟨hl, h56, h58, h59, hfr, hLI⟩ := hφ
      have hl : lv_has ls 5 [(2, .int 0), (0, .ref (ad 56)), (1, .int d)] := hl
      have h56 : F3 56 = oModel ad sc.1 sc.2.1 sc.2.2.2.1 sc.2.2.2.2 0 (100 * d) (mn (iN d)) u1 (nI j) kk dw ho sv pic ia tk := h56
      have h58 : F3 58 = oInts cy 50 pl1 := h58
      have h59 : F3 59 = oInts cy 200 nu1 := h59
      have hLI : LI (mch rw0 x0 zn) sc.1 (nI zn) j u1 pl1 nu1 := hLI
      have hj34 : j ≤ 34 := hLI.2.2.2.2
      refine lv_aload_n hx hb dX7_tries_76 rfl (lv_at hl 1 rfl) ?_
      refine zget hC hZ fX7_82 (zlt hn rfl) h56 rfl dX7_tries_77 ?_
      refine lv_if_ne (tgt := 108) hx hb dX7_tries_80 (by decide) (fun c_80 => ?_) (fun c_80 => ?_)
      · refine lv_aload_n hx hb dX7_tries_108 rfl (lv_at hl 1 rfl) ?_
        refine zget hC hZ fX7_82 (zlt hn rfl) h56 rfl dX7_tries_109 ?_
        refine lv_if_eq (tgt := 124) hx hb dX7_tries_112 (by decide) (fun h => absurd h c_80) (fun _ => ?_)
        refine lv_sipush (v := (-1000)) hx hb dX7_tries_115 (by decide) ?_
        refine lv_aload_n hx hb dX7_tries_118 rfl (lv_at hl 1 rfl) ?_
        refine zget hC hZ fX7_73 (zlt hn rfl) h56 rfl dX7_tries_119 ?_
        refine lv_isub hx hb dX7_tries_122 ?_
        have hbd := LI_bad hLI c_80
        have hend := TP_bad hT2 hbd.1 hbd.2
        have hq : (((-1000) - u1.1) : Int32) = r0 := by rw [hLI.1]; exact hend.1
        have hfm_34 : frM F F3 := (frM_P frM_rf hfr (by decide))
        exact zireti hC hZ hr hlocks ⟨hq, (by rw [hend.2.1]; exact ⟨⟨(100 * d), (mn (iN d)), u1, (nI j), kk, dw, ho, sv, ia, tk, told, pl1, nu1, im, hw, kd, fg, so, mn, rw0, bt, h56, ((hfr 57 (by decide)).trans h57), h58, h59, ((hfr 60 (by decide)).trans h60), ((hfr 61 (by decide)).trans h61), ((hfr 62 (by decide)).trans h62), ((hfr 63 (by decide)).trans h63), ((hfr 64 (by decide)).trans h64), ((hfr 65 (by decide)).trans h65), ((hfr 66 (by decide)).trans h66), ((hfr 67 (by decide)).trans h67), (rX_tr hR (told_old hR.1 hend.2.2))⟩, hfm_34⟩)⟩ dX7_tries_123
      · refine lv_aload_n hx hb dX7_tries_83 rfl (lv_at hl 1 rfl) ?_
        refine zget hC hZ fX7_97 (zlt hn rfl) h56 rfl dX7_tries_84 ?_
        refine lv_if_eq (tgt := 101) hx hb dX7_tries_87 (by decide) (fun c_87 => ?_) (fun c_87 => ?_)
        · refine lv_aload_n hx hb dX7_tries_101 rfl (lv_at hl 1 rfl) ?_
          have hc9 : nI j = 0 ∨ ¬ nI zn ≤ u1.1 := Or.inl c_87
          have h33 := LI_33 hP rfl hzn.2 hLI c_80 hc9
          refine zgov hZ hA (zrunV (As := []) (rest := []) (k := 56) hC hZ (c_X7_readStatement l D cy n ad F3 H.size sc.1 sc.2.1 sc.2.2.2.1 sc.2.2.2.2 0 (100 * d) (mn (iN d)) u1 (nI j) kk dw ho sv pic ia tk hn h56 pl1 h58 nu1 h59 rw0 ((hfr 66 (by decide)).trans h66) x0 zn hx0 hzn.2 hbs hen (LI_G hP hLI) hby j (by omega) rfl) mX7_readStatement vX7_readStatement kX7_115 (zRj_of rfl) (zlt hn rfl) h56 rfl rfl hl.1 rfl (Nat.le_of_ble_eq_true rfl) dX7_tries_102 ⟨Nat.le_refl _, Nat.le_refl _⟩) (fun F_35 hp_37 H locs hZ => ?_)
          obtain ⟨y, hy⟩ : ∃ y, y = sStm (mch rw0 x0 zn) sc.1 u1 := ⟨_, rfl⟩
          rw [← hy] at hp_37
          obtain ⟨g56, g58, g59, gfr⟩ := hp_37
          refine lv_goto (tgt := 76) hx hb dX7_tries_105 (by decide) ?_
          exact ih (j + 1, y.2, (upd pl1 j u1.1), (upd (upd (upd (upd nu1 (4 * j) y.1.1) (4 * j + 1) y.1.2.1) (4 * j + 2) y.1.2.2.1) (4 * j + 3) y.1.2.2.2)) ls _ H locs (by show 40 - (j + 1) < 40 - j; omega) hZ ⟨hl, g56, g58, g59, (frP_tr hfr gfr), LI_s hP rfl hzn.2 hLI c_80 hc9 hy⟩
        · refine lv_aload_n hx hb dX7_tries_90 rfl (lv_at hl 1 rfl) ?_
          refine zget hC hZ fX7_73 (zlt hn rfl) h56 rfl dX7_tries_91 ?_
          refine lv_aload_n hx hb dX7_tries_94 rfl (lv_at hl 1 rfl) ?_
          refine zget hC hZ fX7_76 (zlt hn rfl) h56 rfl dX7_tries_95 ?_
          refine lv_icmp_ge (tgt := 108) hx hb dX7_tries_98 (by decide) (fun c_98 => ?_) (fun c_98 => ?_)
          · refine lv_aload_n hx hb dX7_tries_108 rfl (lv_at hl 1 rfl) ?_
            refine zget hC hZ fX7_82 (zlt hn rfl) h56 rfl dX7_tries_109 ?_
            refine lv_if_eq (tgt := 124) hx hb dX7_tries_112 (by decide) (fun _ => ?_) (fun h => absurd c_80 h)
            refine lv_iconst (v := 0) hx hb dX7_tries_124 (by decide) ?_
            refine lv_istore_n (lv' := [(3, .int 0), (2, .int 0), (0, .ref (ad 56)), (1, .int d)]) hx hb dX7_tries_125 rfl hl (by decide) rfl (fun ls hl => ?_)
            have hS := LI_end hLI c_80 c_87 (by rw [← hen]; exact c_98)
            refine zlp (X := Nat) 126 (fun _ => []) (fun x ls F1 => lv_has ls 5 [(3, .int (nI x)), (2, .int 0), (0, .ref (ad 56)), (1, .int d)] ∧ F1 = va_up F3 56 (oModel ad sc.1 sc.2.1 sc.2.2.2.1 sc.2.2.2.2 0 (100 * d) (mn (iN d)) u1 (nI j) kk dw ho sv pic ia tk) ∧ (x ≤ j) ∧ (∀ k, k < x → bOk (mch rw0 x0 zn) sc.1 sc.2.2.2.1 k)) (fun x => j - x) ?_ 0 hZ ⟨hl, (zself h56), (Nat.zero_le _), (fun k hk => absurd hk (Nat.not_lt_zero _))⟩
            intro i ih126 ls F3_126 H locs hZ hφ
            obtain ⟨hl, hF3_126, hi, hok⟩ := hφ
            have hl : lv_has ls 5 [(3, .int (nI i)), (2, .int 0), (0, .ref (ad 56)), (1, .int d)] := hl
            have hF3_126 : F3_126 = va_up F3 56 (oModel ad sc.1 sc.2.1 sc.2.2.2.1 sc.2.2.2.2 0 (100 * d) (mn (iN d)) u1 (nI j) kk dw ho sv pic ia tk) := hF3_126
            have hi : i ≤ j := hi
            have hok : ∀ k, k < i → bOk (mch rw0 x0 zn) sc.1 sc.2.2.2.1 k := hok
            have h_38 := zeq hF3_126
            refine lv_iload_n hx hb dX7_tries_126 rfl (lv_at hl 0 rfl) ?_
            refine lv_aload_n hx hb dX7_tries_127 rfl (lv_at hl 2 rfl) ?_
            refine zget hC hZ fX7_97 (zlt hn rfl) h_38 rfl dX7_tries_128 ?_
            refine lv_icmp_ge (tgt := 226) hx hb dX7_tries_131 (by decide) (fun c_131 => ?_) (fun c_131 => ?_)
            · have hij : i = j := zge (x := nI j) rfl (by omega) hi c_131
              rw [hij] at hok
              have hroom := ok_room htc ⟨hS.1.1, hj34⟩ hok
              have hend := TP_ok hT2 hS.1 hS.2 hok
              refine lv_iconst (v := 0) hx hb dX7_tries_226 (by decide) ?_
              refine lv_istore_n (lv' := [(3, .int 0), (2, .int 0), (0, .ref (ad 56)), (1, .int d)]) hx hb dX7_tries_227 rfl hl (by decide) rfl (fun ls hl => ?_)
              have h57_39 : F3_126 57 = oInts cy 32 (zdi told nu1 (4 * iN sc.2.2.2.1) 0) := by rw [zdi_0]; exact (zne hF3_126 (by decide) ((hfr 57 (by decide)).trans h57))
              refine zlp (X := Nat) 228 (fun _ => []) (fun x ls F1 => lv_has ls 5 [(3, .int (nI x)), (2, .int 0), (0, .ref (ad 56)), (1, .int d)] ∧ F1 = va_up F3_126 57 (oInts cy 32 (zdi told nu1 (4 * iN sc.2.2.2.1) x)) ∧ (x ≤ 4 * j)) (fun x => 4 * j - x) ?_ 0 hZ ⟨hl, (zself h57_39), (Nat.zero_le _)⟩
              intro k2 ih228 ls F3_228 H locs hZ hφ
              obtain ⟨hl, hF3_228, hk2⟩ := hφ
              have hl : lv_has ls 5 [(3, .int (nI k2)), (2, .int 0), (0, .ref (ad 56)), (1, .int d)] := hl
              have hF3_228 : F3_228 = va_up F3_126 57 (oInts cy 32 (zdi told nu1 (4 * iN sc.2.2.2.1) k2)) := hF3_228
              have hk2 : k2 ≤ 4 * j := hk2
              have h_40 := zeq hF3_228
              refine lv_iload_n hx hb dX7_tries_228 rfl (lv_at hl 0 rfl) ?_
              refine lv_iconst (v := 4) hx hb dX7_tries_229 (by decide) ?_
              refine lv_aload_n hx hb dX7_tries_230 rfl (lv_at hl 2 rfl) ?_
              refine zget hC hZ fX7_97 (zlt hn rfl) (zne hF3_228 (by decide) h_38) rfl dX7_tries_231 ?_
              refine lv_imul hx hb dX7_tries_234 ?_
              refine lv_icmp_ge (tgt := 263) hx hb dX7_tries_235 (by decide) (fun c_235 => ?_) (fun c_235 => ?_)
              · refine lv_aload_n hx hb dX7_tries_263 rfl (lv_at hl 2 rfl) ?_
                refine lv_dup hx hb dX7_tries_264 rfl ?_
                refine zget hC hZ fX7_120 (zlt hn rfl) (zne hF3_228 (by decide) h_38) rfl dX7_tries_265 ?_
                refine lv_aload_n hx hb dX7_tries_268 rfl (lv_at hl 2 rfl) ?_
                refine zget hC hZ fX7_97 (zlt hn rfl) (zne hF3_228 (by decide) h_38) rfl dX7_tries_269 ?_
                refine lv_iadd hx hb dX7_tries_272 ?_
                refine zput (E := oModel ad sc.1 sc.2.1 (sc.2.2.2.1 + (nI j)) sc.2.2.2.2 0 (100 * d) (mn (iN d)) u1 (nI j) kk dw ho sv pic ia tk) hC hZ pX7_120 (zlt hn rfl) (zne hF3_228 (by decide) h_38) rfl rfl rfl (Nat.le_of_ble_eq_true rfl) dX7_tries_273 (fun F_41 hF_42 H locs hZ => ?_)
                have h_43 := zeq hF_42
                have h_44 := zne hF_42 (by decide) (zne hF3_228 (by decide) (zne hF3_126 (by decide) ((hfr 60 (by decide)).trans h60)))
                have h_45 := zne hF_42 (by decide) (zne hF3_228 (by decide) (zne hF3_126 (by decide) ((hfr 61 (by decide)).trans h61)))
                have h_46 := zne hF_42 (by decide) (zne hF3_228 (by decide) (zne hF3_126 (by decide) ((hfr 62 (by decide)).trans h62)))
                have h_47 := zne hF_42 (by decide) (zne hF3_228 (by decide) (zne hF3_126 (by decide) ((hfr 63 (by decide)).trans h63)))
                have h_48 := zne hF_42 (by decide) (zne hF3_228 (by decide) (zne hF3_126 (by decide) ((hfr 64 (by decide)).trans h64)))
                have h_49 := zne hF_42 (by decide) (zne hF3_228 (by decide) (zne hF3_126 (by decide) ((hfr 65 (by decide)).trans h65)))
                have h_50 := zne hF_42 (by decide) (zne hF3_228 (by decide) (zne hF3_126 (by decide) ((hfr 66 (by decide)).trans h66)))
                have h_51 := zne hF_42 (by decide) (zne hF3_228 (by decide) (zne hF3_126 (by decide) ((hfr 67 (by decide)).trans h67)))
                refine lv_aload_n hx hb dX7_tries_276 rfl (lv_at hl 2 rfl) ?_
                refine zget hC hZ fX7_97 (zlt hn rfl) h_43 rfl dX7_tries_277 ?_
                have hq : ((nI j) : Int32) = r0 := by exact hend.1
                have hkq : k2 = 4 * j := zge (nI_4 j) (by omega) hk2 c_235
                have h57_52 := (zne hF_42 (by decide) h_40)
                rw [hkq] at h57_52
                have hfm_53 : frM F F_41 := (frM_up (frM_up (frM_up (frM_P frM_rf hfr (by decide)) hF3_126 (by decide) (by decide)) hF3_228 (by decide) (by decide)) hF_42 (by decide) (by decide))
                exact zireti hC hZ hr hlocks ⟨hq, (by rw [hend.2.1]; exact ⟨⟨(100 * d), (mn (iN d)), u1, (nI j), kk, dw, ho, sv, ia, tk, (zdi told nu1 (4 * iN sc.2.2.2.1) (4 * j)), pl1, nu1, im, hw, kd, fg, so, mn, rw0, bt, h_43, h57_52, (zne hF_42 (by decide) (zne hF3_228 (by decide) (zne hF3_126 (by decide) h58))), (zne hF_42 (by decide) (zne hF3_228 (by decide) (zne hF3_126 (by decide) h59))), h_44, h_45, h_46, h_47, h_48, h_49, h_50, h_51, (rX_tr hR (told_new hR.1 hend.2.2.1 hend.2.2.2 hLI.2.2.1 htc hj34))⟩, hfm_53⟩)⟩ dX7_tries_280
              · have hlt2 := zlt2 (nI_4 j) (by omega) c_235
                refine lv_aload_n hx hb dX7_tries_238 rfl (lv_at hl 2 rfl) ?_
                refine zget hC hZ fX7_22 (zlt hn rfl) (zne hF3_228 (by decide) h_38) rfl dX7_tries_239 ?_
                refine lv_iconst (v := 4) hx hb dX7_tries_242 (by decide) ?_
                refine lv_aload_n hx hb dX7_tries_243 rfl (lv_at hl 2 rfl) ?_
                refine zget hC hZ fX7_120 (zlt hn rfl) (zne hF3_228 (by decide) h_38) rfl dX7_tries_244 ?_
                refine lv_imul hx hb dX7_tries_247 ?_
                refine lv_iload_n hx hb dX7_tries_248 rfl (lv_at hl 0 rfl) ?_
                refine lv_iadd hx hb dX7_tries_249 ?_
                refine lv_aload_n hx hb dX7_tries_250 rfl (lv_at hl 2 rfl) ?_
                refine zget hC hZ fX7_29 (zlt hn rfl) (zne hF3_228 (by decide) h_38) rfl dX7_tries_251 ?_
                refine lv_iload_n hx hb dX7_tries_254 rfl (lv_at hl 0 rfl) ?_
                refine ziald hC hZ (zlt hn rfl) (zne hF3_228 (by decide) (zne hF3_126 (by decide) h59)) rfl (by omega) (by decide) dX7_tries_255 ?_
                refine ziast hC hZ (zlt hn rfl) h_40 (ix4 htc.1 rfl) (by omega) (by decide) dX7_tries_256 (fun F_54 hF_55 H locs hZ => ?_)
                have h_56 := zeq hF_55
                have h_57 := zne hF_55 (by decide) (zne hF3_228 (by decide) (zne hF3_126 (by decide) ((hfr 60 (by decide)).trans h60)))
                have h_58 := zne hF_55 (by decide) (zne hF3_228 (by decide) (zne hF3_126 (by decide) ((hfr 61 (by decide)).trans h61)))
                have h_59 := zne hF_55 (by decide) (zne hF3_228 (by decide) (zne hF3_126 (by decide) ((hfr 62 (by decide)).trans h62)))
                have h_60 := zne hF_55 (by decide) (zne hF3_228 (by decide) (zne hF3_126 (by decide) ((hfr 63 (by decide)).trans h63)))
                have h_61 := zne hF_55 (by decide) (zne hF3_228 (by decide) (zne hF3_126 (by decide) ((hfr 64 (by decide)).trans h64)))
                have h_62 := zne hF_55 (by decide) (zne hF3_228 (by decide) (zne hF3_126 (by decide) ((hfr 65 (by decide)).trans h65)))
                have h_63 := zne hF_55 (by decide) (zne hF3_228 (by decide) (zne hF3_126 (by decide) ((hfr 66 (by decide)).trans h66)))
                have h_64 := zne hF_55 (by decide) (zne hF3_228 (by decide) (zne hF3_126 (by decide) ((hfr 67 (by decide)).trans h67)))
                refine lv_iinc (v := nI (k2 + 1)) (lv' := [(3, .int (nI (k2 + 1))), (2, .int 0), (0, .ref (ad 56)), (1, .int d)]) hx hb dX7_tries_257 hl (k := 0) rfl (nI_1 k2) (by decide) rfl (fun ls hl => ?_)
                refine lv_goto (tgt := 228) hx hb dX7_tries_260 (by decide) ?_
                have he_65 : F_54 = va_up F3_126 57 (oInts cy 32 (upd (zdi told nu1 (4 * iN sc.2.2.2.1) k2) ((4 * iN sc.2.2.2.1) + k2) (nu1 k2))) := by rw [hF_55, hF3_228]; simp only [bx_uu]
                rw [zdi_s] at he_65
                exact ih228 (k2 + 1) ls _ H locs (by show 4 * j - (k2 + 1) < 4 * j - k2; omega) hZ ⟨hl, he_65, hlt2⟩
            · have hlt := zlt2 (x := nI j) rfl (by omega) c_131
              refine lv_iconst (v := 4) hx hb dX7_tries_134 (by decide) ?_
              refine lv_iload_n hx hb dX7_tries_135 rfl (lv_at hl 0 rfl) ?_
              refine lv_imul hx hb dX7_tries_136 ?_
              refine lv_istore (lv' := [(4, .int (4 * nI i)), (3, .int (nI i)), (2, .int 0), (0, .ref (ad 56)), (1, .int d)]) hx hb dX7_tries_137 hl (by decide) rfl (fun ls hl => ?_)
              refine lv_aload_n hx hb dX7_tries_139 rfl (lv_at hl 3 rfl) ?_
              refine zget hC hZ fX7_29 (zlt hn rfl) h_38 rfl dX7_tries_140 ?_
              refine lv_iload hx hb dX7_tries_143 (lv_at hl 0 rfl) ?_
              refine ziald hC hZ (zlt hn rfl) (zne hF3_126 (by decide) h59) (nI_4 i) (by omega) (by decide) dX7_tries_145 ?_
              refine lv_bipush (v := 100) hx hb dX7_tries_146 (by decide) ?_
              refine lv_icmp_gt (tgt := 209) hx hb dX7_tries_148 (by decide) (fun c_148 => ?_) (fun c_148 => ?_)
              · refine lv_sipush (v := (-2000)) hx hb dX7_tries_209 (by decide) ?_
                refine lv_aload_n hx hb dX7_tries_212 rfl (lv_at hl 3 rfl) ?_
                refine zget hC hZ fX7_26 (zlt hn rfl) h_38 rfl dX7_tries_213 ?_
                refine lv_iload_n hx hb dX7_tries_216 rfl (lv_at hl 1 rfl) ?_
                refine ziald hC hZ (zlt hn rfl) (zne hF3_126 (by decide) h58) rfl (by omega) (by decide) dX7_tries_217 ?_
                refine lv_isub hx hb dX7_tries_218 ?_
                have hnk := ok_no (ch := (mch rw0 x0 zn)) (tc := sc.2.2.2.1) (hLI.2.2.1 i hlt) (Or.inl c_148)
                have hend := TP_no hT2 hS.1 hS.2 hlt hok hnk
                have hq : (((-2000) - (pl1 i)) : Int32) = r0 := by rw [hLI.2.1 i hlt]; exact hend.1
                have hfm_66 : frM F F3_126 := (frM_up (frM_P frM_rf hfr (by decide)) hF3_126 (by decide) (by decide))
                exact zireti hC hZ hr hlocks ⟨hq, (by rw [hend.2.1]; exact ⟨⟨(100 * d), (mn (iN d)), u1, (nI j), kk, dw, ho, sv, ia, tk, told, pl1, nu1, im, hw, kd, fg, so, mn, rw0, bt, h_38, (zne hF3_126 (by decide) ((hfr 57 (by decide)).trans h57)), (zne hF3_126 (by decide) h58), (zne hF3_126 (by decide) h59), (zne hF3_126 (by decide) ((hfr 60 (by decide)).trans h60)), (zne hF3_126 (by decide) ((hfr 61 (by decide)).trans h61)), (zne hF3_126 (by decide) ((hfr 62 (by decide)).trans h62)), (zne hF3_126 (by decide) ((hfr 63 (by decide)).trans h63)), (zne hF3_126 (by decide) ((hfr 64 (by decide)).trans h64)), (zne hF3_126 (by decide) ((hfr 65 (by decide)).trans h65)), (zne hF3_126 (by decide) ((hfr 66 (by decide)).trans h66)), (zne hF3_126 (by decide) ((hfr 67 (by decide)).trans h67)), (rX_tr hR (told_old hR.1 hend.2.2))⟩, hfm_66⟩)⟩ dX7_tries_219
              · refine lv_aload_n hx hb dX7_tries_151 rfl (lv_at hl 3 rfl) ?_
                refine zget hC hZ fX7_29 (zlt hn rfl) h_38 rfl dX7_tries_152 ?_
                refine lv_iload hx hb dX7_tries_155 (lv_at hl 0 rfl) ?_
                refine lv_iconst (v := 1) hx hb dX7_tries_157 (by decide) ?_
                refine lv_iadd hx hb dX7_tries_158 ?_
                refine ziald hC hZ (zlt hn rfl) (zne hF3_126 (by decide) h59) (by rw [nI_4]; exact nI_c _ 1 _ rfl) (by omega) (by decide) dX7_tries_159 ?_
                refine lv_bipush (v := 100) hx hb dX7_tries_160 (by decide) ?_
                refine lv_icmp_gt (tgt := 209) hx hb dX7_tries_162 (by decide) (fun c_162 => ?_) (fun c_162 => ?_)
                · refine lv_sipush (v := (-2000)) hx hb dX7_tries_209 (by decide) ?_
                  refine lv_aload_n hx hb dX7_tries_212 rfl (lv_at hl 3 rfl) ?_
                  refine zget hC hZ fX7_26 (zlt hn rfl) h_38 rfl dX7_tries_213 ?_
                  refine lv_iload_n hx hb dX7_tries_216 rfl (lv_at hl 1 rfl) ?_
                  refine ziald hC hZ (zlt hn rfl) (zne hF3_126 (by decide) h58) rfl (by omega) (by decide) dX7_tries_217 ?_
                  refine lv_isub hx hb dX7_tries_218 ?_
                  have hnk := ok_no (ch := (mch rw0 x0 zn)) (tc := sc.2.2.2.1) (hLI.2.2.1 i hlt) (Or.inr (Or.inl c_162))
                  have hend := TP_no hT2 hS.1 hS.2 hlt hok hnk
                  have hq : (((-2000) - (pl1 i)) : Int32) = r0 := by rw [hLI.2.1 i hlt]; exact hend.1
                  have hfm_67 : frM F F3_126 := (frM_up (frM_P frM_rf hfr (by decide)) hF3_126 (by decide) (by decide))
                  exact zireti hC hZ hr hlocks ⟨hq, (by rw [hend.2.1]; exact ⟨⟨(100 * d), (mn (iN d)), u1, (nI j), kk, dw, ho, sv, ia, tk, told, pl1, nu1, im, hw, kd, fg, so, mn, rw0, bt, h_38, (zne hF3_126 (by decide) ((hfr 57 (by decide)).trans h57)), (zne hF3_126 (by decide) h58), (zne hF3_126 (by decide) h59), (zne hF3_126 (by decide) ((hfr 60 (by decide)).trans h60)), (zne hF3_126 (by decide) ((hfr 61 (by decide)).trans h61)), (zne hF3_126 (by decide) ((hfr 62 (by decide)).trans h62)), (zne hF3_126 (by decide) ((hfr 63 (by decide)).trans h63)), (zne hF3_126 (by decide) ((hfr 64 (by decide)).trans h64)), (zne hF3_126 (by decide) ((hfr 65 (by decide)).trans h65)), (zne hF3_126 (by decide) ((hfr 66 (by decide)).trans h66)), (zne hF3_126 (by decide) ((hfr 67 (by decide)).trans h67)), (rX_tr hR (told_old hR.1 hend.2.2))⟩, hfm_67⟩)⟩ dX7_tries_219
                · refine lv_aload_n hx hb dX7_tries_165 rfl (lv_at hl 3 rfl) ?_
                  refine zget hC hZ fX7_29 (zlt hn rfl) h_38 rfl dX7_tries_166 ?_
                  refine lv_iload hx hb dX7_tries_169 (lv_at hl 0 rfl) ?_
                  refine lv_iconst (v := 2) hx hb dX7_tries_171 (by decide) ?_
                  refine lv_iadd hx hb dX7_tries_172 ?_
                  refine ziald hC hZ (zlt hn rfl) (zne hF3_126 (by decide) h59) (by rw [nI_4]; exact nI_c _ 2 _ rfl) (by omega) (by decide) dX7_tries_173 ?_
                  refine lv_iconst (v := 2) hx hb dX7_tries_174 (by decide) ?_
                  refine lv_icmp_gt (tgt := 209) hx hb dX7_tries_175 (by decide) (fun c_175 => ?_) (fun c_175 => ?_)
                  · refine lv_sipush (v := (-2000)) hx hb dX7_tries_209 (by decide) ?_
                    refine lv_aload_n hx hb dX7_tries_212 rfl (lv_at hl 3 rfl) ?_
                    refine zget hC hZ fX7_26 (zlt hn rfl) h_38 rfl dX7_tries_213 ?_
                    refine lv_iload_n hx hb dX7_tries_216 rfl (lv_at hl 1 rfl) ?_
                    refine ziald hC hZ (zlt hn rfl) (zne hF3_126 (by decide) h58) rfl (by omega) (by decide) dX7_tries_217 ?_
                    refine lv_isub hx hb dX7_tries_218 ?_
                    have hnk := ok_no (ch := (mch rw0 x0 zn)) (tc := sc.2.2.2.1) (hLI.2.2.1 i hlt) (Or.inr (Or.inr (Or.inl c_175)))
                    have hend := TP_no hT2 hS.1 hS.2 hlt hok hnk
                    have hq : (((-2000) - (pl1 i)) : Int32) = r0 := by rw [hLI.2.1 i hlt]; exact hend.1
                    have hfm_68 : frM F F3_126 := (frM_up (frM_P frM_rf hfr (by decide)) hF3_126 (by decide) (by decide))
                    exact zireti hC hZ hr hlocks ⟨hq, (by rw [hend.2.1]; exact ⟨⟨(100 * d), (mn (iN d)), u1, (nI j), kk, dw, ho, sv, ia, tk, told, pl1, nu1, im, hw, kd, fg, so, mn, rw0, bt, h_38, (zne hF3_126 (by decide) ((hfr 57 (by decide)).trans h57)), (zne hF3_126 (by decide) h58), (zne hF3_126 (by decide) h59), (zne hF3_126 (by decide) ((hfr 60 (by decide)).trans h60)), (zne hF3_126 (by decide) ((hfr 61 (by decide)).trans h61)), (zne hF3_126 (by decide) ((hfr 62 (by decide)).trans h62)), (zne hF3_126 (by decide) ((hfr 63 (by decide)).trans h63)), (zne hF3_126 (by decide) ((hfr 64 (by decide)).trans h64)), (zne hF3_126 (by decide) ((hfr 65 (by decide)).trans h65)), (zne hF3_126 (by decide) ((hfr 66 (by decide)).trans h66)), (zne hF3_126 (by decide) ((hfr 67 (by decide)).trans h67)), (rX_tr hR (told_old hR.1 hend.2.2))⟩, hfm_68⟩)⟩ dX7_tries_219
                  · refine lv_aload_n hx hb dX7_tries_178 rfl (lv_at hl 3 rfl) ?_
                    refine zget hC hZ fX7_29 (zlt hn rfl) h_38 rfl dX7_tries_179 ?_
                    refine lv_iload hx hb dX7_tries_182 (lv_at hl 0 rfl) ?_
                    refine lv_iconst (v := 3) hx hb dX7_tries_184 (by decide) ?_
                    refine lv_iadd hx hb dX7_tries_185 ?_
                    refine ziald hC hZ (zlt hn rfl) (zne hF3_126 (by decide) h59) (by rw [nI_4]; exact nI_c _ 3 _ rfl) (by omega) (by decide) dX7_tries_186 ?_
                    refine lv_i2l (v := (nu1 (4 * i + 3)).toInt64) hx hb dX7_tries_187 (by rfl) ?_
                    refine lv_lconst (v := 1) hx hb dX7_tries_188 (by decide) ?_
                    refine lv_ldc2 (v := 400) hx hb hC.1.2.2.2.1 (hC.1.2.2.2.2 _ qX7_118) dX7_tries_189 ?_
                    refine zgoi hZ hA (zrunS (As := [.long ((nu1 (4 * i + 3)).toInt64), .long 1, .long 400]) (rest := []) hC hZ (c_X7_in l D cy n ad F3_126 H.size (nu1 (4 * i + 3)) 1 400 1 400 (by decide) (by decide)) mX7_in sX7_in kX7_63 (zRj_of rfl) rfl hl.1 rfl (Nat.le_of_ble_eq_true rfl) dX7_tries_192 ⟨Nat.le_refl _, Nat.le_refl _⟩) (fun r_70 F_69 hp_71 H locs hZ => ?_)
                    obtain ⟨hp_71, rfl⟩ := hp_71
                    by_cases b_72 : bIn (nu1 (4 * i + 3)) 1 400
                    · rw [if_pos b_72] at hp_71
                      subst hp_71
                      refine lv_if_eq (tgt := 209) hx hb dX7_tries_195 (by decide) (fun h => absurd (show (1 : Int32) = 0 from h) (by decide)) (fun _ => ?_)
                      refine lv_aload_n hx hb dX7_tries_198 rfl (lv_at hl 3 rfl) ?_
                      refine zget hC hZ fX7_120 (zlt hn rfl) h_38 rfl dX7_tries_199 ?_
                      refine lv_iload_n hx hb dX7_tries_202 rfl (lv_at hl 1 rfl) ?_
                      refine lv_iadd hx hb dX7_tries_203 ?_
                      refine lv_bipush (v := 8) hx hb dX7_tries_204 (by decide) ?_
                      refine lv_icmp_lt (tgt := 220) hx hb dX7_tries_206 (by decide) (fun c_206 => ?_) (fun c_206 => ?_)
                      · refine lv_iinc (v := nI (i + 1)) (lv' := [(3, .int (nI (i + 1))), (4, .int (4 * nI i)), (2, .int 0), (0, .ref (ad 56)), (1, .int d)]) hx hb dX7_tries_220 hl (k := 1) rfl (nI_1 i) (by decide) rfl (fun ls hl => ?_)
                        refine lv_goto (tgt := 126) hx hb dX7_tries_223 (by decide) ?_
                        have hok1 := ok_of (ch := (mch rw0 x0 zn)) hgs (hLI.2.2.1 i hlt) htc (by omega) c_148 c_162 c_175 b_72 c_206
                        have he_73 : F3_126 = va_up F3 56 (oModel ad sc.1 sc.2.1 sc.2.2.2.1 sc.2.2.2.2 0 (100 * d) (mn (iN d)) u1 (nI j) kk dw ho sv pic ia tk) := by rw [hF3_126]
                        exact ih126 (i + 1) ls _ H locs (by show j - (i + 1) < j - i; omega) hZ ⟨(lv_sub hl [0, 2, 3, 4] rfl), he_73, hlt, (all_s hok hok1)⟩
                      · refine lv_sipush (v := (-2000)) hx hb dX7_tries_209 (by decide) ?_
                        refine lv_aload_n hx hb dX7_tries_212 rfl (lv_at hl 3 rfl) ?_
                        refine zget hC hZ fX7_26 (zlt hn rfl) h_38 rfl dX7_tries_213 ?_
                        refine lv_iload_n hx hb dX7_tries_216 rfl (lv_at hl 1 rfl) ?_
                        refine ziald hC hZ (zlt hn rfl) (zne hF3_126 (by decide) h58) rfl (by omega) (by decide) dX7_tries_217 ?_
                        refine lv_isub hx hb dX7_tries_218 ?_
                        have hnk := ok_no (ch := (mch rw0 x0 zn)) (tc := sc.2.2.2.1) (hLI.2.2.1 i hlt) (Or.inr (Or.inr (Or.inr (Or.inr (Int32.not_lt.mp c_206)))))
                        have hend := TP_no hT2 hS.1 hS.2 hlt hok hnk
                        have hq : (((-2000) - (pl1 i)) : Int32) = r0 := by rw [hLI.2.1 i hlt]; exact hend.1
                        have hfm_74 : frM F F3_126 := (frM_up (frM_P frM_rf hfr (by decide)) hF3_126 (by decide) (by decide))
                        exact zireti hC hZ hr hlocks ⟨hq, (by rw [hend.2.1]; exact ⟨⟨(100 * d), (mn (iN d)), u1, (nI j), kk, dw, ho, sv, ia, tk, told, pl1, nu1, im, hw, kd, fg, so, mn, rw0, bt, h_38, (zne hF3_126 (by decide) ((hfr 57 (by decide)).trans h57)), (zne hF3_126 (by decide) h58), (zne hF3_126 (by decide) h59), (zne hF3_126 (by decide) ((hfr 60 (by decide)).trans h60)), (zne hF3_126 (by decide) ((hfr 61 (by decide)).trans h61)), (zne hF3_126 (by decide) ((hfr 62 (by decide)).trans h62)), (zne hF3_126 (by decide) ((hfr 63 (by decide)).trans h63)), (zne hF3_126 (by decide) ((hfr 64 (by decide)).trans h64)), (zne hF3_126 (by decide) ((hfr 65 (by decide)).trans h65)), (zne hF3_126 (by decide) ((hfr 66 (by decide)).trans h66)), (zne hF3_126 (by decide) ((hfr 67 (by decide)).trans h67)), (rX_tr hR (told_old hR.1 hend.2.2))⟩, hfm_74⟩)⟩ dX7_tries_219
                    · rw [if_neg b_72] at hp_71
                      subst hp_71
                      refine lv_if_eq (tgt := 209) hx hb dX7_tries_195 (by decide) (fun _ => ?_) (fun h => absurd (show (0 : Int32) = 0 by decide) h)
                      refine lv_sipush (v := (-2000)) hx hb dX7_tries_209 (by decide) ?_
                      refine lv_aload_n hx hb dX7_tries_212 rfl (lv_at hl 3 rfl) ?_
                      refine zget hC hZ fX7_26 (zlt hn rfl) h_38 rfl dX7_tries_213 ?_
                      refine lv_iload_n hx hb dX7_tries_216 rfl (lv_at hl 1 rfl) ?_
                      refine ziald hC hZ (zlt hn rfl) (zne hF3_126 (by decide) h58) rfl (by omega) (by decide) dX7_tries_217 ?_
                      refine lv_isub hx hb dX7_tries_218 ?_
                      have hnk := ok_no (ch := (mch rw0 x0 zn)) (tc := sc.2.2.2.1) (hLI.2.2.1 i hlt) (Or.inr (Or.inr (Or.inr (Or.inl b_72))))
                      have hend := TP_no hT2 hS.1 hS.2 hlt hok hnk
                      have hq : (((-2000) - (pl1 i)) : Int32) = r0 := by rw [hLI.2.1 i hlt]; exact hend.1
                      have hfm_75 : frM F F3_126 := (frM_up (frM_P frM_rf hfr (by decide)) hF3_126 (by decide) (by decide))
                      exact zireti hC hZ hr hlocks ⟨hq, (by rw [hend.2.1]; exact ⟨⟨(100 * d), (mn (iN d)), u1, (nI j), kk, dw, ho, sv, ia, tk, told, pl1, nu1, im, hw, kd, fg, so, mn, rw0, bt, h_38, (zne hF3_126 (by decide) ((hfr 57 (by decide)).trans h57)), (zne hF3_126 (by decide) h58), (zne hF3_126 (by decide) h59), (zne hF3_126 (by decide) ((hfr 60 (by decide)).trans h60)), (zne hF3_126 (by decide) ((hfr 61 (by decide)).trans h61)), (zne hF3_126 (by decide) ((hfr 62 (by decide)).trans h62)), (zne hF3_126 (by decide) ((hfr 63 (by decide)).trans h63)), (zne hF3_126 (by decide) ((hfr 64 (by decide)).trans h64)), (zne hF3_126 (by decide) ((hfr 65 (by decide)).trans h65)), (zne hF3_126 (by decide) ((hfr 66 (by decide)).trans h66)), (zne hF3_126 (by decide) ((hfr 67 (by decide)).trans h67)), (rX_tr hR (told_old hR.1 hend.2.2))⟩, hfm_75⟩)⟩ dX7_tries_219
          · refine lv_aload_n hx hb dX7_tries_101 rfl (lv_at hl 1 rfl) ?_
            have hc9 : nI j = 0 ∨ ¬ nI zn ≤ u1.1 := Or.inr (by rw [← hen]; exact c_98)
            have h33 := LI_33 hP rfl hzn.2 hLI c_80 hc9
            refine zgov hZ hA (zrunV (As := []) (rest := []) (k := 56) hC hZ (c_X7_readStatement l D cy n ad F3 H.size sc.1 sc.2.1 sc.2.2.2.1 sc.2.2.2.2 0 (100 * d) (mn (iN d)) u1 (nI j) kk dw ho sv pic ia tk hn h56 pl1 h58 nu1 h59 rw0 ((hfr 66 (by decide)).trans h66) x0 zn hx0 hzn.2 hbs hen (LI_G hP hLI) hby j (by omega) rfl) mX7_readStatement vX7_readStatement kX7_115 (zRj_of rfl) (zlt hn rfl) h56 rfl rfl hl.1 rfl (Nat.le_of_ble_eq_true rfl) dX7_tries_102 ⟨Nat.le_refl _, Nat.le_refl _⟩) (fun F_76 hp_78 H locs hZ => ?_)
            obtain ⟨y, hy⟩ : ∃ y, y = sStm (mch rw0 x0 zn) sc.1 u1 := ⟨_, rfl⟩
            rw [← hy] at hp_78
            obtain ⟨g56, g58, g59, gfr⟩ := hp_78
            refine lv_goto (tgt := 76) hx hb dX7_tries_105 (by decide) ?_
            exact ih (j + 1, y.2, (upd pl1 j u1.1), (upd (upd (upd (upd nu1 (4 * j) y.1.1) (4 * j + 1) y.1.2.1) (4 * j + 2) y.1.2.2.1) (4 * j + 3) y.1.2.2.2)) ls _ H locs (by show 40 - (j + 1) < 40 - j; omega) hZ ⟨hl, g56, g58, g59, (frP_tr hfr gfr), LI_s hP rfl hzn.2 hLI c_80 hc9 hy⟩
    · refine lv_bipush (v := (-12)) hx hb dX7_tries_30 (by decide) ?_
      refine lv_goto (tgt := 36) hx hb dX7_tries_32 (by decide) ?_
      refine lv_istore_n (lv' := [(2, .int (-12)), (0, .ref (ad 56)), (1, .int d)]) hx hb dX7_tries_36 rfl hl (by decide) rfl (fun ls hl => ?_)
      refine lv_iload_n hx hb dX7_tries_37 rfl (lv_at hl 0 rfl) ?_
      refine lv_if_ge (tgt := 43) hx hb dX7_tries_38 (by decide) (fun h => absurd (show (0 : Int32) ≤ (-12) from h) (by decide)) (fun _ => ?_)
      refine lv_iload_n hx hb dX7_tries_41 rfl (lv_at hl 0 rfl) ?_
      have hend := TQ_12 hT hz_7 (fun h => c_27 (hro.1.trans h))
      have hq : ((-12) : Int32) = r0 := by exact hend.1
      have hfm_79 : frM F F_1 := (frM_up frM_rf hF_2 (by decide) (by decide))
      exact zireti hC hZ hr hlocks ⟨hq, (by rw [hend.2.1, hend.2.2]; exact ⟨⟨bs, en, u, st, kk, dw, ho, sv, ia, tk, told, pl, nu, im, hw, kd, fg, so, mn, rw0, bt, h_3, (zne hF_2 (by decide) h57), (zne hF_2 (by decide) h58), (zne hF_2 (by decide) h59), (zne hF_2 (by decide) h60), (zne hF_2 (by decide) h61), (zne hF_2 (by decide) h62), (zne hF_2 (by decide) h63), (zne hF_2 (by decide) h64), (zne hF_2 (by decide) h65), (zne hF_2 (by decide) h66), (zne hF_2 (by decide) h67), hR⟩, hfm_79⟩)⟩ dX7_tries_42
  · refine lv_aload_n hx hb dX7_tries_13 rfl (lv_at hl 0 rfl) ?_
    refine lv_iload_n hx hb dX7_tries_14 rfl (lv_at hl 1 rfl) ?_
    refine zgoi hZ hA (zrunV (As := [.int d]) (rest := []) (k := 56) hC hZ (c_X7_wrongRow l D cy n ad F_1 H.size sc.1 sc.2.1 sc.2.2.2.1 sc.2.2.2.2 0 bs en u st kk dw ho sv pic ia tk hn h_3 hw (zne hF_2 (by decide) h61) d) mX7_wrongRow vX7_wrongRow kX7_111 (zRj_of rfl) (zlt hn rfl) h_3 rfl rfl hl.1 rfl (Nat.le_of_ble_eq_true rfl) dX7_tries_15 ⟨Nat.le_refl _, Nat.le_refl _⟩) (fun r_81 F_80 hp_82 H locs hZ => ?_)
    rw [mRowR_eq hHW] at hp_82
    obtain ⟨rfl, rfl⟩ := hp_82
    refine lv_goto (tgt := 36) hx hb dX7_tries_18 (by decide) ?_
    refine lv_istore_n (lv' := [(2, .int (sRowR sh d)), (0, .ref (ad 56)), (1, .int d)]) hx hb dX7_tries_36 rfl hl (by decide) rfl (fun ls hl => ?_)
    refine lv_iload_n hx hb dX7_tries_37 rfl (lv_at hl 0 rfl) ?_
    refine lv_if_ge (tgt := 43) hx hb dX7_tries_38 (by decide) (fun h => absurd h c_10) (fun _ => ?_)
    refine lv_iload_n hx hb dX7_tries_41 rfl (lv_at hl 0 rfl) ?_
    have hz_83 : (sRowR sh d) < 0 := Int32.not_le.mp c_10
    have hend := TQ_rf hT (neg_n0 hz_83)
    have hq : ((sRowR sh d) : Int32) = r0 := by exact hend.1
    have hfm_84 : frM F F_1 := (frM_up frM_rf hF_2 (by decide) (by decide))
    exact zireti hC hZ hr hlocks ⟨hq, (by rw [hend.2.1, hend.2.2]; exact ⟨⟨bs, en, u, st, kk, dw, ho, sv, ia, tk, told, pl, nu, im, hw, kd, fg, so, mn, rw0, bt, h_3, (zne hF_2 (by decide) h57), (zne hF_2 (by decide) h58), (zne hF_2 (by decide) h59), (zne hF_2 (by decide) h60), (zne hF_2 (by decide) h61), (zne hF_2 (by decide) h62), (zne hF_2 (by decide) h63), (zne hF_2 (by decide) h64), (zne hF_2 (by decide) h65), (zne hF_2 (by decide) h66), (zne hF_2 (by decide) h67), hR⟩, hfm_84⟩)⟩ dX7_tries_42
