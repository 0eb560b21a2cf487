theorem dL_law_184 : decode cL_law 184 = .ok (.aload_n 1, 1) := by decide +kernel
theorem dL_law_185 : decode cL_law 185 = .ok (.aload_n 0, 1) := by decide +kernel
theorem dL_law_186 : decode cL_law 186 = .ok (.iload 4, 2) := by decide +kernel
theorem dL_law_188 : decode cL_law 188 = .ok (.iconst 1, 1) := by decide +kernel
theorem dL_law_189 : decode cL_law 189 = .ok (.iadd, 1) := by decide +kernel
theorem dL_law_190 : decode cL_law 190 = .ok (.iaload, 1) := by decide +kernel
theorem dL_law_191 : decode cL_law 191 = .ok (.aload_n 0, 1) := by decide +kernel
theorem dL_law_192 : decode cL_law 192 = .ok (.iload 4, 2) := by decide +kernel
theorem dL_law_194 : decode cL_law 194 = .ok (.iconst 2, 1) := by decide +kernel
theorem dL_law_195 : decode cL_law 195 = .ok (.iadd, 1) := by decide +kernel
theorem dL_law_196 : decode cL_law 196 = .ok (.iaload, 1) := by decide +kernel
theorem vX6_set : zMi yX6_set := ⟨gt_of 257 (by decide +kernel) rfl, gt_of 258 (by decide +kernel) rfl⟩
theorem kL_21 : zLk RL 21 yX6_set := Or.inl (gt_of 256 (by decide +kernel) rfl)
theorem dL_law_197 : decode cL_law 197 = .ok (.invokevirtual 21, 3) := by decide +kernel
theorem dL_law_200 : decode cL_law 200 = .ok (.aload_n 2, 1) := by decide +kernel
theorem dL_law_201 : decode cL_law 201 = .ok (.aload_n 0, 1) := by decide +kernel
theorem dL_law_202 : decode cL_law 202 = .ok (.iload 4, 2) := by decide +kernel
theorem dL_law_204 : decode cL_law 204 = .ok (.iconst 1, 1) := by decide +kernel
theorem dL_law_205 : decode cL_law 205 = .ok (.iadd, 1) := by decide +kernel
theorem dL_law_206 : decode cL_law 206 = .ok (.iaload, 1) := by decide +kernel
theorem dL_law_207 : decode cL_law 207 = .ok (.aload_n 0, 1) := by decide +kernel
theorem dL_law_208 : decode cL_law 208 = .ok (.iload 4, 2) := by decide +kernel
theorem dL_law_210 : decode cL_law 210 = .ok (.iconst 2, 1) := by decide +kernel
theorem dL_law_211 : decode cL_law 211 = .ok (.iadd, 1) := by decide +kernel
theorem dL_law_212 : decode cL_law 212 = .ok (.iaload, 1) := by decide +kernel
theorem vX7_set : zMi yX7_set := ⟨gt_of 882 (by decide +kernel) rfl, gt_of 883 (by decide +kernel) rfl⟩
theorem kL_25 : zLk RL 25 yX7_set := Or.inl (gt_of 881 (by decide +kernel) rfl)
theorem dL_law_213 : decode cL_law 213 = .ok (.invokevirtual 25, 3) := by decide +kernel
theorem dL_law_216 : decode cL_law 216 = .ok (.if_icmp .eq 1122, 3) := by decide +kernel
set_option maxRecDepth 100000 in
set_option maxHeartbeats 4000000 in
theorem lk_0 {p : Program} {l : Launch} {e : Env} {s : State} {m : MethodId} {below : List Frame} {meth : Method} {c : Code} {Q : State → Prop} {b L : Nat} {xs : Nat → Int32} {D : va_G} {cy sa ad : Nat → Nat} (hw : zLaw p l s m meth c b L xs D cy sa) {t cells slots : Nat} (ht : 6 * t + 6 ≤ L) (hc : cells + 1 ≤ 600128 ∧ slots + 6 ≤ 7301098) {ls : Array Slot} {F : Nat → va_E} {H : Heap} {locs : List Loc} (hZ : zH D (AL s) s.heap 69 ad F H locs) (hJ : zJ ad cy F) (hl : lv_has ls 8 [(4, .int (nI (6 * t))), (3, .ref (ad 68)), (2, .ref (ad 56)), (1, .ref (ad 0)), (0, .ref b)])
    (kk : ∀ (F1 : Nat → va_E) (H1 : Heap) (locs1 : List Loc) (ls1 : Array Slot), zH D (AL s) s.heap 69 ad F1 H1 locs1 → zJ ad cy F1 → lv_has ls1 8 [(4, .int (nI (6 * t))), (3, .ref (ad 68)), (2, .ref (ad 56)), (1, .ref (ad 0)), (0, .ref b)] → W p l e room_1 s m #[Value.ref b] below meth c H1 locs1 (cells + 1) (slots + 6) Q (F0 m 1338 ls1 [])) :
    W p l e room_1 s m #[Value.ref b] below meth c H locs cells slots Q (F0 m 184 ls []) := by
  obtain ⟨hC, hX, hb9, hr, hlocks, hXs, hl9, hL⟩ := id hw
  obtain ⟨pic, sc, ps, sh, rd, dr, fa, mi, th, f, hRX, hRM, hG, h68⟩ := hJ
  have hx := hC.1.1
  have hb := hC.1.2.1
  have hA : ∀ q, s.heap.size ≤ q → AL s q := fun _ h => h
  have hcs : cells ≤ room_1.cells ∧ slots ≤ room_1.slots := ⟨by show cells ≤ 600128; omega, by show slots ≤ 7301098; omega⟩
  obtain ⟨p1, hp1⟩ : ∃ y, xs (6 * t + 1) = y := ⟨_, rfl⟩
  obtain ⟨p2, hp2⟩ : ∃ y, xs (6 * t + 2) = y := ⟨_, rfl⟩
  obtain ⟨p3, hp3⟩ : ∃ y, xs (6 * t + 3) = y := ⟨_, rfl⟩
  obtain ⟨p4, hp4⟩ : ∃ y, xs (6 * t + 4) = y := ⟨_, rfl⟩
  obtain ⟨p5, hp5⟩ : ∃ y, xs (6 * t + 5) = y := ⟨_, rfl⟩
  refine lv_aload_n hx hb dL_law_184 rfl (lv_at hl 3 rfl) ?_
  refine lv_aload_n hx hb dL_law_185 rfl (lv_at hl 4 rfl) ?_
  refine lv_iload hx hb dL_law_186 (lv_at hl 0 rfl) ?_
  refine lv_iconst (v := 1) hx hb dL_law_188 (by decide) ?_
  refine lv_iadd hx hb dL_law_189 ?_
  refine zsld hw hZ.2.2 (nI_c (6 * t) 1 1 rfl) (by omega) hp1 dL_law_190 ?_
  refine lv_aload_n hx hb dL_law_191 rfl (lv_at hl 4 rfl) ?_
  refine lv_iload hx hb dL_law_192 (lv_at hl 0 rfl) ?_
  refine lv_iconst (v := 2) hx hb dL_law_194 (by decide) ?_
  refine lv_iadd hx hb dL_law_195 ?_
  refine zsld hw hZ.2.2 (nI_c (6 * t) 2 2 rfl) (by omega) hp2 dL_law_196 ?_
  refine zgoi hZ hA (zrunV (As := [.int p1, .int p2]) (rest := []) (k := 0) hC hZ (c_X6_set l D cy 69 ad F H.size pic sc ps sh rd dr fa mi (Nat.le_of_ble_eq_true rfl) hRX p1 p2) mX6_set vX6_set kL_21 (zRjL rfl) (Nat.le_of_ble_eq_true rfl) hRX.1 rfl rfl hl.1 rfl (Nat.le_of_ble_eq_true rfl) dL_law_197 hcs) (fun r1 F1 hp H locs hZ => ?_)
  obtain ⟨hq1, hRX1, hfr1⟩ := hp
  have hRM1 := RM_fr hRM hfr1
  have h681 := (hfr1 68 (by omega)).trans h68
  refine lv_aload_n hx hb dL_law_200 rfl (lv_at hl 2 rfl) ?_
  refine lv_aload_n hx hb dL_law_201 rfl (lv_at hl 4 rfl) ?_
  refine lv_iload hx hb dL_law_202 (lv_at hl 0 rfl) ?_
  refine lv_iconst (v := 1) hx hb dL_law_204 (by decide) ?_
  refine lv_iadd hx hb dL_law_205 ?_
  refine zsld hw hZ.2.2 (nI_c (6 * t) 1 1 rfl) (by omega) hp1 dL_law_206 ?_
  refine lv_aload_n hx hb dL_law_207 rfl (lv_at hl 4 rfl) ?_
  refine lv_iload hx hb dL_law_208 (lv_at hl 0 rfl) ?_
  refine lv_iconst (v := 2) hx hb dL_law_210 (by decide) ?_
  refine lv_iadd hx hb dL_law_211 ?_
  refine zsld hw hZ.2.2 (nI_c (6 * t) 2 2 rfl) (by omega) hp2 dL_law_212 ?_
  obtain ⟨fs9, h56⟩ := RM_56 hRM1
  refine zgoi hZ hA (zrunV (As := [.int p1, .int p2]) (rest := [.int r1]) (k := 56) hC hZ (c_X7_set l D cy 69 ad F1 H.size th pic sc ps sh (Nat.le_of_ble_eq_true rfl) hRM1 hG p1 p2) mX7_set vX7_set kL_25 (zRjL rfl) (Nat.le_of_ble_eq_true rfl) h56 rfl rfl hl.1 rfl (Nat.le_of_ble_eq_true rfl) dL_law_213 hcs) (fun r2 F2 hp H locs hZ => ?_)
  obtain ⟨hq2, hRM2, hfm2⟩ := hp
  refine lv_icmp_eq (tgt := 1338) hx hb dL_law_216 (by decide) (fun _ => ?_) (fun h9 => absurd (hq1.trans hq2.symm) h9)
  refine W.widen (k := cells + 1) (n := slots + 6) (by omega) (by omega) ?_
  exact kk F2 H locs ls hZ ⟨_, _, _, _, _, _, _, _, _, _, RX_fr hRX1 (fun j hj => hfm2 j (Or.inl hj)), hRM2, gX_set hG p1 p2, (hfm2 68 (Or.inr (by omega))).trans h681⟩ hl

theorem dL_law_221 : decode cL_law 221 = .ok (.aload_n 1, 1) := by decide +kernel
theorem dL_law_222 : decode cL_law 222 = .ok (.aload_n 0, 1) := by decide +kernel
theorem dL_law_223 : decode cL_law 223 = .ok (.iload 4, 2) := by decide +kernel
theorem dL_law_225 : decode cL_law 225 = .ok (.iconst 1, 1) := by decide +kernel
theorem dL_law_226 : decode cL_law 226 = .ok (.iadd, 1) := by decide +kernel
theorem dL_law_227 : decode cL_law 227 = .ok (.iaload, 1) := by decide +kernel
theorem vX6_tries : zMi yX6_tries := ⟨gt_of 271 (by decide +kernel) rfl, gt_of 272 (by decide +kernel) rfl⟩
theorem kL_26 : zLk RL 26 yX6_tries := Or.inl (gt_of 270 (by decide +kernel) rfl)
theorem dL_law_228 : decode cL_law 228 = .ok (.invokevirtual 26, 3) := by decide +kernel
theorem dL_law_231 : decode cL_law 231 = .ok (.aload_n 2, 1) := by decide +kernel
theorem dL_law_232 : decode cL_law 232 = .ok (.aload_n 0, 1) := by decide +kernel
theorem dL_law_233 : decode cL_law 233 = .ok (.iload 4, 2) := by decide +kernel
theorem dL_law_235 : decode cL_law 235 = .ok (.iconst 1, 1) := by decide +kernel
theorem dL_law_236 : decode cL_law 236 = .ok (.iadd, 1) := by decide +kernel
theorem dL_law_237 : decode cL_law 237 = .ok (.iaload, 1) := by decide +kernel
theorem vX7_tries : zMi yX7_tries := ⟨gt_of 890 (by decide +kernel) rfl, gt_of 891 (by decide +kernel) rfl⟩
theorem kL_30 : zLk RL 30 yX7_tries := Or.inl (gt_of 889 (by decide +kernel) rfl)
theorem dL_law_238 : decode cL_law 238 = .ok (.invokevirtual 30, 3) := by decide +kernel
theorem dL_law_241 : decode cL_law 241 = .ok (.if_icmp .eq 1097, 3) := by decide +kernel
set_option maxRecDepth 100000 in
set_option maxHeartbeats 4000000 in
theorem lk_1 {p : Program} {l : Launch} {e : Env} {s : State} {m : MethodId} {below : List Frame} {meth : Method} {c : Code} {Q : State → Prop} {b L : Nat} {xs : Nat → Int32} {D : va_G} {cy sa ad : Nat → Nat} (hw : zLaw p l s m meth c b L xs D cy sa) {t cells slots : Nat} (ht : 6 * t + 6 ≤ L) (hc : cells + 1 ≤ 600128 ∧ slots + 6 ≤ 7301098) {ls : Array Slot} {F : Nat → va_E} {H : Heap} {locs : List Loc} (hZ : zH D (AL s) s.heap 69 ad F H locs) (hJ : zJ ad cy F) (hl : lv_has ls 8 [(4, .int (nI (6 * t))), (3, .ref (ad 68)), (2, .ref (ad 56)), (1, .ref (ad 0)), (0, .ref b)])
    (kk : ∀ (F1 : Nat → va_E) (H1 : Heap) (locs1 : List Loc) (ls1 : Array Slot), zH D (AL s) s.heap 69 ad F1 H1 locs1 → zJ ad cy F1 → lv_has ls1 8 [(4, .int (nI (6 * t))), (3, .ref (ad 68)), (2, .ref (ad 56)), (1, .ref (ad 0)), (0, .ref b)] → W p l e room_1 s m #[Value.ref b] below meth c H1 locs1 (cells + 1) (slots + 6) Q (F0 m 1338 ls1 [])) :
    W p l e room_1 s m #[Value.ref b] below meth c H locs cells slots Q (F0 m 221 ls []) := by
  obtain ⟨hC, hX, hb9, hr, hlocks, hXs, hl9, hL⟩ := id hw
  obtain ⟨pic, sc, ps, sh, rd, dr, fa, mi, th, f, hRX, hRM, hG, h68⟩ := hJ
  have hx := hC.1.1
  have hb := hC.1.2.1
  have hA : ∀ q, s.heap.size ≤ q → AL s q := fun _ h => h
  have hcs : cells ≤ room_1.cells ∧ slots ≤ room_1.slots := ⟨by show cells ≤ 600128; omega, by show slots ≤ 7301098; omega⟩
  obtain ⟨p1, hp1⟩ : ∃ y, xs (6 * t + 1) = y := ⟨_, rfl⟩
  obtain ⟨p2, hp2⟩ : ∃ y, xs (6 * t + 2) = y := ⟨_, rfl⟩
  obtain ⟨p3, hp3⟩ : ∃ y, xs (6 * t + 3) = y := ⟨_, rfl⟩
  obtain ⟨p4, hp4⟩ : ∃ y, xs (6 * t + 4) = y := ⟨_, rfl⟩
  obtain ⟨p5, hp5⟩ : ∃ y, xs (6 * t + 5) = y := ⟨_, rfl⟩
  refine lv_aload_n hx hb dL_law_221 rfl (lv_at hl 3 rfl) ?_
  refine lv_aload_n hx hb dL_law_222 rfl (lv_at hl 4 rfl) ?_
  refine lv_iload hx hb dL_law_223 (lv_at hl 0 rfl) ?_
  refine lv_iconst (v := 1) hx hb dL_law_225 (by decide) ?_
  refine lv_iadd hx hb dL_law_226 ?_
  refine zsld hw hZ.2.2 (nI_c (6 * t) 1 1 rfl) (by omega) hp1 dL_law_227 ?_
  refine zgoi hZ hA (zrunV (As := [.int p1]) (rest := []) (k := 0) hC hZ (c_X6_tries l D cy 69 ad F H.size pic sc ps sh rd dr fa mi (Nat.le_of_ble_eq_true rfl) hRX hG p1) mX6_tries vX6_tries kL_26 (zRjL rfl) (Nat.le_of_ble_eq_true rfl) hRX.1 rfl rfl hl.1 rfl (Nat.le_of_ble_eq_true rfl) dL_law_228 hcs) (fun r1 F1 hp H locs hZ => ?_)
  obtain ⟨tr1, tc1, hT0, rd1, dr1, hRX1, hfr1⟩ := hp
  have hT : TQ sc sh p1 r1 tr1 tc1 := hT0
  have hRM1 := RM_fr hRM hfr1
  have h681 := (hfr1 68 (by omega)).trans h68
  refine lv_aload_n hx hb dL_law_231 rfl (lv_at hl 2 rfl) ?_
  refine lv_aload_n hx hb dL_law_232 rfl (lv_at hl 4 rfl) ?_
  refine lv_iload hx hb dL_law_233 (lv_at hl 0 rfl) ?_
  refine lv_iconst (v := 1) hx hb dL_law_235 (by decide) ?_
  refine lv_iadd hx hb dL_law_236 ?_
  refine zsld hw hZ.2.2 (nI_c (6 * t) 1 1 rfl) (by omega) hp1 dL_law_237 ?_
  obtain ⟨fs9, h56⟩ := RM_56 hRM1
  refine zgoi hZ hA (zrunV (As := [.int p1]) (rest := [.int r1]) (k := 56) hC hZ (c_X7_tries l D cy 69 ad F1 H.size th pic sc ps sh (Nat.le_of_ble_eq_true rfl) hRM1 hG p1 r1 tr1 tc1 hT) mX7_tries vX7_tries kL_30 (zRjL rfl) (Nat.le_of_ble_eq_true rfl) h56 rfl rfl hl.1 rfl (Nat.le_of_ble_eq_true rfl) dL_law_238 hcs) (fun r2 F2 hp H locs hZ => ?_)
  obtain ⟨hq2, hRM2, hfm2⟩ := hp
  refine lv_icmp_eq (tgt := 1338) hx hb dL_law_241 (by decide) (fun _ => ?_) (fun h9 => absurd hq2.symm h9)
  refine W.widen (k := cells + 1) (n := slots + 6) (by omega) (by omega) ?_
  exact kk F2 H locs ls hZ ⟨_, _, _, _, _, _, _, _, _, _, RX_fr hRX1 (fun j hj => hfm2 j (Or.inl hj)), hRM2, gX_tries hG hT, (hfm2 68 (Or.inr (by omega))).trans h681⟩ hl

theorem dL_law_246 : decode cL_law 246 = .ok (.aload_n 1, 1) := by decide +kernel
theorem dL_law_247 : decode cL_law 247 = .ok (.aload_n 0, 1) := by decide +kernel
theorem dL_law_248 : decode cL_law 248 = .ok (.iload 4, 2) := by decide +kernel
theorem dL_law_250 : decode cL_law 250 = .ok (.iconst 1, 1) := by decide +kernel
theorem dL_law_251 : decode cL_law 251 = .ok (.iadd, 1) := by decide +kernel
theorem dL_law_252 : decode cL_law 252 = .ok (.iaload, 1) := by decide +kernel
theorem dL_law_253 : decode cL_law 253 = .ok (.aload_n 0, 1) := by decide +kernel
theorem dL_law_254 : decode cL_law 254 = .ok (.iload 4, 2) := by decide +kernel
theorem dL_law_256 : decode cL_law 256 = .ok (.iconst 2, 1) := by decide +kernel
theorem dL_law_257 : decode cL_law 257 = .ok (.iadd, 1) := by decide +kernel
theorem dL_law_258 : decode cL_law 258 = .ok (.iaload, 1) := by decide +kernel
theorem vX6_tryOf : zMi yX6_tryOf := ⟨gt_of 350 (by decide +kernel) rfl, gt_of 351 (by decide +kernel) rfl⟩
theorem kL_31 : zLk RL 31 yX6_tryOf := Or.inl (gt_of 349 (by decide +kernel) rfl)
theorem dL_law_259 : decode cL_law 259 = .ok (.invokevirtual 31, 3) := by decide +kernel
theorem dL_law_262 : decode cL_law 262 = .ok (.aload_n 2, 1) := by decide +kernel
theorem dL_law_263 : decode cL_law 263 = .ok (.aload_n 0, 1) := by decide +kernel
theorem dL_law_264 : decode cL_law 264 = .ok (.iload 4, 2) := by decide +kernel
theorem dL_law_266 : decode cL_law 266 = .ok (.iconst 1, 1) := by decide +kernel
theorem dL_law_267 : decode cL_law 267 = .ok (.iadd, 1) := by decide +kernel
theorem dL_law_268 : decode cL_law 268 = .ok (.iaload, 1) := by decide +kernel
theorem dL_law_269 : decode cL_law 269 = .ok (.aload_n 0, 1) := by decide +kernel
theorem dL_law_270 : decode cL_law 270 = .ok (.iload 4, 2) := by decide +kernel
theorem dL_law_272 : decode cL_law 272 = .ok (.iconst 2, 1) := by decide +kernel
theorem dL_law_273 : decode cL_law 273 = .ok (.iadd, 1) := by decide +kernel
theorem dL_law_274 : decode cL_law 274 = .ok (.iaload, 1) := by decide +kernel
theorem vX7_tryOf : zMi yX7_tryOf := ⟨gt_of 926 (by decide +kernel) rfl, gt_of 927 (by decide +kernel) rfl⟩
theorem kL_34 : zLk RL 34 yX7_tryOf := Or.inl (gt_of 925 (by decide +kernel) rfl)
theorem dL_law_275 : decode cL_law 275 = .ok (.invokevirtual 34, 3) := by decide +kernel
theorem dL_law_278 : decode cL_law 278 = .ok (.if_icmp .eq 1060, 3) := by decide +kernel
set_option maxRecDepth 100000 in
set_option maxHeartbeats 4000000 in
theorem lk_2 {p : Program} {l : Launch} {e : Env} {s : State} {m : MethodId} {below : List Frame} {meth : Method} {c : Code} {Q : State → Prop} {b L : Nat} {xs : Nat → Int32} {D : va_G} {cy sa ad : Nat → Nat} (hw : zLaw p l s m meth c b L xs D cy sa) {t cells slots : Nat} (ht : 6 * t + 6 ≤ L) (hc : cells + 1 ≤ 600128 ∧ slots + 6 ≤ 7301098) {ls : Array Slot} {F : Nat → va_E} {H : Heap} {locs : List Loc} (hZ : zH D (AL s) s.heap 69 ad F H locs) (hJ : zJ ad cy F) (hl : lv_has ls 8 [(4, .int (nI (6 * t))), (3, .ref (ad 68)), (2, .ref (ad 56)), (1, .ref (ad 0)), (0, .ref b)])
    (kk : ∀ (F1 : Nat → va_E) (H1 : Heap) (locs1 : List Loc) (ls1 : Array Slot), zH D (AL s) s.heap 69 ad F1 H1 locs1 → zJ ad cy F1 → lv_has ls1 8 [(4, .int (nI (6 * t))), (3, .ref (ad 68)), (2, .ref (ad 56)), (1, .ref (ad 0)), (0, .ref b)] → W p l e room_1 s m #[Value.ref b] below meth c H1 locs1 (cells + 1) (slots + 6) Q (F0 m 1338 ls1 [])) :
    W p l e room_1 s m #[Value.ref b] below meth c H locs cells slots Q (F0 m 246 ls []) := by
  obtain ⟨hC, hX, hb9, hr, hlocks, hXs, hl9, hL⟩ := id hw
  obtain ⟨pic, sc, ps, sh, rd, dr, fa, mi, th, f, hRX, hRM, hG, h68⟩ := hJ
  have hx := hC.1.1
  have hb := hC.1.2.1
  have hA : ∀ q, s.heap.size ≤ q → AL s q := fun _ h => h
  have hcs : cells ≤ room_1.cells ∧ slots ≤ room_1.slots := ⟨by show cells ≤ 600128; omega, by show slots ≤ 7301098; omega⟩
  obtain ⟨p1, hp1⟩ : ∃ y, xs (6 * t + 1) = y := ⟨_, rfl⟩
  obtain ⟨p2, hp2⟩ : ∃ y, xs (6 * t + 2) = y := ⟨_, rfl⟩
  obtain ⟨p3, hp3⟩ : ∃ y, xs (6 * t + 3) = y := ⟨_, rfl⟩
  obtain ⟨p4, hp4⟩ : ∃ y, xs (6 * t + 4) = y := ⟨_, rfl⟩
  obtain ⟨p5, hp5⟩ : ∃ y, xs (6 * t + 5) = y := ⟨_, rfl⟩
  refine lv_aload_n hx hb dL_law_246 rfl (lv_at hl 3 rfl) ?_
  refine lv_aload_n hx hb dL_law_247 rfl (lv_at hl 4 rfl) ?_
  refine lv_iload hx hb dL_law_248 (lv_at hl 0 rfl) ?_
  refine lv_iconst (v := 1) hx hb dL_law_250 (by decide) ?_
  refine lv_iadd hx hb dL_law_251 ?_
  refine zsld hw hZ.2.2 (nI_c (6 * t) 1 1 rfl) (by omega) hp1 dL_law_252 ?_
  refine lv_aload_n hx hb dL_law_253 rfl (lv_at hl 4 rfl) ?_
  refine lv_iload hx hb dL_law_254 (lv_at hl 0 rfl) ?_
  refine lv_iconst (v := 2) hx hb dL_law_256 (by decide) ?_
  refine lv_iadd hx hb dL_law_257 ?_
  refine zsld hw hZ.2.2 (nI_c (6 * t) 2 2 rfl) (by omega) hp2 dL_law_258 ?_
  refine zgoi hZ hA (zrunV (As := [.int p1, .int p2]) (rest := []) (k := 0) hC hZ (c_X6_tryOf l D cy 69 ad F H.size pic sc ps sh rd dr fa mi (Nat.le_of_ble_eq_true rfl) hRX p1 p2) mX6_tryOf vX6_tryOf kL_31 (zRjL rfl) (Nat.le_of_ble_eq_true rfl) hRX.1 rfl rfl hl.1 rfl (Nat.le_of_ble_eq_true rfl) dL_law_259 hcs) (fun r1 F1 hp H locs hZ => ?_)
  obtain ⟨hq1, hFF⟩ := hp
  have hRX1 : RX ad cy F1 pic sc ps sh rd dr fa mi := by rw [← hFF]; exact hRX
  have hfr1 : fr56 F F1 := by rw [← hFF]; exact fr56_rf
  have hRM1 := RM_fr hRM hfr1
  have h681 := (hfr1 68 (by omega)).trans h68
  refine lv_aload_n hx hb dL_law_262 rfl (lv_at hl 2 rfl) ?_
  refine lv_aload_n hx hb dL_law_263 rfl (lv_at hl 4 rfl) ?_
  refine lv_iload hx hb dL_law_264 (lv_at hl 0 rfl) ?_
  refine lv_iconst (v := 1) hx hb dL_law_266 (by decide) ?_
  refine lv_iadd hx hb dL_law_267 ?_
  refine zsld hw hZ.2.2 (nI_c (6 * t) 1 1 rfl) (by omega) hp1 dL_law_268 ?_
  refine lv_aload_n hx hb dL_law_269 rfl (lv_at hl 4 rfl) ?_
  refine lv_iload hx hb dL_law_270 (lv_at hl 0 rfl) ?_
  refine lv_iconst (v := 2) hx hb dL_law_272 (by decide) ?_
  refine lv_iadd hx hb dL_law_273 ?_
  refine zsld hw hZ.2.2 (nI_c (6 * t) 2 2 rfl) (by omega) hp2 dL_law_274 ?_
  obtain ⟨fs9, h56⟩ := RM_56 hRM1
  refine zgoi hZ hA (zrunV (As := [.int p1, .int p2]) (rest := [.int r1]) (k := 56) hC hZ (c_X7_tryOf l D cy 69 ad F1 H.size th pic sc ps sh (Nat.le_of_ble_eq_true rfl) hRM1 hG p1 p2) mX7_tryOf vX7_tryOf kL_34 (zRjL rfl) (Nat.le_of_ble_eq_true rfl) h56 rfl rfl hl.1 rfl (Nat.le_of_ble_eq_true rfl) dL_law_275 hcs) (fun r2 F2 hp H locs hZ => ?_)
  obtain ⟨hq2, hRM2, hfm2⟩ := hp
  refine lv_icmp_eq (tgt := 1338) hx hb dL_law_278 (by decide) (fun _ => ?_) (fun h9 => absurd (hq1.trans hq2.symm) h9)
  refine W.widen (k := cells + 1) (n := slots + 6) (by omega) (by omega) ?_
  exact kk F2 H locs ls hZ ⟨_, _, _, _, _, _, _, _, _, _, RX_fr hRX1 (fun j hj => hfm2 j (Or.inl hj)), hRM2, hG, (hfm2 68 (Or.inr (by omega))).trans h681⟩ hl

theorem dL_law_283 : decode cL_law 283 = .ok (.aload_n 1, 1) := by decide +kernel
theorem vX6_leave : zMi yX6_leave := ⟨gt_of 358 (by decide +kernel) rfl, gt_of 359 (by decide +kernel) rfl⟩
theorem kL_35 : zLk RL 35 yX6_leave := Or.inl (gt_of 357 (by decide +kernel) rfl)
theorem dL_law_284 : decode cL_law 284 = .ok (.invokevirtual 35, 3) := by decide +kernel
theorem dL_law_287 : decode cL_law 287 = .ok (.aload_n 2, 1) := by decide +kernel
theorem vX7_leave : zMi yX7_leave := ⟨gt_of 931 (by decide +kernel) rfl, gt_of 932 (by decide +kernel) rfl⟩
theorem kL_39 : zLk RL 39 yX7_leave := Or.inl (gt_of 930 (by decide +kernel) rfl)
theorem dL_law_288 : decode cL_law 288 = .ok (.invokevirtual 39, 3) := by decide +kernel
theorem dL_law_291 : decode cL_law 291 = .ok (.if_icmp .eq 1047, 3) := by decide +kernel
set_option maxRecDepth 100000 in
set_option maxHeartbeats 4000000 in
theorem lk_3 {p : Program} {l : Launch} {e : Env} {s : State} {m : MethodId} {below : List Frame} {meth : Method} {c : Code} {Q : State → Prop} {b L : Nat} {xs : Nat → Int32} {D : va_G} {cy sa ad : Nat → Nat} (hw : zLaw p l s m meth c b L xs D cy sa) {t cells slots : Nat} (ht : 6 * t + 6 ≤ L) (hc : cells + 1 ≤ 600128 ∧ slots + 6 ≤ 7301098) {ls : Array Slot} {F : Nat → va_E} {H : Heap} {locs : List Loc} (hZ : zH D (AL s) s.heap 69 ad F H locs) (hJ : zJ ad cy F) (hl : lv_has ls 8 [(4, .int (nI (6 * t))), (3, .ref (ad 68)), (2, .ref (ad 56)), (1, .ref (ad 0)), (0, .ref b)])
    (kk : ∀ (F1 : Nat → va_E) (H1 : Heap) (locs1 : List Loc) (ls1 : Array Slot), zH D (AL s) s.heap 69 ad F1 H1 locs1 → zJ ad cy F1 → lv_has ls1 8 [(4, .int (nI (6 * t))), (3, .ref (ad 68)), (2, .ref (ad 56)), (1, .ref (ad 0)), (0, .ref b)] → W p l e room_1 s m #[Value.ref b] below meth c H1 locs1 (cells + 1) (slots + 6) Q (F0 m 1338 ls1 [])) :
    W p l e room_1 s m #[Value.ref b] below meth c H locs cells slots Q (F0 m 283 ls []) := by
  obtain ⟨hC, hX, hb9, hr, hlocks, hXs, hl9, hL⟩ := id hw
  obtain ⟨pic, sc, ps, sh, rd, dr, fa, mi, th, f, hRX, hRM, hG, h68⟩ := hJ
  have hx := hC.1.1
  have hb := hC.1.2.1
  have hA : ∀ q, s.heap.size ≤ q → AL s q := fun _ h => h
  have hcs : cells ≤ room_1.cells ∧ slots ≤ room_1.slots := ⟨by show cells ≤ 600128; omega, by show slots ≤ 7301098; omega⟩
  obtain ⟨p1, hp1⟩ : ∃ y, xs (6 * t + 1) = y := ⟨_, rfl⟩
  obtain ⟨p2, hp2⟩ : ∃ y, xs (6 * t + 2) = y := ⟨_, rfl⟩
  obtain ⟨p3, hp3⟩ : ∃ y, xs (6 * t + 3) = y := ⟨_, rfl⟩
  obtain ⟨p4, hp4⟩ : ∃ y, xs (6 * t + 4) = y := ⟨_, rfl⟩
  obtain ⟨p5, hp5⟩ : ∃ y, xs (6 * t + 5) = y := ⟨_, rfl⟩
  refine lv_aload_n hx hb dL_law_283 rfl (lv_at hl 3 rfl) ?_
  refine zgoi hZ hA (zrunV (As := []) (rest := []) (k := 0) hC hZ (c_X6_leave l D cy 69 ad F H.size pic sc ps sh rd dr fa mi (Nat.le_of_ble_eq_true rfl) hRX) mX6_leave vX6_leave kL_35 (zRjL rfl) (Nat.le_of_ble_eq_true rfl) hRX.1 rfl rfl hl.1 rfl (Nat.le_of_ble_eq_true rfl) dL_law_284 hcs) (fun r1 F1 hp H locs hZ => ?_)
  obtain ⟨hq1, hRX1, hfr1⟩ := hp
  have hRM1 := RM_fr hRM hfr1
  have h681 := (hfr1 68 (by omega)).trans h68
  refine lv_aload_n hx hb dL_law_287 rfl (lv_at hl 2 rfl) ?_
  obtain ⟨fs9, h56⟩ := RM_56 hRM1
  refine zgoi hZ hA (zrunV (As := []) (rest := [.int r1]) (k := 56) hC hZ (c_X7_leave l D cy 69 ad F1 H.size th pic sc ps sh (Nat.le_of_ble_eq_true rfl) hRM1 hG) mX7_leave vX7_leave kL_39 (zRjL rfl) (Nat.le_of_ble_eq_true rfl) h56 rfl rfl hl.1 rfl (Nat.le_of_ble_eq_true rfl) dL_law_288 hcs) (fun r2 F2 hp H locs hZ => ?_)
  obtain ⟨hq2, hRM2, hfm2⟩ := hp
  refine lv_icmp_eq (tgt := 1338) hx hb dL_law_291 (by decide) (fun _ => ?_) (fun h9 => absurd (hq1.trans hq2.symm) h9)
  refine W.widen (k := cells + 1) (n := slots + 6) (by omega) (by omega) ?_
  exact kk F2 H locs ls hZ ⟨_, _, _, _, _, _, _, _, _, _, RX_fr hRX1 (fun j hj => hfm2 j (Or.inl hj)), hRM2, gX_leave hG, (hfm2 68 (Or.inr (by omega))).trans h681⟩ hl

theorem dL_law_296 : decode cL_law 296 = .ok (.aload_n 1, 1) := by decide +kernel
theorem dL_law_297 : decode cL_law 297 = .ok (.aload_n 0, 1) := by decide +kernel
theorem dL_law_298 : decode cL_law 298 = .ok (.iload 4, 2) := by decide +kernel
theorem dL_law_300 : decode cL_law 300 = .ok (.iconst 1, 1) := by decide +kernel
theorem dL_law_301 : decode cL_law 301 = .ok (.iadd, 1) := by decide +kernel
theorem dL_law_302 : decode cL_law 302 = .ok (.iaload, 1) := by decide +kernel
theorem dL_law_303 : decode cL_law 303 = .ok (.aload_n 0, 1) := by decide +kernel
theorem dL_law_304 : decode cL_law 304 = .ok (.iload 4, 2) := by decide +kernel
theorem dL_law_306 : decode cL_law 306 = .ok (.iconst 2, 1) := by decide +kernel
theorem dL_law_307 : decode cL_law 307 = .ok (.iadd, 1) := by decide +kernel
theorem dL_law_308 : decode cL_law 308 = .ok (.iaload, 1) := by decide +kernel
theorem vX6_story : zMi yX6_story := ⟨gt_of 362 (by decide +kernel) rfl, gt_of 363 (by decide +kernel) rfl⟩
theorem kL_40 : zLk RL 40 yX6_story := Or.inl (gt_of 361 (by decide +kernel) rfl)
theorem dL_law_309 : decode cL_law 309 = .ok (.invokevirtual 40, 3) := by decide +kernel
theorem dL_law_312 : decode cL_law 312 = .ok (.aload_n 2, 1) := by decide +kernel
theorem dL_law_313 : decode cL_law 313 = .ok (.aload_n 0, 1) := by decide +kernel
theorem dL_law_314 : decode cL_law 314 = .ok (.iload 4, 2) := by decide +kernel
theorem dL_law_316 : decode cL_law 316 = .ok (.iconst 1, 1) := by decide +kernel
theorem dL_law_317 : decode cL_law 317 = .ok (.iadd, 1) := by decide +kernel
theorem dL_law_318 : decode cL_law 318 = .ok (.iaload, 1) := by decide +kernel
theorem dL_law_319 : decode cL_law 319 = .ok (.aload_n 0, 1) := by decide +kernel
theorem dL_law_320 : decode cL_law 320 = .ok (.iload 4, 2) := by decide +kernel
theorem dL_law_322 : decode cL_law 322 = .ok (.iconst 2, 1) := by decide +kernel
theorem dL_law_323 : decode cL_law 323 = .ok (.iadd, 1) := by decide +kernel
theorem dL_law_324 : decode cL_law 324 = .ok (.iaload, 1) := by decide +kernel
theorem vX7_story : zMi yX7_story := ⟨gt_of 935 (by decide +kernel) rfl, gt_of 936 (by decide +kernel) rfl⟩
theorem kL_43 : zLk RL 43 yX7_story := Or.inl (gt_of 934 (by decide +kernel) rfl)
theorem dL_law_325 : decode cL_law 325 = .ok (.invokevirtual 43, 3) := by decide +kernel
theorem dL_law_328 : decode cL_law 328 = .ok (.if_icmp .eq 1010, 3) := by decide +kernel
set_option maxRecDepth 100000 in
set_option maxHeartbeats 4000000 in
theorem lk_4 {p : Program} {l : Launch} {e : Env} {s : State} {m : MethodId} {below : List Frame} {meth : Method} {c : Code} {Q : State → Prop} {b L : Nat} {xs : Nat → Int32} {D : va_G} {cy sa ad : Nat → Nat} (hw : zLaw p l s m meth c b L xs D cy sa) {t cells slots : Nat} (ht : 6 * t + 6 ≤ L) (hc : cells + 1 ≤ 600128 ∧ slots + 6 ≤ 7301098) {ls : Array Slot} {F : Nat → va_E} {H : Heap} {locs : List Loc} (hZ : zH D (AL s) s.heap 69 ad F H locs) (hJ : zJ ad cy F) (hl : lv_has ls 8 [(4, .int (nI (6 * t))), (3, .ref (ad 68)), (2, .ref (ad 56)), (1, .ref (ad 0)), (0, .ref b)])
    (kk : ∀ (F1 : Nat → va_E) (H1 : Heap) (locs1 : List Loc) (ls1 : Array Slot), zH D (AL s) s.heap 69 ad F1 H1 locs1 → zJ ad cy F1 → lv_has ls1 8 [(4, .int (nI (6 * t))), (3, .ref (ad 68)), (2, .ref (ad 56)), (1, .ref (ad 0)), (0, .ref b)] → W p l e room_1 s m #[Value.ref b] below meth c H1 locs1 (cells + 1) (slots + 6) Q (F0 m 1338 ls1 [])) :
    W p l e room_1 s m #[Value.ref b] below meth c H locs cells slots Q (F0 m 296 ls []) := by
  obtain ⟨hC, hX, hb9, hr, hlocks, hXs, hl9, hL⟩ := id hw
  obtain ⟨pic, sc, ps, sh, rd, dr, fa, mi, th, f, hRX, hRM, hG, h68⟩ := hJ
  have hx := hC.1.1
  have hb := hC.1.2.1
  have hA : ∀ q, s.heap.size ≤ q → AL s q := fun _ h => h
  have hcs : cells ≤ room_1.cells ∧ slots ≤ room_1.slots := ⟨by show cells ≤ 600128; omega, by show slots ≤ 7301098; omega⟩
  obtain ⟨p1, hp1⟩ : ∃ y, xs (6 * t + 1) = y := ⟨_, rfl⟩
  obtain ⟨p2, hp2⟩ : ∃ y, xs (6 * t + 2) = y := ⟨_, rfl⟩
  obtain ⟨p3, hp3⟩ : ∃ y, xs (6 * t + 3) = y := ⟨_, rfl⟩
  obtain ⟨p4, hp4⟩ : ∃ y, xs (6 * t + 4) = y := ⟨_, rfl⟩
  obtain ⟨p5, hp5⟩ : ∃ y, xs (6 * t + 5) = y := ⟨_, rfl⟩
  refine lv_aload_n hx hb dL_law_296 rfl (lv_at hl 3 rfl) ?_
  refine lv_aload_n hx hb dL_law_297 rfl (lv_at hl 4 rfl) ?_
  refine lv_iload hx hb dL_law_298 (lv_at hl 0 rfl) ?_
  refine lv_iconst (v := 1) hx hb dL_law_300 (by decide) ?_
  refine lv_iadd hx hb dL_law_301 ?_
  refine zsld hw hZ.2.2 (nI_c (6 * t) 1 1 rfl) (by omega) hp1 dL_law_302 ?_
  refine lv_aload_n hx hb dL_law_303 rfl (lv_at hl 4 rfl) ?_
  refine lv_iload hx hb dL_law_304 (lv_at hl 0 rfl) ?_
  refine lv_iconst (v := 2) hx hb dL_law_306 (by decide) ?_
  refine lv_iadd hx hb dL_law_307 ?_
  refine zsld hw hZ.2.2 (nI_c (6 * t) 2 2 rfl) (by omega) hp2 dL_law_308 ?_
  refine zgoi hZ hA (zrunV (As := [.int p1, .int p2]) (rest := []) (k := 0) hC hZ (c_X6_story l D cy 69 ad F H.size pic sc ps sh rd dr fa mi (Nat.le_of_ble_eq_true rfl) hRX p1 p2) mX6_story vX6_story kL_40 (zRjL rfl) (Nat.le_of_ble_eq_true rfl) hRX.1 rfl rfl hl.1 rfl (Nat.le_of_ble_eq_true rfl) dL_law_309 hcs) (fun r1 F1 hp H locs hZ => ?_)
  obtain ⟨hq1, hFF⟩ := hp
  have hRX1 : RX ad cy F1 pic sc ps sh rd dr fa mi := by rw [← hFF]; exact hRX
  have hfr1 : fr56 F F1 := by rw [← hFF]; exact fr56_rf
  have hRM1 := RM_fr hRM hfr1
  have h681 := (hfr1 68 (by omega)).trans h68
  refine lv_aload_n hx hb dL_law_312 rfl (lv_at hl 2 rfl) ?_
  refine lv_aload_n hx hb dL_law_313 rfl (lv_at hl 4 rfl) ?_
  refine lv_iload hx hb dL_law_314 (lv_at hl 0 rfl) ?_
  refine lv_iconst (v := 1) hx hb dL_law_316 (by decide) ?_
  refine lv_iadd hx hb dL_law_317 ?_
  refine zsld hw hZ.2.2 (nI_c (6 * t) 1 1 rfl) (by omega) hp1 dL_law_318 ?_
  refine lv_aload_n hx hb dL_law_319 rfl (lv_at hl 4 rfl) ?_
  refine lv_iload hx hb dL_law_320 (lv_at hl 0 rfl) ?_
  refine lv_iconst (v := 2) hx hb dL_law_322 (by decide) ?_
  refine lv_iadd hx hb dL_law_323 ?_
  refine zsld hw hZ.2.2 (nI_c (6 * t) 2 2 rfl) (by omega) hp2 dL_law_324 ?_
  obtain ⟨fs9, h56⟩ := RM_56 hRM1
  refine zgoi hZ hA (zrunV (As := [.int p1, .int p2]) (rest := [.int r1]) (k := 56) hC hZ (c_X7_story l D cy 69 ad F1 H.size th pic sc ps sh (Nat.le_of_ble_eq_true rfl) hRM1 hG p1 p2) mX7_story vX7_story kL_43 (zRjL rfl) (Nat.le_of_ble_eq_true rfl) h56 rfl rfl hl.1 rfl (Nat.le_of_ble_eq_true rfl) dL_law_325 hcs) (fun r2 F2 hp H locs hZ => ?_)
  obtain ⟨hq2, hRM2, hfm2⟩ := hp
  refine lv_icmp_eq (tgt := 1338) hx hb dL_law_328 (by decide) (fun _ => ?_) (fun h9 => absurd (hq1.trans hq2.symm) h9)
  refine W.widen (k := cells + 1) (n := slots + 6) (by omega) (by omega) ?_
  exact kk F2 H locs ls hZ ⟨_, _, _, _, _, _, _, _, _, _, RX_fr hRX1 (fun j hj => hfm2 j (Or.inl hj)), hRM2, hG, (hfm2 68 (Or.inr (by omega))).trans h681⟩ hl

theorem dL_law_333 : decode cL_law 333 = .ok (.aload_n 1, 1) := by decide +kernel
theorem dL_law_334 : decode cL_law 334 = .ok (.aload_n 0, 1) := by decide +kernel
theorem dL_law_335 : decode cL_law 335 = .ok (.iload 4, 2) := by decide +kernel
theorem dL_law_337 : decode cL_law 337 = .ok (.iconst 1, 1) := by decide +kernel
theorem dL_law_338 : decode cL_law 338 = .ok (.iadd, 1) := by decide +kernel
theorem dL_law_339 : decode cL_law 339 = .ok (.iaload, 1) := by decide +kernel
theorem dL_law_340 : decode cL_law 340 = .ok (.aload_n 0, 1) := by decide +kernel
theorem dL_law_341 : decode cL_law 341 = .ok (.iload 4, 2) := by decide +kernel
theorem dL_law_343 : decode cL_law 343 = .ok (.iconst 2, 1) := by decide +kernel
theorem dL_law_344 : decode cL_law 344 = .ok (.iadd, 1) := by decide +kernel
theorem dL_law_345 : decode cL_law 345 = .ok (.iaload, 1) := by decide +kernel
theorem vX6_run : zMi yX6_run := ⟨gt_of 390 (by decide +kernel) rfl, gt_of 391 (by decide +kernel) rfl⟩
theorem kL_44 : zLk RL 44 yX6_run := Or.inl (gt_of 389 (by decide +kernel) rfl)
theorem dL_law_346 : decode cL_law 346 = .ok (.invokevirtual 44, 3) := by decide +kernel
theorem dL_law_349 : decode cL_law 349 = .ok (.aload_n 2, 1) := by decide +kernel
theorem dL_law_350 : decode cL_law 350 = .ok (.aload_n 0, 1) := by decide +kernel
theorem dL_law_351 : decode cL_law 351 = .ok (.iload 4, 2) := by decide +kernel
theorem dL_law_353 : decode cL_law 353 = .ok (.iconst 1, 1) := by decide +kernel
theorem dL_law_354 : decode cL_law 354 = .ok (.iadd, 1) := by decide +kernel
theorem dL_law_355 : decode cL_law 355 = .ok (.iaload, 1) := by decide +kernel
theorem dL_law_356 : decode cL_law 356 = .ok (.aload_n 0, 1) := by decide +kernel
theorem dL_law_357 : decode cL_law 357 = .ok (.iload 4, 2) := by decide +kernel
theorem dL_law_359 : decode cL_law 359 = .ok (.iconst 2, 1) := by decide +kernel
theorem dL_law_360 : decode cL_law 360 = .ok (.iadd, 1) := by decide +kernel
theorem dL_law_361 : decode cL_law 361 = .ok (.iaload, 1) := by decide +kernel
theorem vX7_run : zMi yX7_run := ⟨gt_of 952 (by decide +kernel) rfl, gt_of 953 (by decide +kernel) rfl⟩
theorem kL_47 : zLk RL 47 yX7_run := Or.inl (gt_of 951 (by decide +kernel) rfl)
theorem dL_law_362 : decode cL_law 362 = .ok (.invokevirtual 47, 3) := by decide +kernel
theorem dL_law_365 : decode cL_law 365 = .ok (.if_icmp .eq 973, 3) := by decide +kernel
set_option maxRecDepth 100000 in
set_option maxHeartbeats 4000000 in
theorem lk_5 {p : Program} {l : Launch} {e : Env} {s : State} {m : MethodId} {below : List Frame} {meth : Method} {c : Code} {Q : State → Prop} {b L : Nat} {xs : Nat → Int32} {D : va_G} {cy sa ad : Nat → Nat} (hw : zLaw p l s m meth c b L xs D cy sa) {t cells slots : Nat} (ht : 6 * t + 6 ≤ L) (hc : cells + 1 ≤ 600128 ∧ slots + 6 ≤ 7301098) {ls : Array Slot} {F : Nat → va_E} {H : Heap} {locs : List Loc} (hZ : zH D (AL s) s.heap 69 ad F H locs) (hJ : zJ ad cy F) (hl : lv_has ls 8 [(4, .int (nI (6 * t))), (3, .ref (ad 68)), (2, .ref (ad 56)), (1, .ref (ad 0)), (0, .ref b)])
    (kk : ∀ (F1 : Nat → va_E) (H1 : Heap) (locs1 : List Loc) (ls1 : Array Slot), zH D (AL s) s.heap 69 ad F1 H1 locs1 → zJ ad cy F1 → lv_has ls1 8 [(4, .int (nI (6 * t))), (3, .ref (ad 68)), (2, .ref (ad 56)), (1, .ref (ad 0)), (0, .ref b)] → W p l e room_1 s m #[Value.ref b] below meth c H1 locs1 (cells + 1) (slots + 6) Q (F0 m 1338 ls1 [])) :
    W p l e room_1 s m #[Value.ref b] below meth c H locs cells slots Q (F0 m 333 ls []) := by
  obtain ⟨hC, hX, hb9, hr, hlocks, hXs, hl9, hL⟩ := id hw
  obtain ⟨pic, sc, ps, sh, rd, dr, fa, mi, th, f, hRX, hRM, hG, h68⟩ := hJ
  have hx := hC.1.1
  have hb := hC.1.2.1
  have hA : ∀ q, s.heap.size ≤ q → AL s q := fun _ h => h
  have hcs : cells ≤ room_1.cells ∧ slots ≤ room_1.slots := ⟨by show cells ≤ 600128; omega, by show slots ≤ 7301098; omega⟩
  obtain ⟨p1, hp1⟩ : ∃ y, xs (6 * t + 1) = y := ⟨_, rfl⟩
  obtain ⟨p2, hp2⟩ : ∃ y, xs (6 * t + 2) = y := ⟨_, rfl⟩
  obtain ⟨p3, hp3⟩ : ∃ y, xs (6 * t + 3) = y := ⟨_, rfl⟩
  obtain ⟨p4, hp4⟩ : ∃ y, xs (6 * t + 4) = y := ⟨_, rfl⟩
  obtain ⟨p5, hp5⟩ : ∃ y, xs (6 * t + 5) = y := ⟨_, rfl⟩
  refine lv_aload_n hx hb dL_law_333 rfl (lv_at hl 3 rfl) ?_
  refine lv_aload_n hx hb dL_law_334 rfl (lv_at hl 4 rfl) ?_
  refine lv_iload hx hb dL_law_335 (lv_at hl 0 rfl) ?_
  refine lv_iconst (v := 1) hx hb dL_law_337 (by decide) ?_
  refine lv_iadd hx hb dL_law_338 ?_
  refine zsld hw hZ.2.2 (nI_c (6 * t) 1 1 rfl) (by omega) hp1 dL_law_339 ?_
  refine lv_aload_n hx hb dL_law_340 rfl (lv_at hl 4 rfl) ?_
  refine lv_iload hx hb dL_law_341 (lv_at hl 0 rfl) ?_
  refine lv_iconst (v := 2) hx hb dL_law_343 (by decide) ?_
  refine lv_iadd hx hb dL_law_344 ?_
  refine zsld hw hZ.2.2 (nI_c (6 * t) 2 2 rfl) (by omega) hp2 dL_law_345 ?_
  refine zgoi hZ hA (zrunV (As := [.int p1, .int p2]) (rest := []) (k := 0) hC hZ (c_X6_run l D cy 69 ad F H.size pic sc ps sh rd dr fa mi (Nat.le_of_ble_eq_true rfl) hRX p1 p2) mX6_run vX6_run kL_44 (zRjL rfl) (Nat.le_of_ble_eq_true rfl) hRX.1 rfl rfl hl.1 rfl (Nat.le_of_ble_eq_true rfl) dL_law_346 hcs) (fun r1 F1 hp H locs hZ => ?_)
  obtain ⟨hq1, hRX1, hfr1⟩ := hp
  have hRM1 := RM_fr hRM hfr1
  have h681 := (hfr1 68 (by omega)).trans h68
  refine lv_aload_n hx hb dL_law_349 rfl (lv_at hl 2 rfl) ?_
  refine lv_aload_n hx hb dL_law_350 rfl (lv_at hl 4 rfl) ?_
  refine lv_iload hx hb dL_law_351 (lv_at hl 0 rfl) ?_
  refine lv_iconst (v := 1) hx hb dL_law_353 (by decide) ?_
  refine lv_iadd hx hb dL_law_354 ?_
  refine zsld hw hZ.2.2 (nI_c (6 * t) 1 1 rfl) (by omega) hp1 dL_law_355 ?_
  refine lv_aload_n hx hb dL_law_356 rfl (lv_at hl 4 rfl) ?_
  refine lv_iload hx hb dL_law_357 (lv_at hl 0 rfl) ?_
  refine lv_iconst (v := 2) hx hb dL_law_359 (by decide) ?_
  refine lv_iadd hx hb dL_law_360 ?_
  refine zsld hw hZ.2.2 (nI_c (6 * t) 2 2 rfl) (by omega) hp2 dL_law_361 ?_
  obtain ⟨fs9, h56⟩ := RM_56 hRM1
  refine zgoi hZ hA (zrunV (As := [.int p1, .int p2]) (rest := [.int r1]) (k := 56) hC hZ (c_X7_run l D cy 69 ad F1 H.size th pic sc ps sh (Nat.le_of_ble_eq_true rfl) hRM1 hG p1 p2) mX7_run vX7_run kL_47 (zRjL rfl) (Nat.le_of_ble_eq_true rfl) h56 rfl rfl hl.1 rfl (Nat.le_of_ble_eq_true rfl) dL_law_362 hcs) (fun r2 F2 hp H locs hZ => ?_)
  obtain ⟨hq2, hRM2, hfm2⟩ := hp
  refine lv_icmp_eq (tgt := 1338) hx hb dL_law_365 (by decide) (fun _ => ?_) (fun h9 => absurd (hq1.trans hq2.symm) h9)
  refine W.widen (k := cells + 1) (n := slots + 6) (by omega) (by omega) ?_
  exact kk F2 H locs ls hZ ⟨_, _, _, _, _, _, _, _, _, _, RX_fr hRX1 (fun j hj => hfm2 j (Or.inl hj)), hRM2, gX_run hG p1 p2, (hfm2 68 (Or.inr (by omega))).trans h681⟩ hl

theorem dL_law_370 : decode cL_law 370 = .ok (.aload_n 1, 1) := by decide +kernel
theorem vX6_anew : zMi yX6_anew := ⟨gt_of 414 (by decide +kernel) rfl, gt_of 415 (by decide +kernel) rfl⟩
theorem kL_48 : zLk RL 48 yX6_anew := Or.inl (gt_of 413 (by decide +kernel) rfl)
theorem dL_law_371 : decode cL_law 371 = .ok (.invokevirtual 48, 3) := by decide +kernel
theorem dL_law_374 : decode cL_law 374 = .ok (.aload_n 2, 1) := by decide +kernel
theorem vX7_anew : zMi yX7_anew := ⟨gt_of 965 (by decide +kernel) rfl, gt_of 966 (by decide +kernel) rfl⟩
theorem kL_51 : zLk RL 51 yX7_anew := Or.inl (gt_of 964 (by decide +kernel) rfl)
theorem dL_law_375 : decode cL_law 375 = .ok (.invokevirtual 51, 3) := by decide +kernel
theorem dL_law_378 : decode cL_law 378 = .ok (.if_icmp .eq 960, 3) := by decide +kernel
set_option maxRecDepth 100000 in
set_option maxHeartbeats 4000000 in
theorem lk_6 {p : Program} {l : Launch} {e : Env} {s : State} {m : MethodId} {below : List Frame} {meth : Method} {c : Code} {Q : State → Prop} {b L : Nat} {xs : Nat → Int32} {D : va_G} {cy sa ad : Nat → Nat} (hw : zLaw p l s m meth c b L xs D cy sa) {t cells slots : Nat} (ht : 6 * t + 6 ≤ L) (hc : cells + 1 ≤ 600128 ∧ slots + 6 ≤ 7301098) {ls : Array Slot} {F : Nat → va_E} {H : Heap} {locs : List Loc} (hZ : zH D (AL s) s.heap 69 ad F H locs) (hJ : zJ ad cy F) (hl : lv_has ls 8 [(4, .int (nI (6 * t))), (3, .ref (ad 68)), (2, .ref (ad 56)), (1, .ref (ad 0)), (0, .ref b)])
    (kk : ∀ (F1 : Nat → va_E) (H1 : Heap) (locs1 : List Loc) (ls1 : Array Slot), zH D (AL s) s.heap 69 ad F1 H1 locs1 → zJ ad cy F1 → lv_has ls1 8 [(4, .int (nI (6 * t))), (3, .ref (ad 68)), (2, .ref (ad 56)), (1, .ref (ad 0)), (0, .ref b)] → W p l e room_1 s m #[Value.ref b] below meth c H1 locs1 (cells + 1) (slots + 6) Q (F0 m 1338 ls1 [])) :
    W p l e room_1 s m #[Value.ref b] below meth c H locs cells slots Q (F0 m 370 ls []) := by
  obtain ⟨hC, hX, hb9, hr, hlocks, hXs, hl9, hL⟩ := id hw
  obtain ⟨pic, sc, ps, sh, rd, dr, fa, mi, th, f, hRX, hRM, hG, h68⟩ := hJ
  have hx := hC.1.1
  have hb := hC.1.2.1
  have hA : ∀ q, s.heap.size ≤ q → AL s q := fun _ h => h
  have hcs : cells ≤ room_1.cells ∧ slots ≤ room_1.slots := ⟨by show cells ≤ 600128; omega, by show slots ≤ 7301098; omega⟩
  obtain ⟨p1, hp1⟩ : ∃ y, xs (6 * t + 1) = y := ⟨_, rfl⟩
  obtain ⟨p2, hp2⟩ : ∃ y, xs (6 * t + 2) = y := ⟨_, rfl⟩
  obtain ⟨p3, hp3⟩ : ∃ y, xs (6 * t + 3) = y := ⟨_, rfl⟩
  obtain ⟨p4, hp4⟩ : ∃ y, xs (6 * t + 4) = y := ⟨_, rfl⟩
  obtain ⟨p5, hp5⟩ : ∃ y, xs (6 * t + 5) = y := ⟨_, rfl⟩
  refine lv_aload_n hx hb dL_law_370 rfl (lv_at hl 3 rfl) ?_
  refine zgoi hZ hA (zrunV (As := []) (rest := []) (k := 0) hC hZ (c_X6_anew l D cy 69 ad F H.size pic sc ps sh rd dr fa mi (Nat.le_of_ble_eq_true rfl) hRX) mX6_anew vX6_anew kL_48 (zRjL rfl) (Nat.le_of_ble_eq_true rfl) hRX.1 rfl rfl hl.1 rfl (Nat.le_of_ble_eq_true rfl) dL_law_371 hcs) (fun r1 F1 hp H locs hZ => ?_)
  obtain ⟨hq1, hRX1, hfr1⟩ := hp
  have hRM1 := RM_fr hRM hfr1
  have h681 := (hfr1 68 (by omega)).trans h68
  refine lv_aload_n hx hb dL_law_374 rfl (lv_at hl 2 rfl) ?_
  obtain ⟨fs9, h56⟩ := RM_56 hRM1
  refine zgoi hZ hA (zrunV (As := []) (rest := [.int r1]) (k := 56) hC hZ (c_X7_anew l D cy 69 ad F1 H.size th pic sc ps sh (Nat.le_of_ble_eq_true rfl) hRM1 hG) mX7_anew vX7_anew kL_51 (zRjL rfl) (Nat.le_of_ble_eq_true rfl) h56 rfl rfl hl.1 rfl (Nat.le_of_ble_eq_true rfl) dL_law_375 hcs) (fun r2 F2 hp H locs hZ => ?_)
  obtain ⟨hq2, hRM2, hfm2⟩ := hp
  refine lv_icmp_eq (tgt := 1338) hx hb dL_law_378 (by decide) (fun _ => ?_) (fun h9 => absurd (hq1.trans hq2.symm) h9)
  refine W.widen (k := cells + 1) (n := slots + 6) (by omega) (by omega) ?_
  exact kk F2 H locs ls hZ ⟨_, _, _, _, _, _, _, _, _, _, RX_fr hRX1 (fun j hj => hfm2 j (Or.inl hj)), hRM2, gX_anew hG, (hfm2 68 (Or.inr (by omega))).trans h681⟩ hl

theorem dL_law_383 : decode cL_law 383 = .ok (.aload_n 1, 1) := by decide +kernel
theorem dL_law_384 : decode cL_law 384 = .ok (.aload_n 0, 1) := by decide +kernel
theorem dL_law_385 : decode cL_law 385 = .ok (.iload 4, 2) := by decide +kernel
theorem dL_law_387 : decode cL_law 387 = .ok (.iconst 1, 1) := by decide +kernel
theorem dL_law_388 : decode cL_law 388 = .ok (.iadd, 1) := by decide +kernel
theorem dL_law_389 : decode cL_law 389 = .ok (.iaload, 1) := by decide +kernel
theorem vX6_state : zMi yX6_state := ⟨gt_of 422 (by decide +kernel) rfl, gt_of 423 (by decide +kernel) rfl⟩
theorem kL_52 : zLk RL 52 yX6_state := Or.inl (gt_of 421 (by decide +kernel) rfl)
theorem dL_law_390 : decode cL_law 390 = .ok (.invokevirtual 52, 3) := by decide +kernel
theorem dL_law_393 : decode cL_law 393 = .ok (.aload_n 2, 1) := by decide +kernel
theorem dL_law_394 : decode cL_law 394 = .ok (.aload_n 0, 1) := by decide +kernel
theorem dL_law_395 : decode cL_law 395 = .ok (.iload 4, 2) := by decide +kernel
theorem dL_law_397 : decode cL_law 397 = .ok (.iconst 1, 1) := by decide +kernel
theorem dL_law_398 : decode cL_law 398 = .ok (.iadd, 1) := by decide +kernel
theorem dL_law_399 : decode cL_law 399 = .ok (.iaload, 1) := by decide +kernel
theorem vX7_state : zMi yX7_state := ⟨gt_of 973 (by decide +kernel) rfl, gt_of 974 (by decide +kernel) rfl⟩
theorem kL_55 : zLk RL 55 yX7_state := Or.inl (gt_of 972 (by decide +kernel) rfl)
theorem dL_law_400 : decode cL_law 400 = .ok (.invokevirtual 55, 3) := by decide +kernel
theorem dL_law_403 : decode cL_law 403 = .ok (.if_icmp .eq 935, 3) := by decide +kernel
set_option maxRecDepth 100000 in
set_option maxHeartbeats 4000000 in
theorem lk_7 {p : Program} {l : Launch} {e : Env} {s : State} {m : MethodId} {below : List Frame} {meth : Method} {c : Code} {Q : State → Prop} {b L : Nat} {xs : Nat → Int32} {D : va_G} {cy sa ad : Nat → Nat} (hw : zLaw p l s m meth c b L xs D cy sa) {t cells slots : Nat} (ht : 6 * t + 6 ≤ L) (hc : cells + 1 ≤ 600128 ∧ slots + 6 ≤ 7301098) {ls : Array Slot} {F : Nat → va_E} {H : Heap} {locs : List Loc} (hZ : zH D (AL s) s.heap 69 ad F H locs) (hJ : zJ ad cy F) (hl : lv_has ls 8 [(4, .int (nI (6 * t))), (3, .ref (ad 68)), (2, .ref (ad 56)), (1, .ref (ad 0)), (0, .ref b)])
    (kk : ∀ (F1 : Nat → va_E) (H1 : Heap) (locs1 : List Loc) (ls1 : Array Slot), zH D (AL s) s.heap 69 ad F1 H1 locs1 → zJ ad cy F1 → lv_has ls1 8 [(4, .int (nI (6 * t))), (3, .ref (ad 68)), (2, .ref (ad 56)), (1, .ref (ad 0)), (0, .ref b)] → W p l e room_1 s m #[Value.ref b] below meth c H1 locs1 (cells + 1) (slots + 6) Q (F0 m 1338 ls1 [])) :
    W p l e room_1 s m #[Value.ref b] below meth c H locs cells slots Q (F0 m 383 ls []) := by
  obtain ⟨hC, hX, hb9, hr, hlocks, hXs, hl9, hL⟩ := id hw
  obtain ⟨pic, sc, ps, sh, rd, dr, fa, mi, th, f, hRX, hRM, hG, h68⟩ := hJ
  have hx := hC.1.1
  have hb := hC.1.2.1
  have hA : ∀ q, s.heap.size ≤ q → AL s q := fun _ h => h
  have hcs : cells ≤ room_1.cells ∧ slots ≤ room_1.slots := ⟨by show cells ≤ 600128; omega, by show slots ≤ 7301098; omega⟩
  obtain ⟨p1, hp1⟩ : ∃ y, xs (6 * t + 1) = y := ⟨_, rfl⟩
  obtain ⟨p2, hp2⟩ : ∃ y, xs (6 * t + 2) = y := ⟨_, rfl⟩
  obtain ⟨p3, hp3⟩ : ∃ y, xs (6 * t + 3) = y := ⟨_, rfl⟩
  obtain ⟨p4, hp4⟩ : ∃ y, xs (6 * t + 4) = y := ⟨_, rfl⟩
  obtain ⟨p5, hp5⟩ : ∃ y, xs (6 * t + 5) = y := ⟨_, rfl⟩
  refine lv_aload_n hx hb dL_law_383 rfl (lv_at hl 3 rfl) ?_
  refine lv_aload_n hx hb dL_law_384 rfl (lv_at hl 4 rfl) ?_
  refine lv_iload hx hb dL_law_385 (lv_at hl 0 rfl) ?_
  refine lv_iconst (v := 1) hx hb dL_law_387 (by decide) ?_
  refine lv_iadd hx hb dL_law_388 ?_
  refine zsld hw hZ.2.2 (nI_c (6 * t) 1 1 rfl) (by omega) hp1 dL_law_389 ?_
  refine zgoi hZ hA (zrunV (As := [.int p1]) (rest := []) (k := 0) hC hZ (c_X6_state l D cy 69 ad F H.size pic sc ps sh rd dr fa mi (Nat.le_of_ble_eq_true rfl) hRX p1) mX6_state vX6_state kL_52 (zRjL rfl) (Nat.le_of_ble_eq_true rfl) hRX.1 rfl rfl hl.1 rfl (Nat.le_of_ble_eq_true rfl) dL_law_390 hcs) (fun r1 F1 hp H locs hZ => ?_)
  obtain ⟨hq1, hFF⟩ := hp
  have hRX1 : RX ad cy F1 pic sc ps sh rd dr fa mi := by rw [← hFF]; exact hRX
  have hfr1 : fr56 F F1 := by rw [← hFF]; exact fr56_rf
  have hRM1 := RM_fr hRM hfr1
  have h681 := (hfr1 68 (by omega)).trans h68
  refine lv_aload_n hx hb dL_law_393 rfl (lv_at hl 2 rfl) ?_
  refine lv_aload_n hx hb dL_law_394 rfl (lv_at hl 4 rfl) ?_
  refine lv_iload hx hb dL_law_395 (lv_at hl 0 rfl) ?_
  refine lv_iconst (v := 1) hx hb dL_law_397 (by decide) ?_
  refine lv_iadd hx hb dL_law_398 ?_
  refine zsld hw hZ.2.2 (nI_c (6 * t) 1 1 rfl) (by omega) hp1 dL_law_399 ?_
  obtain ⟨fs9, h56⟩ := RM_56 hRM1
  refine zgoi hZ hA (zrunV (As := [.int p1]) (rest := [.int r1]) (k := 56) hC hZ (c_X7_state l D cy 69 ad F1 H.size th pic sc ps sh (Nat.le_of_ble_eq_true rfl) hRM1 hG p1) mX7_state vX7_state kL_55 (zRjL rfl) (Nat.le_of_ble_eq_true rfl) h56 rfl rfl hl.1 rfl (Nat.le_of_ble_eq_true rfl) dL_law_400 hcs) (fun r2 F2 hp H locs hZ => ?_)
  obtain ⟨hq2, hRM2, hfm2⟩ := hp
  refine lv_icmp_eq (tgt := 1338) hx hb dL_law_403 (by decide) (fun _ => ?_) (fun h9 => absurd (hq1.trans hq2.symm) h9)
  refine W.widen (k := cells + 1) (n := slots + 6) (by omega) (by omega) ?_
  exact kk F2 H locs ls hZ ⟨_, _, _, _, _, _, _, _, _, _, RX_fr hRX1 (fun j hj => hfm2 j (Or.inl hj)), hRM2, hG, (hfm2 68 (Or.inr (by omega))).trans h681⟩ hl

theorem dL_law_408 : decode cL_law 408 = .ok (.aload_n 1, 1) := by decide +kernel
theorem dL_law_409 : decode cL_law 409 = .ok (.aload_n 0, 1) := by decide +kernel
theorem dL_law_410 : decode cL_law 410 = .ok (.iload 4, 2) := by decide +kernel
theorem dL_law_412 : decode cL_law 412 = .ok (.iconst 1, 1) := by decide +kernel
theorem dL_law_413 : decode cL_law 413 = .ok (.iadd, 1) := by decide +kernel
theorem dL_law_414 : decode cL_law 414 = .ok (.iaload, 1) := by decide +kernel
theorem dL_law_415 : decode cL_law 415 = .ok (.aload_n 0, 1) := by decide +kernel
theorem dL_law_416 : decode cL_law 416 = .ok (.iload 4, 2) := by decide +kernel
theorem dL_law_418 : decode cL_law 418 = .ok (.iconst 2, 1) := by decide +kernel
theorem dL_law_419 : decode cL_law 419 = .ok (.iadd, 1) := by decide +kernel
theorem dL_law_420 : decode cL_law 420 = .ok (.iaload, 1) := by decide +kernel
theorem vX6_rests : zMi yX6_rests := ⟨gt_of 430 (by decide +kernel) rfl, gt_of 431 (by decide +kernel) rfl⟩
theorem kL_56 : zLk RL 56 yX6_rests := Or.inl (gt_of 429 (by decide +kernel) rfl)
theorem dL_law_421 : decode cL_law 421 = .ok (.invokevirtual 56, 3) := by decide +kernel
theorem dL_law_424 : decode cL_law 424 = .ok (.aload_n 2, 1) := by decide +kernel
theorem dL_law_425 : decode cL_law 425 = .ok (.aload_n 0, 1) := by decide +kernel
theorem dL_law_426 : decode cL_law 426 = .ok (.iload 4, 2) := by decide +kernel
theorem dL_law_428 : decode cL_law 428 = .ok (.iconst 1, 1) := by decide +kernel
theorem dL_law_429 : decode cL_law 429 = .ok (.iadd, 1) := by decide +kernel
theorem dL_law_430 : decode cL_law 430 = .ok (.iaload, 1) := by decide +kernel
theorem dL_law_431 : decode cL_law 431 = .ok (.aload_n 0, 1) := by decide +kernel
theorem dL_law_432 : decode cL_law 432 = .ok (.iload 4, 2) := by decide +kernel
theorem dL_law_434 : decode cL_law 434 = .ok (.iconst 2, 1) := by decide +kernel
theorem dL_law_435 : decode cL_law 435 = .ok (.iadd, 1) := by decide +kernel
theorem dL_law_436 : decode cL_law 436 = .ok (.iaload, 1) := by decide +kernel
theorem vX7_rests : zMi yX7_rests := ⟨gt_of 977 (by decide +kernel) rfl, gt_of 978 (by decide +kernel) rfl⟩
theorem kL_59 : zLk RL 59 yX7_rests := Or.inl (gt_of 976 (by decide +kernel) rfl)
theorem dL_law_437 : decode cL_law 437 = .ok (.invokevirtual 59, 3) := by decide +kernel
theorem dL_law_440 : decode cL_law 440 = .ok (.if_icmp .eq 898, 3) := by decide +kernel
set_option maxRecDepth 100000 in
set_option maxHeartbeats 4000000 in
theorem lk_8 {p : Program} {l : Launch} {e : Env} {s : State} {m : MethodId} {below : List Frame} {meth : Method} {c : Code} {Q : State → Prop} {b L : Nat} {xs : Nat → Int32} {D : va_G} {cy sa ad : Nat → Nat} (hw : zLaw p l s m meth c b L xs D cy sa) {t cells slots : Nat} (ht : 6 * t + 6 ≤ L) (hc : cells + 1 ≤ 600128 ∧ slots + 6 ≤ 7301098) {ls : Array Slot} {F : Nat → va_E} {H : Heap} {locs : List Loc} (hZ : zH D (AL s) s.heap 69 ad F H locs) (hJ : zJ ad cy F) (hl : lv_has ls 8 [(4, .int (nI (6 * t))), (3, .ref (ad 68)), (2, .ref (ad 56)), (1, .ref (ad 0)), (0, .ref b)])
    (kk : ∀ (F1 : Nat → va_E) (H1 : Heap) (locs1 : List Loc) (ls1 : Array Slot), zH D (AL s) s.heap 69 ad F1 H1 locs1 → zJ ad cy F1 → lv_has ls1 8 [(4, .int (nI (6 * t))), (3, .ref (ad 68)), (2, .ref (ad 56)), (1, .ref (ad 0)), (0, .ref b)] → W p l e room_1 s m #[Value.ref b] below meth c H1 locs1 (cells + 1) (slots + 6) Q (F0 m 1338 ls1 [])) :
    W p l e room_1 s m #[Value.ref b] below meth c H locs cells slots Q (F0 m 408 ls []) := by
  obtain ⟨hC, hX, hb9, hr, hlocks, hXs, hl9, hL⟩ := id hw
  obtain ⟨pic, sc, ps, sh, rd, dr, fa, mi, th, f, hRX, hRM, hG, h68⟩ := hJ
  have hx := hC.1.1
  have hb := hC.1.2.1
  have hA : ∀ q, s.heap.size ≤ q → AL s q := fun _ h => h
  have hcs : cells ≤ room_1.cells ∧ slots ≤ room_1.slots := ⟨by show cells ≤ 600128; omega, by show slots ≤ 7301098; omega⟩
  obtain ⟨p1, hp1⟩ : ∃ y, xs (6 * t + 1) = y := ⟨_, rfl⟩
  obtain ⟨p2, hp2⟩ : ∃ y, xs (6 * t + 2) = y := ⟨_, rfl⟩
  obtain ⟨p3, hp3⟩ : ∃ y, xs (6 * t + 3) = y := ⟨_, rfl⟩
  obtain ⟨p4, hp4⟩ : ∃ y, xs (6 * t + 4) = y := ⟨_, rfl⟩
  obtain ⟨p5, hp5⟩ : ∃ y, xs (6 * t + 5) = y := ⟨_, rfl⟩
  refine lv_aload_n hx hb dL_law_408 rfl (lv_at hl 3 rfl) ?_
  refine lv_aload_n hx hb dL_law_409 rfl (lv_at hl 4 rfl) ?_
  refine lv_iload hx hb dL_law_410 (lv_at hl 0 rfl) ?_
  refine lv_iconst (v := 1) hx hb dL_law_412 (by decide) ?_
  refine lv_iadd hx hb dL_law_413 ?_
  refine zsld hw hZ.2.2 (nI_c (6 * t) 1 1 rfl) (by omega) hp1 dL_law_414 ?_
  refine lv_aload_n hx hb dL_law_415 rfl (lv_at hl 4 rfl) ?_
  refine lv_iload hx hb dL_law_416 (lv_at hl 0 rfl) ?_
  refine lv_iconst (v := 2) hx hb dL_law_418 (by decide) ?_
  refine lv_iadd hx hb dL_law_419 ?_
  refine zsld hw hZ.2.2 (nI_c (6 * t) 2 2 rfl) (by omega) hp2 dL_law_420 ?_
  refine zgoi hZ hA (zrunV (As := [.int p1, .int p2]) (rest := []) (k := 0) hC hZ (c_X6_rests l D cy 69 ad F H.size pic sc ps sh rd dr fa mi (Nat.le_of_ble_eq_true rfl) hRX hG p1 p2) mX6_rests vX6_rests kL_56 (zRjL rfl) (Nat.le_of_ble_eq_true rfl) hRX.1 rfl rfl hl.1 rfl (Nat.le_of_ble_eq_true rfl) dL_law_421 hcs) (fun r1 F1 hp H locs hZ => ?_)
  obtain ⟨hq1, hFF⟩ := hp
  have hRX1 : RX ad cy F1 pic sc ps sh rd dr fa mi := by rw [← hFF]; exact hRX
  have hfr1 : fr56 F F1 := by rw [← hFF]; exact fr56_rf
  have hRM1 := RM_fr hRM hfr1
  have h681 := (hfr1 68 (by omega)).trans h68
  refine lv_aload_n hx hb dL_law_424 rfl (lv_at hl 2 rfl) ?_
  refine lv_aload_n hx hb dL_law_425 rfl (lv_at hl 4 rfl) ?_
  refine lv_iload hx hb dL_law_426 (lv_at hl 0 rfl) ?_
  refine lv_iconst (v := 1) hx hb dL_law_428 (by decide) ?_
  refine lv_iadd hx hb dL_law_429 ?_
  refine zsld hw hZ.2.2 (nI_c (6 * t) 1 1 rfl) (by omega) hp1 dL_law_430 ?_
  refine lv_aload_n hx hb dL_law_431 rfl (lv_at hl 4 rfl) ?_
  refine lv_iload hx hb dL_law_432 (lv_at hl 0 rfl) ?_
  refine lv_iconst (v := 2) hx hb dL_law_434 (by decide) ?_
  refine lv_iadd hx hb dL_law_435 ?_
  refine zsld hw hZ.2.2 (nI_c (6 * t) 2 2 rfl) (by omega) hp2 dL_law_436 ?_
  obtain ⟨fs9, h56⟩ := RM_56 hRM1
  refine zgoi hZ hA (zrunV (As := [.int p1, .int p2]) (rest := [.int r1]) (k := 56) hC hZ (c_X7_rests l D cy 69 ad F1 H.size th pic sc ps sh (Nat.le_of_ble_eq_true rfl) hRM1 hG p1 p2) mX7_rests vX7_rests kL_59 (zRjL rfl) (Nat.le_of_ble_eq_true rfl) h56 rfl rfl hl.1 rfl (Nat.le_of_ble_eq_true rfl) dL_law_437 hcs) (fun r2 F2 hp H locs hZ => ?_)
  obtain ⟨hq2, hRM2, hfm2⟩ := hp
  refine lv_icmp_eq (tgt := 1338) hx hb dL_law_440 (by decide) (fun _ => ?_) (fun h9 => absurd (hq1.trans hq2.symm) h9)
  refine W.widen (k := cells + 1) (n := slots + 6) (by omega) (by omega) ?_
  exact kk F2 H locs ls hZ ⟨_, _, _, _, _, _, _, _, _, _, RX_fr hRX1 (fun j hj => hfm2 j (Or.inl hj)), hRM2, hG, (hfm2 68 (Or.inr (by omega))).trans h681⟩ hl

theorem dL_law_445 : decode cL_law 445 = .ok (.aload_n 1, 1) := by decide +kernel
theorem dL_law_446 : decode cL_law 446 = .ok (.aload_n 0, 1) := by decide +kernel
theorem dL_law_447 : decode cL_law 447 = .ok (.iload 4, 2) := by decide +kernel
theorem dL_law_449 : decode cL_law 449 = .ok (.iconst 1, 1) := by decide +kernel
theorem dL_law_450 : decode cL_law 450 = .ok (.iadd, 1) := by decide +kernel
theorem dL_law_451 : decode cL_law 451 = .ok (.iaload, 1) := by decide +kernel
theorem dL_law_452 : decode cL_law 452 = .ok (.aload_n 0, 1) := by decide +kernel
theorem dL_law_453 : decode cL_law 453 = .ok (.iload 4, 2) := by decide +kernel
theorem dL_law_455 : decode cL_law 455 = .ok (.iconst 2, 1) := by decide +kernel
theorem dL_law_456 : decode cL_law 456 = .ok (.iadd, 1) := by decide +kernel
theorem dL_law_457 : decode cL_law 457 = .ok (.iaload, 1) := by decide +kernel
theorem vX6_ahead : zMi yX6_ahead := ⟨gt_of 438 (by decide +kernel) rfl, gt_of 439 (by decide +kernel) rfl⟩
theorem kL_60 : zLk RL 60 yX6_ahead := Or.inl (gt_of 437 (by decide +kernel) rfl)
theorem dL_law_458 : decode cL_law 458 = .ok (.invokevirtual 60, 3) := by decide +kernel
theorem dL_law_461 : decode cL_law 461 = .ok (.aload_n 2, 1) := by decide +kernel
theorem dL_law_462 : decode cL_law 462 = .ok (.aload_n 0, 1) := by decide +kernel
theorem dL_law_463 : decode cL_law 463 = .ok (.iload 4, 2) := by decide +kernel
theorem dL_law_465 : decode cL_law 465 = .ok (.iconst 1, 1) := by decide +kernel
theorem dL_law_466 : decode cL_law 466 = .ok (.iadd, 1) := by decide +kernel
theorem dL_law_467 : decode cL_law 467 = .ok (.iaload, 1) := by decide +kernel
theorem dL_law_468 : decode cL_law 468 = .ok (.aload_n 0, 1) := by decide +kernel
theorem dL_law_469 : decode cL_law 469 = .ok (.iload 4, 2) := by decide +kernel
theorem dL_law_471 : decode cL_law 471 = .ok (.iconst 2, 1) := by decide +kernel
theorem dL_law_472 : decode cL_law 472 = .ok (.iadd, 1) := by decide +kernel
theorem dL_law_473 : decode cL_law 473 = .ok (.iaload, 1) := by decide +kernel
theorem vX7_ahead : zMi yX7_ahead := ⟨gt_of 984 (by decide +kernel) rfl, gt_of 985 (by decide +kernel) rfl⟩
theorem kL_63 : zLk RL 63 yX7_ahead := Or.inl (gt_of 983 (by decide +kernel) rfl)
theorem dL_law_474 : decode cL_law 474 = .ok (.invokevirtual 63, 3) := by decide +kernel
theorem dL_law_477 : decode cL_law 477 = .ok (.if_icmp .eq 861, 3) := by decide +kernel
set_option maxRecDepth 100000 in
set_option maxHeartbeats 4000000 in
theorem lk_9 {p : Program} {l : Launch} {e : Env} {s : State} {m : MethodId} {below : List Frame} {meth : Method} {c : Code} {Q : State → Prop} {b L : Nat} {xs : Nat → Int32} {D : va_G} {cy sa ad : Nat → Nat} (hw : zLaw p l s m meth c b L xs D cy sa) {t cells slots : Nat} (ht : 6 * t + 6 ≤ L) (hc : cells + 1 ≤ 600128 ∧ slots + 6 ≤ 7301098) {ls : Array Slot} {F : Nat → va_E} {H : Heap} {locs : List Loc} (hZ : zH D (AL s) s.heap 69 ad F H locs) (hJ : zJ ad cy F) (hl : lv_has ls 8 [(4, .int (nI (6 * t))), (3, .ref (ad 68)), (2, .ref (ad 56)), (1, .ref (ad 0)), (0, .ref b)])
    (kk : ∀ (F1 : Nat → va_E) (H1 : Heap) (locs1 : List Loc) (ls1 : Array Slot), zH D (AL s) s.heap 69 ad F1 H1 locs1 → zJ ad cy F1 → lv_has ls1 8 [(4, .int (nI (6 * t))), (3, .ref (ad 68)), (2, .ref (ad 56)), (1, .ref (ad 0)), (0, .ref b)] → W p l e room_1 s m #[Value.ref b] below meth c H1 locs1 (cells + 1) (slots + 6) Q (F0 m 1338 ls1 [])) :
    W p l e room_1 s m #[Value.ref b] below meth c H locs cells slots Q (F0 m 445 ls []) := by
  obtain ⟨hC, hX, hb9, hr, hlocks, hXs, hl9, hL⟩ := id hw
  obtain ⟨pic, sc, ps, sh, rd, dr, fa, mi, th, f, hRX, hRM, hG, h68⟩ := hJ
  have hx := hC.1.1
  have hb := hC.1.2.1
  have hA : ∀ q, s.heap.size ≤ q → AL s q := fun _ h => h
  have hcs : cells ≤ room_1.cells ∧ slots ≤ room_1.slots := ⟨by show cells ≤ 600128; omega, by show slots ≤ 7301098; omega⟩
  obtain ⟨p1, hp1⟩ : ∃ y, xs (6 * t + 1) = y := ⟨_, rfl⟩
  obtain ⟨p2, hp2⟩ : ∃ y, xs (6 * t + 2) = y := ⟨_, rfl⟩
  obtain ⟨p3, hp3⟩ : ∃ y, xs (6 * t + 3) = y := ⟨_, rfl⟩
  obtain ⟨p4, hp4⟩ : ∃ y, xs (6 * t + 4) = y := ⟨_, rfl⟩
  obtain ⟨p5, hp5⟩ : ∃ y, xs (6 * t + 5) = y := ⟨_, rfl⟩
  refine lv_aload_n hx hb dL_law_445 rfl (lv_at hl 3 rfl) ?_
  refine lv_aload_n hx hb dL_law_446 rfl (lv_at hl 4 rfl) ?_
  refine lv_iload hx hb dL_law_447 (lv_at hl 0 rfl) ?_
  refine lv_iconst (v := 1) hx hb dL_law_449 (by decide) ?_
  refine lv_iadd hx hb dL_law_450 ?_
  refine zsld hw hZ.2.2 (nI_c (6 * t) 1 1 rfl) (by omega) hp1 dL_law_451 ?_
  refine lv_aload_n hx hb dL_law_452 rfl (lv_at hl 4 rfl) ?_
  refine lv_iload hx hb dL_law_453 (lv_at hl 0 rfl) ?_
  refine lv_iconst (v := 2) hx hb dL_law_455 (by decide) ?_
  refine lv_iadd hx hb dL_law_456 ?_
  refine zsld hw hZ.2.2 (nI_c (6 * t) 2 2 rfl) (by omega) hp2 dL_law_457 ?_
  refine zgoi hZ hA (zrunV (As := [.int p1, .int p2]) (rest := []) (k := 0) hC hZ (c_X6_ahead l D cy 69 ad F H.size pic sc ps sh rd dr fa mi (Nat.le_of_ble_eq_true rfl) hRX hG p1 p2) mX6_ahead vX6_ahead kL_60 (zRjL rfl) (Nat.le_of_ble_eq_true rfl) hRX.1 rfl rfl hl.1 rfl (Nat.le_of_ble_eq_true rfl) dL_law_458 hcs) (fun r1 F1 hp H locs hZ => ?_)
  obtain ⟨hq1, hFF⟩ := hp
  have hRX1 : RX ad cy F1 pic sc ps sh rd dr fa mi := by rw [← hFF]; exact hRX
  have hfr1 : fr56 F F1 := by rw [← hFF]; exact fr56_rf
  have hRM1 := RM_fr hRM hfr1
  have h681 := (hfr1 68 (by omega)).trans h68
  refine lv_aload_n hx hb dL_law_461 rfl (lv_at hl 2 rfl) ?_
  refine lv_aload_n hx hb dL_law_462 rfl (lv_at hl 4 rfl) ?_
  refine lv_iload hx hb dL_law_463 (lv_at hl 0 rfl) ?_
  refine lv_iconst (v := 1) hx hb dL_law_465 (by decide) ?_
  refine lv_iadd hx hb dL_law_466 ?_
  refine zsld hw hZ.2.2 (nI_c (6 * t) 1 1 rfl) (by omega) hp1 dL_law_467 ?_
  refine lv_aload_n hx hb dL_law_468 rfl (lv_at hl 4 rfl) ?_
  refine lv_iload hx hb dL_law_469 (lv_at hl 0 rfl) ?_
  refine lv_iconst (v := 2) hx hb dL_law_471 (by decide) ?_
  refine lv_iadd hx hb dL_law_472 ?_
  refine zsld hw hZ.2.2 (nI_c (6 * t) 2 2 rfl) (by omega) hp2 dL_law_473 ?_
  obtain ⟨fs9, h56⟩ := RM_56 hRM1
  refine zgoi hZ hA (zrunV (As := [.int p1, .int p2]) (rest := [.int r1]) (k := 56) hC hZ (c_X7_ahead l D cy 69 ad F1 H.size th pic sc ps sh (Nat.le_of_ble_eq_true rfl) hRM1 hG p1 p2) mX7_ahead vX7_ahead kL_63 (zRjL rfl) (Nat.le_of_ble_eq_true rfl) h56 rfl rfl hl.1 rfl (Nat.le_of_ble_eq_true rfl) dL_law_474 hcs) (fun r2 F2 hp H locs hZ => ?_)
  obtain ⟨hq2, hRM2, hfm2⟩ := hp
  refine lv_icmp_eq (tgt := 1338) hx hb dL_law_477 (by decide) (fun _ => ?_) (fun h9 => absurd (hq1.trans hq2.symm) h9)
  refine W.widen (k := cells + 1) (n := slots + 6) (by omega) (by omega) ?_
  exact kk F2 H locs ls hZ ⟨_, _, _, _, _, _, _, _, _, _, RX_fr hRX1 (fun j hj => hfm2 j (Or.inl hj)), hRM2, hG, (hfm2 68 (Or.inr (by omega))).trans h681⟩ hl

theorem dL_law_482 : decode cL_law 482 = .ok (.aload_n 1, 1) := by decide +kernel
theorem dL_law_483 : decode cL_law 483 = .ok (.aload_n 0, 1) := by decide +kernel
theorem dL_law_484 : decode cL_law 484 = .ok (.iload 4, 2) := by decide +kernel
theorem dL_law_486 : decode cL_law 486 = .ok (.iconst 1, 1) := by decide +kernel
theorem dL_law_487 : decode cL_law 487 = .ok (.iadd, 1) := by decide +kernel
theorem dL_law_488 : decode cL_law 488 = .ok (.iaload, 1) := by decide +kernel
theorem dL_law_489 : decode cL_law 489 = .ok (.aload_n 0, 1) := by decide +kernel
theorem dL_law_490 : decode cL_law 490 = .ok (.iload 4, 2) := by decide +kernel
theorem dL_law_492 : decode cL_law 492 = .ok (.iconst 2, 1) := by decide +kernel
theorem dL_law_493 : decode cL_law 493 = .ok (.iadd, 1) := by decide +kernel
theorem dL_law_494 : decode cL_law 494 = .ok (.iaload, 1) := by decide +kernel
theorem dL_law_495 : decode cL_law 495 = .ok (.aload_n 0, 1) := by decide +kernel
theorem dL_law_496 : decode cL_law 496 = .ok (.iload 4, 2) := by decide +kernel
theorem dL_law_498 : decode cL_law 498 = .ok (.iconst 3, 1) := by decide +kernel
theorem dL_law_499 : decode cL_law 499 = .ok (.iadd, 1) := by decide +kernel
theorem dL_law_500 : decode cL_law 500 = .ok (.iaload, 1) := by decide +kernel
theorem vX6_parts : zMi yX6_parts := ⟨gt_of 451 (by decide +kernel) rfl, gt_of 452 (by decide +kernel) rfl⟩
theorem kL_64 : zLk RL 64 yX6_parts := Or.inl (gt_of 450 (by decide +kernel) rfl)
theorem dL_law_501 : decode cL_law 501 = .ok (.invokevirtual 64, 3) := by decide +kernel
theorem dL_law_504 : decode cL_law 504 = .ok (.aload_n 2, 1) := by decide +kernel
theorem dL_law_505 : decode cL_law 505 = .ok (.aload_n 0, 1) := by decide +kernel
theorem dL_law_506 : decode cL_law 506 = .ok (.iload 4, 2) := by decide +kernel
theorem dL_law_508 : decode cL_law 508 = .ok (.iconst 1, 1) := by decide +kernel
theorem dL_law_509 : decode cL_law 509 = .ok (.iadd, 1) := by decide +kernel
theorem dL_law_510 : decode cL_law 510 = .ok (.iaload, 1) := by decide +kernel
theorem dL_law_511 : decode cL_law 511 = .ok (.aload_n 0, 1) := by decide +kernel
theorem dL_law_512 : decode cL_law 512 = .ok (.iload 4, 2) := by decide +kernel
theorem dL_law_514 : decode cL_law 514 = .ok (.iconst 2, 1) := by decide +kernel
theorem dL_law_515 : decode cL_law 515 = .ok (.iadd, 1) := by decide +kernel
theorem dL_law_516 : decode cL_law 516 = .ok (.iaload, 1) := by decide +kernel
theorem dL_law_517 : decode cL_law 517 = .ok (.aload_n 0, 1) := by decide +kernel
theorem dL_law_518 : decode cL_law 518 = .ok (.iload 4, 2) := by decide +kernel
theorem dL_law_520 : decode cL_law 520 = .ok (.iconst 3, 1) := by decide +kernel
theorem dL_law_521 : decode cL_law 521 = .ok (.iadd, 1) := by decide +kernel
theorem dL_law_522 : decode cL_law 522 = .ok (.iaload, 1) := by decide +kernel
theorem vX7_parts : zMi yX7_parts := ⟨gt_of 996 (by decide +kernel) rfl, gt_of 997 (by decide +kernel) rfl⟩
theorem kL_68 : zLk RL 68 yX7_parts := Or.inl (gt_of 995 (by decide +kernel) rfl)
theorem dL_law_523 : decode cL_law 523 = .ok (.invokevirtual 68, 3) := by decide +kernel
theorem dL_law_526 : decode cL_law 526 = .ok (.if_icmp .eq 812, 3) := by decide +kernel
set_option maxRecDepth 100000 in
set_option maxHeartbeats 4000000 in
theorem lk_10 {p : Program} {l : Launch} {e : Env} {s : State} {m : MethodId} {below : List Frame} {meth : Method} {c : Code} {Q : State → Prop} {b L : Nat} {xs : Nat → Int32} {D : va_G} {cy sa ad : Nat → Nat} (hw : zLaw p l s m meth c b L xs D cy sa) {t cells slots : Nat} (ht : 6 * t + 6 ≤ L) (hc : cells + 1 ≤ 600128 ∧ slots + 6 ≤ 7301098) {ls : Array Slot} {F : Nat → va_E} {H : Heap} {locs : List Loc} (hZ : zH D (AL s) s.heap 69 ad F H locs) (hJ : zJ ad cy F) (hl : lv_has ls 8 [(4, .int (nI (6 * t))), (3, .ref (ad 68)), (2, .ref (ad 56)), (1, .ref (ad 0)), (0, .ref b)])
    (kk : ∀ (F1 : Nat → va_E) (H1 : Heap) (locs1 : List Loc) (ls1 : Array Slot), zH D (AL s) s.heap 69 ad F1 H1 locs1 → zJ ad cy F1 → lv_has ls1 8 [(4, .int (nI (6 * t))), (3, .ref (ad 68)), (2, .ref (ad 56)), (1, .ref (ad 0)), (0, .ref b)] → W p l e room_1 s m #[Value.ref b] below meth c H1 locs1 (cells + 1) (slots + 6) Q (F0 m 1338 ls1 [])) :
    W p l e room_1 s m #[Value.ref b] below meth c H locs cells slots Q (F0 m 482 ls []) := by
  obtain ⟨hC, hX, hb9, hr, hlocks, hXs, hl9, hL⟩ := id hw
  obtain ⟨pic, sc, ps, sh, rd, dr, fa, mi, th, f, hRX, hRM, hG, h68⟩ := hJ
  have hx := hC.1.1
  have hb := hC.1.2.1
  have hA : ∀ q, s.heap.size ≤ q → AL s q := fun _ h => h
  have hcs : cells ≤ room_1.cells ∧ slots ≤ room_1.slots := ⟨by show cells ≤ 600128; omega, by show slots ≤ 7301098; omega⟩
  obtain ⟨p1, hp1⟩ : ∃ y, xs (6 * t + 1) = y := ⟨_, rfl⟩
  obtain ⟨p2, hp2⟩ : ∃ y, xs (6 * t + 2) = y := ⟨_, rfl⟩
  obtain ⟨p3, hp3⟩ : ∃ y, xs (6 * t + 3) = y := ⟨_, rfl⟩
  obtain ⟨p4, hp4⟩ : ∃ y, xs (6 * t + 4) = y := ⟨_, rfl⟩
  obtain ⟨p5, hp5⟩ : ∃ y, xs (6 * t + 5) = y := ⟨_, rfl⟩
  refine lv_aload_n hx hb dL_law_482 rfl (lv_at hl 3 rfl) ?_
  refine lv_aload_n hx hb dL_law_483 rfl (lv_at hl 4 rfl) ?_
  refine lv_iload hx hb dL_law_484 (lv_at hl 0 rfl) ?_
  refine lv_iconst (v := 1) hx hb dL_law_486 (by decide) ?_
  refine lv_iadd hx hb dL_law_487 ?_
  refine zsld hw hZ.2.2 (nI_c (6 * t) 1 1 rfl) (by omega) hp1 dL_law_488 ?_
  refine lv_aload_n hx hb dL_law_489 rfl (lv_at hl 4 rfl) ?_
  refine lv_iload hx hb dL_law_490 (lv_at hl 0 rfl) ?_
  refine lv_iconst (v := 2) hx hb dL_law_492 (by decide) ?_
  refine lv_iadd hx hb dL_law_493 ?_
  refine zsld hw hZ.2.2 (nI_c (6 * t) 2 2 rfl) (by omega) hp2 dL_law_494 ?_
  refine lv_aload_n hx hb dL_law_495 rfl (lv_at hl 4 rfl) ?_
  refine lv_iload hx hb dL_law_496 (lv_at hl 0 rfl) ?_
  refine lv_iconst (v := 3) hx hb dL_law_498 (by decide) ?_
  refine lv_iadd hx hb dL_law_499 ?_
  refine zsld hw hZ.2.2 (nI_c (6 * t) 3 3 rfl) (by omega) hp3 dL_law_500 ?_
  refine zgoi hZ hA (zrunV (As := [.int p1, .int p2, .int p3]) (rest := []) (k := 0) hC hZ (c_X6_parts l D cy 69 ad F H.size pic sc ps sh rd dr fa mi (Nat.le_of_ble_eq_true rfl) hRX hG p1 p2 p3) mX6_parts vX6_parts kL_64 (zRjL rfl) (Nat.le_of_ble_eq_true rfl) hRX.1 rfl rfl hl.1 rfl (Nat.le_of_ble_eq_true rfl) dL_law_501 hcs) (fun r1 F1 hp H locs hZ => ?_)
  obtain ⟨hq1, hRX1, hfr1⟩ := hp
  have hRM1 := RM_fr hRM hfr1
  have h681 := (hfr1 68 (by omega)).trans h68
  refine lv_aload_n hx hb dL_law_504 rfl (lv_at hl 2 rfl) ?_
  refine lv_aload_n hx hb dL_law_505 rfl (lv_at hl 4 rfl) ?_
  refine lv_iload hx hb dL_law_506 (lv_at hl 0 rfl) ?_
  refine lv_iconst (v := 1) hx hb dL_law_508 (by decide) ?_
  refine lv_iadd hx hb dL_law_509 ?_
  refine zsld hw hZ.2.2 (nI_c (6 * t) 1 1 rfl) (by omega) hp1 dL_law_510 ?_
  refine lv_aload_n hx hb dL_law_511 rfl (lv_at hl 4 rfl) ?_
  refine lv_iload hx hb dL_law_512 (lv_at hl 0 rfl) ?_
  refine lv_iconst (v := 2) hx hb dL_law_514 (by decide) ?_
  refine lv_iadd hx hb dL_law_515 ?_
  refine zsld hw hZ.2.2 (nI_c (6 * t) 2 2 rfl) (by omega) hp2 dL_law_516 ?_
  refine lv_aload_n hx hb dL_law_517 rfl (lv_at hl 4 rfl) ?_
  refine lv_iload hx hb dL_law_518 (lv_at hl 0 rfl) ?_
  refine lv_iconst (v := 3) hx hb dL_law_520 (by decide) ?_
  refine lv_iadd hx hb dL_law_521 ?_
  refine zsld hw hZ.2.2 (nI_c (6 * t) 3 3 rfl) (by omega) hp3 dL_law_522 ?_
  obtain ⟨fs9, h56⟩ := RM_56 hRM1
  refine zgoi hZ hA (zrunV (As := [.int p1, .int p2, .int p3]) (rest := [.int r1]) (k := 56) hC hZ (c_X7_parts l D cy 69 ad F1 H.size th pic sc ps sh (Nat.le_of_ble_eq_true rfl) hRM1 hG p1 p2 p3) mX7_parts vX7_parts kL_68 (zRjL rfl) (Nat.le_of_ble_eq_true rfl) h56 rfl rfl hl.1 rfl (Nat.le_of_ble_eq_true rfl) dL_law_523 hcs) (fun r2 F2 hp H locs hZ => ?_)
  obtain ⟨hq2, hRM2, hfm2⟩ := hp
  refine lv_icmp_eq (tgt := 1338) hx hb dL_law_526 (by decide) (fun _ => ?_) (fun h9 => absurd (hq1.trans hq2.symm) h9)
  refine W.widen (k := cells + 1) (n := slots + 6) (by omega) (by omega) ?_
  exact kk F2 H locs ls hZ ⟨_, _, _, _, _, _, _, _, _, _, RX_fr hRX1 (fun j hj => hfm2 j (Or.inl hj)), hRM2, hG, (hfm2 68 (Or.inr (by omega))).trans h681⟩ hl

theorem dL_law_531 : decode cL_law 531 = .ok (.aload_n 1, 1) := by decide +kernel
theorem dL_law_532 : decode cL_law 532 = .ok (.aload_n 0, 1) := by decide +kernel
theorem dL_law_533 : decode cL_law 533 = .ok (.iload 4, 2) := by decide +kernel
theorem dL_law_535 : decode cL_law 535 = .ok (.iconst 1, 1) := by decide +kernel
theorem dL_law_536 : decode cL_law 536 = .ok (.iadd, 1) := by decide +kernel
theorem dL_law_537 : decode cL_law 537 = .ok (.iaload, 1) := by decide +kernel
theorem dL_law_538 : decode cL_law 538 = .ok (.aload_n 0, 1) := by decide +kernel
theorem dL_law_539 : decode cL_law 539 = .ok (.iload 4, 2) := by decide +kernel
theorem dL_law_541 : decode cL_law 541 = .ok (.iconst 2, 1) := by decide +kernel
theorem dL_law_542 : decode cL_law 542 = .ok (.iadd, 1) := by decide +kernel
theorem dL_law_543 : decode cL_law 543 = .ok (.iaload, 1) := by decide +kernel
theorem dL_law_544 : decode cL_law 544 = .ok (.aload_n 0, 1) := by decide +kernel
theorem dL_law_545 : decode cL_law 545 = .ok (.iload 4, 2) := by decide +kernel
theorem dL_law_547 : decode cL_law 547 = .ok (.iconst 3, 1) := by decide +kernel
theorem dL_law_548 : decode cL_law 548 = .ok (.iadd, 1) := by decide +kernel
theorem dL_law_549 : decode cL_law 549 = .ok (.iaload, 1) := by decide +kernel
theorem vX6_films : zMi yX6_films := ⟨gt_of 465 (by decide +kernel) rfl, gt_of 466 (by decide +kernel) rfl⟩
theorem kL_69 : zLk RL 69 yX6_films := Or.inl (gt_of 464 (by decide +kernel) rfl)
theorem dL_law_550 : decode cL_law 550 = .ok (.invokevirtual 69, 3) := by decide +kernel
theorem dL_law_553 : decode cL_law 553 = .ok (.aload_n 2, 1) := by decide +kernel
theorem dL_law_554 : decode cL_law 554 = .ok (.aload_n 0, 1) := by decide +kernel
theorem dL_law_555 : decode cL_law 555 = .ok (.iload 4, 2) := by decide +kernel
theorem dL_law_557 : decode cL_law 557 = .ok (.iconst 1, 1) := by decide +kernel
theorem dL_law_558 : decode cL_law 558 = .ok (.iadd, 1) := by decide +kernel
theorem dL_law_559 : decode cL_law 559 = .ok (.iaload, 1) := by decide +kernel
theorem dL_law_560 : decode cL_law 560 = .ok (.aload_n 0, 1) := by decide +kernel
theorem dL_law_561 : decode cL_law 561 = .ok (.iload 4, 2) := by decide +kernel
theorem dL_law_563 : decode cL_law 563 = .ok (.iconst 2, 1) := by decide +kernel
theorem dL_law_564 : decode cL_law 564 = .ok (.iadd, 1) := by decide +kernel
theorem dL_law_565 : decode cL_law 565 = .ok (.iaload, 1) := by decide +kernel
theorem dL_law_566 : decode cL_law 566 = .ok (.aload_n 0, 1) := by decide +kernel
theorem dL_law_567 : decode cL_law 567 = .ok (.iload 4, 2) := by decide +kernel
theorem dL_law_569 : decode cL_law 569 = .ok (.iconst 3, 1) := by decide +kernel
theorem dL_law_570 : decode cL_law 570 = .ok (.iadd, 1) := by decide +kernel
theorem dL_law_571 : decode cL_law 571 = .ok (.iaload, 1) := by decide +kernel
theorem vX7_films : zMi yX7_films := ⟨gt_of 1004 (by decide +kernel) rfl, gt_of 1005 (by decide +kernel) rfl⟩
theorem kL_72 : zLk RL 72 yX7_films := Or.inl (gt_of 1003 (by decide +kernel) rfl)
theorem dL_law_572 : decode cL_law 572 = .ok (.invokevirtual 72, 3) := by decide +kernel
theorem dL_law_575 : decode cL_law 575 = .ok (.if_icmp .eq 763, 3) := by decide +kernel
set_option maxRecDepth 100000 in
set_option maxHeartbeats 4000000 in
theorem lk_11 {p : Program} {l : Launch} {e : Env} {s : State} {m : MethodId} {below : List Frame} {meth : Method} {c : Code} {Q : State → Prop} {b L : Nat} {xs : Nat → Int32} {D : va_G} {cy sa ad : Nat → Nat} (hw : zLaw p l s m meth c b L xs D cy sa) {t cells slots : Nat} (ht : 6 * t + 6 ≤ L) (hc : cells + 1 ≤ 600128 ∧ slots + 6 ≤ 7301098) {ls : Array Slot} {F : Nat → va_E} {H : Heap} {locs : List Loc} (hZ : zH D (AL s) s.heap 69 ad F H locs) (hJ : zJ ad cy F) (hl : lv_has ls 8 [(4, .int (nI (6 * t))), (3, .ref (ad 68)), (2, .ref (ad 56)), (1, .ref (ad 0)), (0, .ref b)])
    (kk : ∀ (F1 : Nat → va_E) (H1 : Heap) (locs1 : List Loc) (ls1 : Array Slot), zH D (AL s) s.heap 69 ad F1 H1 locs1 → zJ ad cy F1 → lv_has ls1 8 [(4, .int (nI (6 * t))), (3, .ref (ad 68)), (2, .ref (ad 56)), (1, .ref (ad 0)), (0, .ref b)] → W p l e room_1 s m #[Value.ref b] below meth c H1 locs1 (cells + 1) (slots + 6) Q (F0 m 1338 ls1 [])) :
    W p l e room_1 s m #[Value.ref b] below meth c H locs cells slots Q (F0 m 531 ls []) := by
  obtain ⟨hC, hX, hb9, hr, hlocks, hXs, hl9, hL⟩ := id hw
  obtain ⟨pic, sc, ps, sh, rd, dr, fa, mi, th, f, hRX, hRM, hG, h68⟩ := hJ
  have hx := hC.1.1
  have hb := hC.1.2.1
  have hA : ∀ q, s.heap.size ≤ q → AL s q := fun _ h => h
  have hcs : cells ≤ room_1.cells ∧ slots ≤ room_1.slots := ⟨by show cells ≤ 600128; omega, by show slots ≤ 7301098; omega⟩
  obtain ⟨p1, hp1⟩ : ∃ y, xs (6 * t + 1) = y := ⟨_, rfl⟩
  obtain ⟨p2, hp2⟩ : ∃ y, xs (6 * t + 2) = y := ⟨_, rfl⟩
  obtain ⟨p3, hp3⟩ : ∃ y, xs (6 * t + 3) = y := ⟨_, rfl⟩
  obtain ⟨p4, hp4⟩ : ∃ y, xs (6 * t + 4) = y := ⟨_, rfl⟩
  obtain ⟨p5, hp5⟩ : ∃ y, xs (6 * t + 5) = y := ⟨_, rfl⟩
  refine lv_aload_n hx hb dL_law_531 rfl (lv_at hl 3 rfl) ?_
  refine lv_aload_n hx hb dL_law_532 rfl (lv_at hl 4 rfl) ?_
  refine lv_iload hx hb dL_law_533 (lv_at hl 0 rfl) ?_
  refine lv_iconst (v := 1) hx hb dL_law_535 (by decide) ?_
  refine lv_iadd hx hb dL_law_536 ?_
  refine zsld hw hZ.2.2 (nI_c (6 * t) 1 1 rfl) (by omega) hp1 dL_law_537 ?_
  refine lv_aload_n hx hb dL_law_538 rfl (lv_at hl 4 rfl) ?_
  refine lv_iload hx hb dL_law_539 (lv_at hl 0 rfl) ?_
  refine lv_iconst (v := 2) hx hb dL_law_541 (by decide) ?_
  refine lv_iadd hx hb dL_law_542 ?_
  refine zsld hw hZ.2.2 (nI_c (6 * t) 2 2 rfl) (by omega) hp2 dL_law_543 ?_
  refine lv_aload_n hx hb dL_law_544 rfl (lv_at hl 4 rfl) ?_
  refine lv_iload hx hb dL_law_545 (lv_at hl 0 rfl) ?_
  refine lv_iconst (v := 3) hx hb dL_law_547 (by decide) ?_
  refine lv_iadd hx hb dL_law_548 ?_
  refine zsld hw hZ.2.2 (nI_c (6 * t) 3 3 rfl) (by omega) hp3 dL_law_549 ?_
  refine zgoi hZ hA (zrunV (As := [.int p1, .int p2, .int p3]) (rest := []) (k := 0) hC hZ (c_X6_films l D cy 69 ad F H.size pic sc ps sh rd dr fa mi (Nat.le_of_ble_eq_true rfl) hRX hG p1 p2 p3) mX6_films vX6_films kL_69 (zRjL rfl) (Nat.le_of_ble_eq_true rfl) hRX.1 rfl rfl hl.1 rfl (Nat.le_of_ble_eq_true rfl) dL_law_550 hcs) (fun r1 F1 hp H locs hZ => ?_)
  obtain ⟨hq1, v1, hRX1, hfr1⟩ := hp
  have hRM1 := RM_fr hRM hfr1
  have h681 := (hfr1 68 (by omega)).trans h68
  refine lv_aload_n hx hb dL_law_553 rfl (lv_at hl 2 rfl) ?_
  refine lv_aload_n hx hb dL_law_554 rfl (lv_at hl 4 rfl) ?_
  refine lv_iload hx hb dL_law_555 (lv_at hl 0 rfl) ?_
  refine lv_iconst (v := 1) hx hb dL_law_557 (by decide) ?_
  refine lv_iadd hx hb dL_law_558 ?_
  refine zsld hw hZ.2.2 (nI_c (6 * t) 1 1 rfl) (by omega) hp1 dL_law_559 ?_
  refine lv_aload_n hx hb dL_law_560 rfl (lv_at hl 4 rfl) ?_
  refine lv_iload hx hb dL_law_561 (lv_at hl 0 rfl) ?_
  refine lv_iconst (v := 2) hx hb dL_law_563 (by decide) ?_
  refine lv_iadd hx hb dL_law_564 ?_
  refine zsld hw hZ.2.2 (nI_c (6 * t) 2 2 rfl) (by omega) hp2 dL_law_565 ?_
  refine lv_aload_n hx hb dL_law_566 rfl (lv_at hl 4 rfl) ?_
  refine lv_iload hx hb dL_law_567 (lv_at hl 0 rfl) ?_
  refine lv_iconst (v := 3) hx hb dL_law_569 (by decide) ?_
  refine lv_iadd hx hb dL_law_570 ?_
  refine zsld hw hZ.2.2 (nI_c (6 * t) 3 3 rfl) (by omega) hp3 dL_law_571 ?_
  obtain ⟨fs9, h56⟩ := RM_56 hRM1
  refine zgoi hZ hA (zrunV (As := [.int p1, .int p2, .int p3]) (rest := [.int r1]) (k := 56) hC hZ (c_X7_films l D cy 69 ad F1 H.size th pic sc ps sh (Nat.le_of_ble_eq_true rfl) hRM1 hG p1 p2 p3) mX7_films vX7_films kL_72 (zRjL rfl) (Nat.le_of_ble_eq_true rfl) h56 rfl rfl hl.1 rfl (Nat.le_of_ble_eq_true rfl) dL_law_572 hcs) (fun r2 F2 hp H locs hZ => ?_)
  obtain ⟨hq2, hRM2, hfm2⟩ := hp
  refine lv_icmp_eq (tgt := 1338) hx hb dL_law_575 (by decide) (fun _ => ?_) (fun h9 => absurd (hq1.trans hq2.symm) h9)
  refine W.widen (k := cells + 1) (n := slots + 6) (by omega) (by omega) ?_
  exact kk F2 H locs ls hZ ⟨_, _, _, _, _, _, _, _, _, _, RX_fr hRX1 (fun j hj => hfm2 j (Or.inl hj)), hRM2, hG, (hfm2 68 (Or.inr (by omega))).trans h681⟩ hl

theorem dL_law_580 : decode cL_law 580 = .ok (.aload_n 1, 1) := by decide +kernel
theorem dL_law_581 : decode cL_law 581 = .ok (.aload_n 0, 1) := by decide +kernel
theorem dL_law_582 : decode cL_law 582 = .ok (.iload 4, 2) := by decide +kernel
theorem dL_law_584 : decode cL_law 584 = .ok (.iconst 1, 1) := by decide +kernel
theorem dL_law_585 : decode cL_law 585 = .ok (.iadd, 1) := by decide +kernel
theorem dL_law_586 : decode cL_law 586 = .ok (.iaload, 1) := by decide +kernel
theorem dL_law_587 : decode cL_law 587 = .ok (.aload_n 0, 1) := by decide +kernel
theorem dL_law_588 : decode cL_law 588 = .ok (.iload 4, 2) := by decide +kernel
theorem dL_law_590 : decode cL_law 590 = .ok (.iconst 2, 1) := by decide +kernel
theorem dL_law_591 : decode cL_law 591 = .ok (.iadd, 1) := by decide +kernel
theorem dL_law_592 : decode cL_law 592 = .ok (.iaload, 1) := by decide +kernel
theorem dL_law_593 : decode cL_law 593 = .ok (.aload_n 0, 1) := by decide +kernel
theorem dL_law_594 : decode cL_law 594 = .ok (.iload 4, 2) := by decide +kernel
theorem dL_law_596 : decode cL_law 596 = .ok (.iconst 3, 1) := by decide +kernel
theorem dL_law_597 : decode cL_law 597 = .ok (.iadd, 1) := by decide +kernel
theorem dL_law_598 : decode cL_law 598 = .ok (.iaload, 1) := by decide +kernel
theorem dL_law_599 : decode cL_law 599 = .ok (.aload_n 0, 1) := by decide +kernel
theorem dL_law_600 : decode cL_law 600 = .ok (.iload 4, 2) := by decide +kernel
theorem dL_law_602 : decode cL_law 602 = .ok (.iconst 4, 1) := by decide +kernel
theorem dL_law_603 : decode cL_law 603 = .ok (.iadd, 1) := by decide +kernel
theorem dL_law_604 : decode cL_law 604 = .ok (.iaload, 1) := by decide +kernel
theorem vX6_numbers : zMi yX6_numbers := ⟨gt_of 494 (by decide +kernel) rfl, gt_of 495 (by decide +kernel) rfl⟩
theorem kL_73 : zLk RL 73 yX6_numbers := Or.inl (gt_of 493 (by decide +kernel) rfl)
theorem dL_law_605 : decode cL_law 605 = .ok (.invokevirtual 73, 3) := by decide +kernel
theorem dL_law_608 : decode cL_law 608 = .ok (.aload_n 2, 1) := by decide +kernel
theorem dL_law_609 : decode cL_law 609 = .ok (.aload_n 0, 1) := by decide +kernel
theorem dL_law_610 : decode cL_law 610 = .ok (.iload 4, 2) := by decide +kernel
theorem dL_law_612 : decode cL_law 612 = .ok (.iconst 1, 1) := by decide +kernel
theorem dL_law_613 : decode cL_law 613 = .ok (.iadd, 1) := by decide +kernel
theorem dL_law_614 : decode cL_law 614 = .ok (.iaload, 1) := by decide +kernel
theorem dL_law_615 : decode cL_law 615 = .ok (.aload_n 0, 1) := by decide +kernel
theorem dL_law_616 : decode cL_law 616 = .ok (.iload 4, 2) := by decide +kernel
theorem dL_law_618 : decode cL_law 618 = .ok (.iconst 2, 1) := by decide +kernel
theorem dL_law_619 : decode cL_law 619 = .ok (.iadd, 1) := by decide +kernel
theorem dL_law_620 : decode cL_law 620 = .ok (.iaload, 1) := by decide +kernel
theorem dL_law_621 : decode cL_law 621 = .ok (.aload_n 0, 1) := by decide +kernel
theorem dL_law_622 : decode cL_law 622 = .ok (.iload 4, 2) := by decide +kernel
theorem dL_law_624 : decode cL_law 624 = .ok (.iconst 3, 1) := by decide +kernel
theorem dL_law_625 : decode cL_law 625 = .ok (.iadd, 1) := by decide +kernel
theorem dL_law_626 : decode cL_law 626 = .ok (.iaload, 1) := by decide +kernel
theorem dL_law_627 : decode cL_law 627 = .ok (.aload_n 0, 1) := by decide +kernel
theorem dL_law_628 : decode cL_law 628 = .ok (.iload 4, 2) := by decide +kernel
theorem dL_law_630 : decode cL_law 630 = .ok (.iconst 4, 1) := by decide +kernel
theorem dL_law_631 : decode cL_law 631 = .ok (.iadd, 1) := by decide +kernel
theorem dL_law_632 : decode cL_law 632 = .ok (.iaload, 1) := by decide +kernel
theorem vX7_numbers : zMi yX7_numbers := ⟨gt_of 1025 (by decide +kernel) rfl, gt_of 1026 (by decide +kernel) rfl⟩
theorem kL_77 : zLk RL 77 yX7_numbers := Or.inl (gt_of 1024 (by decide +kernel) rfl)
theorem dL_law_633 : decode cL_law 633 = .ok (.invokevirtual 77, 3) := by decide +kernel
theorem dL_law_636 : decode cL_law 636 = .ok (.if_icmp .eq 702, 3) := by decide +kernel
set_option maxRecDepth 100000 in
set_option maxHeartbeats 4000000 in
theorem lk_12 {p : Program} {l : Launch} {e : Env} {s : State} {m : MethodId} {below : List Frame} {meth : Method} {c : Code} {Q : State → Prop} {b L : Nat} {xs : Nat → Int32} {D : va_G} {cy sa ad : Nat → Nat} (hw : zLaw p l s m meth c b L xs D cy sa) {t cells slots : Nat} (ht : 6 * t + 6 ≤ L) (hc : cells + 1 ≤ 600128 ∧ slots + 6 ≤ 7301098) {ls : Array Slot} {F : Nat → va_E} {H : Heap} {locs : List Loc} (hZ : zH D (AL s) s.heap 69 ad F H locs) (hJ : zJ ad cy F) (hl : lv_has ls 8 [(4, .int (nI (6 * t))), (3, .ref (ad 68)), (2, .ref (ad 56)), (1, .ref (ad 0)), (0, .ref b)])
    (kk : ∀ (F1 : Nat → va_E) (H1 : Heap) (locs1 : List Loc) (ls1 : Array Slot), zH D (AL s) s.heap 69 ad F1 H1 locs1 → zJ ad cy F1 → lv_has ls1 8 [(4, .int (nI (6 * t))), (3, .ref (ad 68)), (2, .ref (ad 56)), (1, .ref (ad 0)), (0, .ref b)] → W p l e room_1 s m #[Value.ref b] below meth c H1 locs1 (cells + 1) (slots + 6) Q (F0 m 1338 ls1 [])) :
    W p l e room_1 s m #[Value.ref b] below meth c H locs cells slots Q (F0 m 580 ls []) := by
  obtain ⟨hC, hX, hb9, hr, hlocks, hXs, hl9, hL⟩ := id hw
  obtain ⟨pic, sc, ps, sh, rd, dr, fa, mi, th, f, hRX, hRM, hG, h68⟩ := hJ
  have hx := hC.1.1
  have hb := hC.1.2.1
  have hA : ∀ q, s.heap.size ≤ q → AL s q := fun _ h => h
  have hcs : cells ≤ room_1.cells ∧ slots ≤ room_1.slots := ⟨by show cells ≤ 600128; omega, by show slots ≤ 7301098; omega⟩
  obtain ⟨p1, hp1⟩ : ∃ y, xs (6 * t + 1) = y := ⟨_, rfl⟩
  obtain ⟨p2, hp2⟩ : ∃ y, xs (6 * t + 2) = y := ⟨_, rfl⟩
  obtain ⟨p3, hp3⟩ : ∃ y, xs (6 * t + 3) = y := ⟨_, rfl⟩
  obtain ⟨p4, hp4⟩ : ∃ y, xs (6 * t + 4) = y := ⟨_, rfl⟩
  obtain ⟨p5, hp5⟩ : ∃ y, xs (6 * t + 5) = y := ⟨_, rfl⟩
  refine lv_aload_n hx hb dL_law_580 rfl (lv_at hl 3 rfl) ?_
  refine lv_aload_n hx hb dL_law_581 rfl (lv_at hl 4 rfl) ?_
  refine lv_iload hx hb dL_law_582 (lv_at hl 0 rfl) ?_
  refine lv_iconst (v := 1) hx hb dL_law_584 (by decide) ?_
  refine lv_iadd hx hb dL_law_585 ?_
  refine zsld hw hZ.2.2 (nI_c (6 * t) 1 1 rfl) (by omega) hp1 dL_law_586 ?_
  refine lv_aload_n hx hb dL_law_587 rfl (lv_at hl 4 rfl) ?_
  refine lv_iload hx hb dL_law_588 (lv_at hl 0 rfl) ?_
  refine lv_iconst (v := 2) hx hb dL_law_590 (by decide) ?_
  refine lv_iadd hx hb dL_law_591 ?_
  refine zsld hw hZ.2.2 (nI_c (6 * t) 2 2 rfl) (by omega) hp2 dL_law_592 ?_
  refine lv_aload_n hx hb dL_law_593 rfl (lv_at hl 4 rfl) ?_
  refine lv_iload hx hb dL_law_594 (lv_at hl 0 rfl) ?_
  refine lv_iconst (v := 3) hx hb dL_law_596 (by decide) ?_
  refine lv_iadd hx hb dL_law_597 ?_
  refine zsld hw hZ.2.2 (nI_c (6 * t) 3 3 rfl) (by omega) hp3 dL_law_598 ?_
  refine lv_aload_n hx hb dL_law_599 rfl (lv_at hl 4 rfl) ?_
  refine lv_iload hx hb dL_law_600 (lv_at hl 0 rfl) ?_
  refine lv_iconst (v := 4) hx hb dL_law_602 (by decide) ?_
  refine lv_iadd hx hb dL_law_603 ?_
  refine zsld hw hZ.2.2 (nI_c (6 * t) 4 4 rfl) (by omega) hp4 dL_law_604 ?_
  refine zgoi hZ hA (zrunV (As := [.int p1, .int p2, .int p3, .int p4]) (rest := []) (k := 0) hC hZ (c_X6_numbers l D cy 69 ad F H.size pic sc ps sh rd dr fa mi (Nat.le_of_ble_eq_true rfl) hRX hG p1 p2 p3 p4) mX6_numbers vX6_numbers kL_73 (zRjL rfl) (Nat.le_of_ble_eq_true rfl) hRX.1 rfl rfl hl.1 rfl (Nat.le_of_ble_eq_true rfl) dL_law_605 hcs) (fun r1 F1 hp H locs hZ => ?_)
  obtain ⟨hq1, v1, hRX1, hfr1⟩ := hp
  have hRM1 := RM_fr hRM hfr1
  have h681 := (hfr1 68 (by omega)).trans h68
  refine lv_aload_n hx hb dL_law_608 rfl (lv_at hl 2 rfl) ?_
  refine lv_aload_n hx hb dL_law_609 rfl (lv_at hl 4 rfl) ?_
  refine lv_iload hx hb dL_law_610 (lv_at hl 0 rfl) ?_
  refine lv_iconst (v := 1) hx hb dL_law_612 (by decide) ?_
  refine lv_iadd hx hb dL_law_613 ?_
  refine zsld hw hZ.2.2 (nI_c (6 * t) 1 1 rfl) (by omega) hp1 dL_law_614 ?_
  refine lv_aload_n hx hb dL_law_615 rfl (lv_at hl 4 rfl) ?_
  refine lv_iload hx hb dL_law_616 (lv_at hl 0 rfl) ?_
  refine lv_iconst (v := 2) hx hb dL_law_618 (by decide) ?_
  refine lv_iadd hx hb dL_law_619 ?_
  refine zsld hw hZ.2.2 (nI_c (6 * t) 2 2 rfl) (by omega) hp2 dL_law_620 ?_
  refine lv_aload_n hx hb dL_law_621 rfl (lv_at hl 4 rfl) ?_
  refine lv_iload hx hb dL_law_622 (lv_at hl 0 rfl) ?_
  refine lv_iconst (v := 3) hx hb dL_law_624 (by decide) ?_
  refine lv_iadd hx hb dL_law_625 ?_
  refine zsld hw hZ.2.2 (nI_c (6 * t) 3 3 rfl) (by omega) hp3 dL_law_626 ?_
  refine lv_aload_n hx hb dL_law_627 rfl (lv_at hl 4 rfl) ?_
  refine lv_iload hx hb dL_law_628 (lv_at hl 0 rfl) ?_
  refine lv_iconst (v := 4) hx hb dL_law_630 (by decide) ?_
  refine lv_iadd hx hb dL_law_631 ?_
  refine zsld hw hZ.2.2 (nI_c (6 * t) 4 4 rfl) (by omega) hp4 dL_law_632 ?_
  obtain ⟨fs9, h56⟩ := RM_56 hRM1
  refine zgoi hZ hA (zrunV (As := [.int p1, .int p2, .int p3, .int p4]) (rest := [.int r1]) (k := 56) hC hZ (c_X7_numbers l D cy 69 ad F1 H.size th pic sc ps sh (Nat.le_of_ble_eq_true rfl) hRM1 hG p1 p2 p3 p4) mX7_numbers vX7_numbers kL_77 (zRjL rfl) (Nat.le_of_ble_eq_true rfl) h56 rfl rfl hl.1 rfl (Nat.le_of_ble_eq_true rfl) dL_law_633 hcs) (fun r2 F2 hp H locs hZ => ?_)
  obtain ⟨hq2, hRM2, hfm2⟩ := hp
  refine lv_icmp_eq (tgt := 1338) hx hb dL_law_636 (by decide) (fun _ => ?_) (fun h9 => absurd (hq1.trans hq2.symm) h9)
  refine W.widen (k := cells + 1) (n := slots + 6) (by omega) (by omega) ?_
  exact kk F2 H locs ls hZ ⟨_, _, _, _, _, _, _, _, _, _, RX_fr hRX1 (fun j hj => hfm2 j (Or.inl hj)), hRM2, hG, (hfm2 68 (Or.inr (by omega))).trans h681⟩ hl

theorem dL_law_641 : decode cL_law 641 = .ok (.aload_n 1, 1) := by decide +kernel
theorem dL_law_642 : decode cL_law 642 = .ok (.aload_n 0, 1) := by decide +kernel
theorem dL_law_643 : decode cL_law 643 = .ok (.iload 4, 2) := by decide +kernel
theorem dL_law_645 : decode cL_law 645 = .ok (.iconst 1, 1) := by decide +kernel
theorem dL_law_646 : decode cL_law 646 = .ok (.iadd, 1) := by decide +kernel
theorem dL_law_647 : decode cL_law 647 = .ok (.iaload, 1) := by decide +kernel
theorem vX6_most : zMi yX6_most := ⟨gt_of 498 (by decide +kernel) rfl, gt_of 499 (by decide +kernel) rfl⟩
theorem kL_78 : zLk RL 78 yX6_most := Or.inl (gt_of 497 (by decide +kernel) rfl)
theorem dL_law_648 : decode cL_law 648 = .ok (.invokevirtual 78, 3) := by decide +kernel
theorem dL_law_651 : decode cL_law 651 = .ok (.aload_n 2, 1) := by decide +kernel
theorem dL_law_652 : decode cL_law 652 = .ok (.aload_n 0, 1) := by decide +kernel
theorem dL_law_653 : decode cL_law 653 = .ok (.iload 4, 2) := by decide +kernel
theorem dL_law_655 : decode cL_law 655 = .ok (.iconst 1, 1) := by decide +kernel
theorem dL_law_656 : decode cL_law 656 = .ok (.iadd, 1) := by decide +kernel
theorem dL_law_657 : decode cL_law 657 = .ok (.iaload, 1) := by decide +kernel
theorem vX7_most : zMi yX7_most := ⟨gt_of 1029 (by decide +kernel) rfl, gt_of 1030 (by decide +kernel) rfl⟩
theorem kL_81 : zLk RL 81 yX7_most := Or.inl (gt_of 1028 (by decide +kernel) rfl)
theorem dL_law_658 : decode cL_law 658 = .ok (.invokevirtual 81, 3) := by decide +kernel
theorem dL_law_661 : decode cL_law 661 = .ok (.if_icmp .eq 677, 3) := by decide +kernel
set_option maxRecDepth 100000 in
set_option maxHeartbeats 4000000 in
theorem lk_13 {p : Program} {l : Launch} {e : Env} {s : State} {m : MethodId} {below : List Frame} {meth : Method} {c : Code} {Q : State → Prop} {b L : Nat} {xs : Nat → Int32} {D : va_G} {cy sa ad : Nat → Nat} (hw : zLaw p l s m meth c b L xs D cy sa) {t cells slots : Nat} (ht : 6 * t + 6 ≤ L) (hc : cells + 1 ≤ 600128 ∧ slots + 6 ≤ 7301098) {ls : Array Slot} {F : Nat → va_E} {H : Heap} {locs : List Loc} (hZ : zH D (AL s) s.heap 69 ad F H locs) (hJ : zJ ad cy F) (hl : lv_has ls 8 [(4, .int (nI (6 * t))), (3, .ref (ad 68)), (2, .ref (ad 56)), (1, .ref (ad 0)), (0, .ref b)])
    (kk : ∀ (F1 : Nat → va_E) (H1 : Heap) (locs1 : List Loc) (ls1 : Array Slot), zH D (AL s) s.heap 69 ad F1 H1 locs1 → zJ ad cy F1 → lv_has ls1 8 [(4, .int (nI (6 * t))), (3, .ref (ad 68)), (2, .ref (ad 56)), (1, .ref (ad 0)), (0, .ref b)] → W p l e room_1 s m #[Value.ref b] below meth c H1 locs1 (cells + 1) (slots + 6) Q (F0 m 1338 ls1 [])) :
    W p l e room_1 s m #[Value.ref b] below meth c H locs cells slots Q (F0 m 641 ls []) := by
  obtain ⟨hC, hX, hb9, hr, hlocks, hXs, hl9, hL⟩ := id hw
  obtain ⟨pic, sc, ps, sh, rd, dr, fa, mi, th, f, hRX, hRM, hG, h68⟩ := hJ
  have hx := hC.1.1
  have hb := hC.1.2.1
  have hA : ∀ q, s.heap.size ≤ q → AL s q := fun _ h => h
  have hcs : cells ≤ room_1.cells ∧ slots ≤ room_1.slots := ⟨by show cells ≤ 600128; omega, by show slots ≤ 7301098; omega⟩
  obtain ⟨p1, hp1⟩ : ∃ y, xs (6 * t + 1) = y := ⟨_, rfl⟩
  obtain ⟨p2, hp2⟩ : ∃ y, xs (6 * t + 2) = y := ⟨_, rfl⟩
  obtain ⟨p3, hp3⟩ : ∃ y, xs (6 * t + 3) = y := ⟨_, rfl⟩
  obtain ⟨p4, hp4⟩ : ∃ y, xs (6 * t + 4) = y := ⟨_, rfl⟩
  obtain ⟨p5, hp5⟩ : ∃ y, xs (6 * t + 5) = y := ⟨_, rfl⟩
  refine lv_aload_n hx hb dL_law_641 rfl (lv_at hl 3 rfl) ?_
  refine lv_aload_n hx hb dL_law_642 rfl (lv_at hl 4 rfl) ?_
  refine lv_iload hx hb dL_law_643 (lv_at hl 0 rfl) ?_
  refine lv_iconst (v := 1) hx hb dL_law_645 (by decide) ?_
  refine lv_iadd hx hb dL_law_646 ?_
  refine zsld hw hZ.2.2 (nI_c (6 * t) 1 1 rfl) (by omega) hp1 dL_law_647 ?_
  refine zgoi hZ hA (zrunV (As := [.int p1]) (rest := []) (k := 0) hC hZ (c_X6_most l D cy 69 ad F H.size pic sc ps sh rd dr fa mi (Nat.le_of_ble_eq_true rfl) hRX hG p1) mX6_most vX6_most kL_78 (zRjL rfl) (Nat.le_of_ble_eq_true rfl) hRX.1 rfl rfl hl.1 rfl (Nat.le_of_ble_eq_true rfl) dL_law_648 hcs) (fun r1 F1 hp H locs hZ => ?_)
  obtain ⟨hq1, v1, hRX1, hfr1⟩ := hp
  have hRM1 := RM_fr hRM hfr1
  have h681 := (hfr1 68 (by omega)).trans h68
  refine lv_aload_n hx hb dL_law_651 rfl (lv_at hl 2 rfl) ?_
  refine lv_aload_n hx hb dL_law_652 rfl (lv_at hl 4 rfl) ?_
  refine lv_iload hx hb dL_law_653 (lv_at hl 0 rfl) ?_
  refine lv_iconst (v := 1) hx hb dL_law_655 (by decide) ?_
  refine lv_iadd hx hb dL_law_656 ?_
  refine zsld hw hZ.2.2 (nI_c (6 * t) 1 1 rfl) (by omega) hp1 dL_law_657 ?_
  obtain ⟨fs9, h56⟩ := RM_56 hRM1
  refine zgoi hZ hA (zrunV (As := [.int p1]) (rest := [.int r1]) (k := 56) hC hZ (c_X7_most l D cy 69 ad F1 H.size th pic sc ps sh (Nat.le_of_ble_eq_true rfl) hRM1 hG p1) mX7_most vX7_most kL_81 (zRjL rfl) (Nat.le_of_ble_eq_true rfl) h56 rfl rfl hl.1 rfl (Nat.le_of_ble_eq_true rfl) dL_law_658 hcs) (fun r2 F2 hp H locs hZ => ?_)
  obtain ⟨hq2, hRM2, hfm2⟩ := hp
  refine lv_icmp_eq (tgt := 1338) hx hb dL_law_661 (by decide) (fun _ => ?_) (fun h9 => absurd (hq1.trans hq2.symm) h9)
  refine W.widen (k := cells + 1) (n := slots + 6) (by omega) (by omega) ?_
  exact kk F2 H locs ls hZ ⟨_, _, _, _, _, _, _, _, _, _, RX_fr hRX1 (fun j hj => hfm2 j (Or.inl hj)), hRM2, hG, (hfm2 68 (Or.inr (by omega))).trans h681⟩ hl

theorem dL_law_666 : decode cL_law 666 = .ok (.aload_n 1, 1) := by decide +kernel
theorem dL_law_667 : decode cL_law 667 = .ok (.aload_n 0, 1) := by decide +kernel
theorem dL_law_668 : decode cL_law 668 = .ok (.iload 4, 2) := by decide +kernel
theorem dL_law_670 : decode cL_law 670 = .ok (.iconst 1, 1) := by decide +kernel
theorem dL_law_671 : decode cL_law 671 = .ok (.iadd, 1) := by decide +kernel
theorem dL_law_672 : decode cL_law 672 = .ok (.iaload, 1) := by decide +kernel
theorem vX6_lays : zMi yX6_lays := ⟨gt_of 503 (by decide +kernel) rfl, gt_of 504 (by decide +kernel) rfl⟩
theorem kL_82 : zLk RL 82 yX6_lays := Or.inl (gt_of 502 (by decide +kernel) rfl)
theorem dL_law_673 : decode cL_law 673 = .ok (.invokevirtual 82, 3) := by decide +kernel
theorem dL_law_676 : decode cL_law 676 = .ok (.aload_n 2, 1) := by decide +kernel
theorem dL_law_677 : decode cL_law 677 = .ok (.aload_n 0, 1) := by decide +kernel
theorem dL_law_678 : decode cL_law 678 = .ok (.iload 4, 2) := by decide +kernel
theorem dL_law_680 : decode cL_law 680 = .ok (.iconst 1, 1) := by decide +kernel
theorem dL_law_681 : decode cL_law 681 = .ok (.iadd, 1) := by decide +kernel
theorem dL_law_682 : decode cL_law 682 = .ok (.iaload, 1) := by decide +kernel
theorem vX7_lays : zMi yX7_lays := ⟨gt_of 1033 (by decide +kernel) rfl, gt_of 1034 (by decide +kernel) rfl⟩
theorem kL_85 : zLk RL 85 yX7_lays := Or.inl (gt_of 1032 (by decide +kernel) rfl)
theorem dL_law_683 : decode cL_law 683 = .ok (.invokevirtual 85, 3) := by decide +kernel
theorem dL_law_686 : decode cL_law 686 = .ok (.if_icmp .eq 652, 3) := by decide +kernel
set_option maxRecDepth 100000 in
set_option maxHeartbeats 4000000 in
theorem lk_14 {p : Program} {l : Launch} {e : Env} {s : State} {m : MethodId} {below : List Frame} {meth : Method} {c : Code} {Q : State → Prop} {b L : Nat} {xs : Nat → Int32} {D : va_G} {cy sa ad : Nat → Nat} (hw : zLaw p l s m meth c b L xs D cy sa) {t cells slots : Nat} (ht : 6 * t + 6 ≤ L) (hc : cells + 1 ≤ 600128 ∧ slots + 6 ≤ 7301098) {ls : Array Slot} {F : Nat → va_E} {H : Heap} {locs : List Loc} (hZ : zH D (AL s) s.heap 69 ad F H locs) (hJ : zJ ad cy F) (hl : lv_has ls 8 [(4, .int (nI (6 * t))), (3, .ref (ad 68)), (2, .ref (ad 56)), (1, .ref (ad 0)), (0, .ref b)])
    (kk : ∀ (F1 : Nat → va_E) (H1 : Heap) (locs1 : List Loc) (ls1 : Array Slot), zH D (AL s) s.heap 69 ad F1 H1 locs1 → zJ ad cy F1 → lv_has ls1 8 [(4, .int (nI (6 * t))), (3, .ref (ad 68)), (2, .ref (ad 56)), (1, .ref (ad 0)), (0, .ref b)] → W p l e room_1 s m #[Value.ref b] below meth c H1 locs1 (cells + 1) (slots + 6) Q (F0 m 1338 ls1 [])) :
    W p l e room_1 s m #[Value.ref b] below meth c H locs cells slots Q (F0 m 666 ls []) := by
  obtain ⟨hC, hX, hb9, hr, hlocks, hXs, hl9, hL⟩ := id hw
  obtain ⟨pic, sc, ps, sh, rd, dr, fa, mi, th, f, hRX, hRM, hG, h68⟩ := hJ
  have hx := hC.1.1
  have hb := hC.1.2.1
  have hA : ∀ q, s.heap.size ≤ q → AL s q := fun _ h => h
  have hcs : cells ≤ room_1.cells ∧ slots ≤ room_1.slots := ⟨by show cells ≤ 600128; omega, by show slots ≤ 7301098; omega⟩
  obtain ⟨p1, hp1⟩ : ∃ y, xs (6 * t + 1) = y := ⟨_, rfl⟩
  obtain ⟨p2, hp2⟩ : ∃ y, xs (6 * t + 2) = y := ⟨_, rfl⟩
  obtain ⟨p3, hp3⟩ : ∃ y, xs (6 * t + 3) = y := ⟨_, rfl⟩
  obtain ⟨p4, hp4⟩ : ∃ y, xs (6 * t + 4) = y := ⟨_, rfl⟩
  obtain ⟨p5, hp5⟩ : ∃ y, xs (6 * t + 5) = y := ⟨_, rfl⟩
  refine lv_aload_n hx hb dL_law_666 rfl (lv_at hl 3 rfl) ?_
  refine lv_aload_n hx hb dL_law_667 rfl (lv_at hl 4 rfl) ?_
  refine lv_iload hx hb dL_law_668 (lv_at hl 0 rfl) ?_
  refine lv_iconst (v := 1) hx hb dL_law_670 (by decide) ?_
  refine lv_iadd hx hb dL_law_671 ?_
  refine zsld hw hZ.2.2 (nI_c (6 * t) 1 1 rfl) (by omega) hp1 dL_law_672 ?_
  refine zgoi hZ hA (zrunV (As := [.int p1]) (rest := []) (k := 0) hC hZ (c_X6_lays l D cy 69 ad F H.size pic sc ps sh rd dr fa mi (Nat.le_of_ble_eq_true rfl) hRX hG p1) mX6_lays vX6_lays kL_82 (zRjL rfl) (Nat.le_of_ble_eq_true rfl) hRX.1 rfl rfl hl.1 rfl (Nat.le_of_ble_eq_true rfl) dL_law_673 hcs) (fun r1 F1 hp H locs hZ => ?_)
  obtain ⟨hq1, v1, hRX1, hfr1⟩ := hp
  have hRM1 := RM_fr hRM hfr1
  have h681 := (hfr1 68 (by omega)).trans h68
  refine lv_aload_n hx hb dL_law_676 rfl (lv_at hl 2 rfl) ?_
  refine lv_aload_n hx hb dL_law_677 rfl (lv_at hl 4 rfl) ?_
  refine lv_iload hx hb dL_law_678 (lv_at hl 0 rfl) ?_
  refine lv_iconst (v := 1) hx hb dL_law_680 (by decide) ?_
  refine lv_iadd hx hb dL_law_681 ?_
  refine zsld hw hZ.2.2 (nI_c (6 * t) 1 1 rfl) (by omega) hp1 dL_law_682 ?_
  obtain ⟨fs9, h56⟩ := RM_56 hRM1
  refine zgoi hZ hA (zrunV (As := [.int p1]) (rest := [.int r1]) (k := 56) hC hZ (c_X7_lays l D cy 69 ad F1 H.size th pic sc ps sh (Nat.le_of_ble_eq_true rfl) hRM1 hG p1) mX7_lays vX7_lays kL_85 (zRjL rfl) (Nat.le_of_ble_eq_true rfl) h56 rfl rfl hl.1 rfl (Nat.le_of_ble_eq_true rfl) dL_law_683 hcs) (fun r2 F2 hp H locs hZ => ?_)
  obtain ⟨hq2, hRM2, hfm2⟩ := hp
  refine lv_icmp_eq (tgt := 1338) hx hb dL_law_686 (by decide) (fun _ => ?_) (fun h9 => absurd (hq1.trans hq2.symm) h9)
  refine W.widen (k := cells + 1) (n := slots + 6) (by omega) (by omega) ?_
  exact kk F2 H locs ls hZ ⟨_, _, _, _, _, _, _, _, _, _, RX_fr hRX1 (fun j hj => hfm2 j (Or.inl hj)), hRM2, hG, (hfm2 68 (Or.inr (by omega))).trans h681⟩ hl

theorem dL_law_691 : decode cL_law 691 = .ok (.aload_n 1, 1) := by decide +kernel
theorem dL_law_692 : decode cL_law 692 = .ok (.aload_n 0, 1) := by decide +kernel
theorem dL_law_693 : decode cL_law 693 = .ok (.iload 4, 2) := by decide +kernel
theorem dL_law_695 : decode cL_law 695 = .ok (.iconst 1, 1) := by decide +kernel
theorem dL_law_696 : decode cL_law 696 = .ok (.iadd, 1) := by decide +kernel
theorem dL_law_697 : decode cL_law 697 = .ok (.iaload, 1) := by decide +kernel
theorem dL_law_698 : decode cL_law 698 = .ok (.aload_n 0, 1) := by decide +kernel
theorem dL_law_699 : decode cL_law 699 = .ok (.iload 4, 2) := by decide +kernel
theorem dL_law_701 : decode cL_law 701 = .ok (.iconst 2, 1) := by decide +kernel
theorem dL_law_702 : decode cL_law 702 = .ok (.iadd, 1) := by decide +kernel
theorem dL_law_703 : decode cL_law 703 = .ok (.iaload, 1) := by decide +kernel
theorem vX6_without : zMi yX6_without := ⟨gt_of 507 (by decide +kernel) rfl, gt_of 508 (by decide +kernel) rfl⟩
theorem kL_86 : zLk RL 86 yX6_without := Or.inl (gt_of 506 (by decide +kernel) rfl)
theorem dL_law_704 : decode cL_law 704 = .ok (.invokevirtual 86, 3) := by decide +kernel
theorem dL_law_707 : decode cL_law 707 = .ok (.aload_n 2, 1) := by decide +kernel
theorem dL_law_708 : decode cL_law 708 = .ok (.aload_n 0, 1) := by decide +kernel
theorem dL_law_709 : decode cL_law 709 = .ok (.iload 4, 2) := by decide +kernel
theorem dL_law_711 : decode cL_law 711 = .ok (.iconst 1, 1) := by decide +kernel
theorem dL_law_712 : decode cL_law 712 = .ok (.iadd, 1) := by decide +kernel
theorem dL_law_713 : decode cL_law 713 = .ok (.iaload, 1) := by decide +kernel
theorem dL_law_714 : decode cL_law 714 = .ok (.aload_n 0, 1) := by decide +kernel
theorem dL_law_715 : decode cL_law 715 = .ok (.iload 4, 2) := by decide +kernel
theorem dL_law_717 : decode cL_law 717 = .ok (.iconst 2, 1) := by decide +kernel
theorem dL_law_718 : decode cL_law 718 = .ok (.iadd, 1) := by decide +kernel
theorem dL_law_719 : decode cL_law 719 = .ok (.iaload, 1) := by decide +kernel
theorem vX7_without : zMi yX7_without := ⟨gt_of 1037 (by decide +kernel) rfl, gt_of 1038 (by decide +kernel) rfl⟩
theorem kL_89 : zLk RL 89 yX7_without := Or.inl (gt_of 1036 (by decide +kernel) rfl)
theorem dL_law_720 : decode cL_law 720 = .ok (.invokevirtual 89, 3) := by decide +kernel
theorem dL_law_723 : decode cL_law 723 = .ok (.if_icmp .eq 615, 3) := by decide +kernel
set_option maxRecDepth 100000 in
set_option maxHeartbeats 4000000 in
theorem lk_15 {p : Program} {l : Launch} {e : Env} {s : State} {m : MethodId} {below : List Frame} {meth : Method} {c : Code} {Q : State → Prop} {b L : Nat} {xs : Nat → Int32} {D : va_G} {cy sa ad : Nat → Nat} (hw : zLaw p l s m meth c b L xs D cy sa) {t cells slots : Nat} (ht : 6 * t + 6 ≤ L) (hc : cells + 1 ≤ 600128 ∧ slots + 6 ≤ 7301098) {ls : Array Slot} {F : Nat → va_E} {H : Heap} {locs : List Loc} (hZ : zH D (AL s) s.heap 69 ad F H locs) (hJ : zJ ad cy F) (hl : lv_has ls 8 [(4, .int (nI (6 * t))), (3, .ref (ad 68)), (2, .ref (ad 56)), (1, .ref (ad 0)), (0, .ref b)])
    (kk : ∀ (F1 : Nat → va_E) (H1 : Heap) (locs1 : List Loc) (ls1 : Array Slot), zH D (AL s) s.heap 69 ad F1 H1 locs1 → zJ ad cy F1 → lv_has ls1 8 [(4, .int (nI (6 * t))), (3, .ref (ad 68)), (2, .ref (ad 56)), (1, .ref (ad 0)), (0, .ref b)] → W p l e room_1 s m #[Value.ref b] below meth c H1 locs1 (cells + 1) (slots + 6) Q (F0 m 1338 ls1 [])) :
    W p l e room_1 s m #[Value.ref b] below meth c H locs cells slots Q (F0 m 691 ls []) := by
  obtain ⟨hC, hX, hb9, hr, hlocks, hXs, hl9, hL⟩ := id hw
  obtain ⟨pic, sc, ps, sh, rd, dr, fa, mi, th, f, hRX, hRM, hG, h68⟩ := hJ
  have hx := hC.1.1
  have hb := hC.1.2.1
  have hA : ∀ q, s.heap.size ≤ q → AL s q := fun _ h => h
  have hcs : cells ≤ room_1.cells ∧ slots ≤ room_1.slots := ⟨by show cells ≤ 600128; omega, by show slots ≤ 7301098; omega⟩
  obtain ⟨p1, hp1⟩ : ∃ y, xs (6 * t + 1) = y := ⟨_, rfl⟩
  obtain ⟨p2, hp2⟩ : ∃ y, xs (6 * t + 2) = y := ⟨_, rfl⟩
  obtain ⟨p3, hp3⟩ : ∃ y, xs (6 * t + 3) = y := ⟨_, rfl⟩
  obtain ⟨p4, hp4⟩ : ∃ y, xs (6 * t + 4) = y := ⟨_, rfl⟩
  obtain ⟨p5, hp5⟩ : ∃ y, xs (6 * t + 5) = y := ⟨_, rfl⟩
  refine lv_aload_n hx hb dL_law_691 rfl (lv_at hl 3 rfl) ?_
  refine lv_aload_n hx hb dL_law_692 rfl (lv_at hl 4 rfl) ?_
  refine lv_iload hx hb dL_law_693 (lv_at hl 0 rfl) ?_
  refine lv_iconst (v := 1) hx hb dL_law_695 (by decide) ?_
  refine lv_iadd hx hb dL_law_696 ?_
  refine zsld hw hZ.2.2 (nI_c (6 * t) 1 1 rfl) (by omega) hp1 dL_law_697 ?_
  refine lv_aload_n hx hb dL_law_698 rfl (lv_at hl 4 rfl) ?_
  refine lv_iload hx hb dL_law_699 (lv_at hl 0 rfl) ?_
  refine lv_iconst (v := 2) hx hb dL_law_701 (by decide) ?_
  refine lv_iadd hx hb dL_law_702 ?_
  refine zsld hw hZ.2.2 (nI_c (6 * t) 2 2 rfl) (by omega) hp2 dL_law_703 ?_
  refine zgoi hZ hA (zrunV (As := [.int p1, .int p2]) (rest := []) (k := 0) hC hZ (c_X6_without l D cy 69 ad F H.size pic sc ps sh rd dr fa mi (Nat.le_of_ble_eq_true rfl) hRX p1 p2) mX6_without vX6_without kL_86 (zRjL rfl) (Nat.le_of_ble_eq_true rfl) hRX.1 rfl rfl hl.1 rfl (Nat.le_of_ble_eq_true rfl) dL_law_704 hcs) (fun r1 F1 hp H locs hZ => ?_)
  obtain ⟨hq1, v1, hRX1, hfr1⟩ := hp
  have hRM1 := RM_fr hRM hfr1
  have h681 := (hfr1 68 (by omega)).trans h68
  refine lv_aload_n hx hb dL_law_707 rfl (lv_at hl 2 rfl) ?_
  refine lv_aload_n hx hb dL_law_708 rfl (lv_at hl 4 rfl) ?_
  refine lv_iload hx hb dL_law_709 (lv_at hl 0 rfl) ?_
  refine lv_iconst (v := 1) hx hb dL_law_711 (by decide) ?_
  refine lv_iadd hx hb dL_law_712 ?_
  refine zsld hw hZ.2.2 (nI_c (6 * t) 1 1 rfl) (by omega) hp1 dL_law_713 ?_
  refine lv_aload_n hx hb dL_law_714 rfl (lv_at hl 4 rfl) ?_
  refine lv_iload hx hb dL_law_715 (lv_at hl 0 rfl) ?_
  refine lv_iconst (v := 2) hx hb dL_law_717 (by decide) ?_
  refine lv_iadd hx hb dL_law_718 ?_
  refine zsld hw hZ.2.2 (nI_c (6 * t) 2 2 rfl) (by omega) hp2 dL_law_719 ?_
  obtain ⟨fs9, h56⟩ := RM_56 hRM1
  refine zgoi hZ hA (zrunV (As := [.int p1, .int p2]) (rest := [.int r1]) (k := 56) hC hZ (c_X7_without l D cy 69 ad F1 H.size th pic sc ps sh (Nat.le_of_ble_eq_true rfl) hRM1 hG p1 p2) mX7_without vX7_without kL_89 (zRjL rfl) (Nat.le_of_ble_eq_true rfl) h56 rfl rfl hl.1 rfl (Nat.le_of_ble_eq_true rfl) dL_law_720 hcs) (fun r2 F2 hp H locs hZ => ?_)
  obtain ⟨hq2, hRM2, hfm2⟩ := hp
  refine lv_icmp_eq (tgt := 1338) hx hb dL_law_723 (by decide) (fun _ => ?_) (fun h9 => absurd (hq1.trans hq2.symm) h9)
  refine W.widen (k := cells + 1) (n := slots + 6) (by omega) (by omega) ?_
  exact kk F2 H locs ls hZ ⟨_, _, _, _, _, _, _, _, _, _, RX_fr hRX1 (fun j hj => hfm2 j (Or.inl hj)), hRM2, hG, (hfm2 68 (Or.inr (by omega))).trans h681⟩ hl
