theorem mX7_paceAfter : zMd yX7_paceAfter cX7_paceAfter 3 (some .int) 1 := ⟨by decide +kernel, gt_of 1047 (by decide +kernel) rfl, gt_of 52 (by decide +kernel) rfl, by decide⟩
theorem dX7_paceAfter_0 : decode cX7_paceAfter 0 = .ok (.aload_n 0, 1) := by decide +kernel
theorem dX7_paceAfter_1 : decode cX7_paceAfter 1 = .ok (.invokevirtual 221, 3) := by decide +kernel
theorem kX7_221 : zLk RX7 221 yX7_open := Or.inl (gt_of 1048 (by decide +kernel) rfl)
theorem vX7_open : zMi yX7_open := ⟨gt_of 1050 (by decide +kernel) rfl, gt_of 39 (by decide +kernel) rfl⟩
theorem dX7_paceAfter_4 : decode cX7_paceAfter 4 = .ok (.iconst 0, 1) := by decide +kernel
theorem dX7_paceAfter_5 : decode cX7_paceAfter 5 = .ok (.istore_n 2, 1) := by decide +kernel
theorem dX7_paceAfter_6 : decode cX7_paceAfter 6 = .ok (.iload_n 2, 1) := by decide +kernel
theorem dX7_paceAfter_7 : decode cX7_paceAfter 7 = .ok (.iload_n 1, 1) := by decide +kernel
theorem dX7_paceAfter_8 : decode cX7_paceAfter 8 = .ok (.if_icmp .ge 13, 3) := by decide +kernel
theorem dX7_paceAfter_21 : decode cX7_paceAfter 21 = .ok (.aload_n 0, 1) := by decide +kernel
theorem dX7_paceAfter_22 : decode cX7_paceAfter 22 = .ok (.getfield 154, 3) := by decide +kernel
theorem dX7_paceAfter_25 : decode cX7_paceAfter 25 = .ok (.istore_n 2, 1) := by decide +kernel
theorem dX7_paceAfter_26 : decode cX7_paceAfter 26 = .ok (.aload_n 0, 1) := by decide +kernel
theorem dX7_paceAfter_27 : decode cX7_paceAfter 27 = .ok (.invokevirtual 224, 3) := by decide +kernel
theorem kX7_224 : zLk RX7 224 yX7_close := Or.inl (gt_of 1052 (by decide +kernel) rfl)
theorem vX7_close : zMi yX7_close := ⟨gt_of 1054 (by decide +kernel) rfl, gt_of 40 (by decide +kernel) rfl⟩
theorem dX7_paceAfter_30 : decode cX7_paceAfter 30 = .ok (.iload_n 2, 1) := by decide +kernel
theorem dX7_paceAfter_31 : decode cX7_paceAfter 31 = .ok (.ireturn, 1) := by decide +kernel
theorem dX7_paceAfter_11 : decode cX7_paceAfter 11 = .ok (.aload_n 0, 1) := by decide +kernel
theorem dX7_paceAfter_12 : decode cX7_paceAfter 12 = .ok (.invokevirtual 183, 3) := by decide +kernel
theorem kX7_183 : zLk RX7 183 yX7_tickOn := Or.inl (gt_of 956 (by decide +kernel) rfl)
theorem vX7_tickOn : zMi yX7_tickOn := ⟨gt_of 958 (by decide +kernel) rfl, gt_of 29 (by decide +kernel) rfl⟩
theorem dX7_paceAfter_15 : decode cX7_paceAfter 15 = .ok (.iinc 2 1, 3) := by decide +kernel
theorem dX7_paceAfter_18 : decode cX7_paceAfter 18 = .ok (.goto (-12), 3) := by decide +kernel
set_option maxRecDepth 100000 in
theorem c_X7_paceAfter (l : Launch) (D : va_G) (cy : Nat → Nat) (n : Nat) (ad : Nat → Nat) (F : Nat → va_E) (sz : Nat) (b : Stg) (ln tc : Int32) (co : Crs) (th bs en : Int32) (u : Int32 × Int32) (st kk dw ho : Int32) (sv : Crs) (pic ia tk : Int32) (hn : 68 ≤ n) (hM : F 56 = oModel ad b ln tc co th bs en u st kk dw ho sv pic ia tk) (q : Int32) (hq : q = nI (iN q) ∧ iN q ≤ 500) (hK : gK kk (100 - kk - dw + ho) b.2.2.2 ln) : Met l yX7_paceAfter (zw yX7_paceAfter cX7_paceAfter 3 (some .int)) (rmL 2) (zPc D cy n ad F sz [.ref (ad 56), .int q]) (va_Qi (fun r F1 => r = (sIt (sStep kk (100 - kk - dw + ho) b.2.2.2 ln) (iN q) sCC).2.1 ∧ F1 = va_up F 56 (oModel ad b ln tc co th bs en u st kk dw ho co pic ia tk)) (zB D n ad) (zA n ad sz)) 0 0 (zA n ad sz) := by
  refine zmet (by decide +kernel) (Nat.le_of_ble_eq_true rfl) (fun p e s m args below meth c ls hC hsz hZ hA hr hlocks hnm hl => ?_)
  have hC : zC p m c cX7_paceAfter 3 s args RX7 D cy := hC
  have hx := hC.1.1
  have hb := hC.1.2.1
  have hl : lv_has ls 3 [(0, .ref (ad 56)), (1, .int q)] := hl
  refine lv_aload_n hx hb dX7_paceAfter_0 rfl (lv_at hl 0 rfl) ?_
  refine zgov hZ hA (zrunV (As := []) (rest := []) (k := 56) hC hZ (c_X7_open l D cy n ad F s.heap.size b ln tc co th bs en u st kk dw ho sv pic ia tk hn hM) mX7_open vX7_open kX7_221 (zRj_of rfl) (zlt hn rfl) hM rfl rfl hl.1 rfl (Nat.le_of_ble_eq_true rfl) dX7_paceAfter_1 ⟨Nat.le_refl _, Nat.le_refl _⟩) (fun F_1 hp_3 H locs hZ => ?_)
  have h_4 := zeq hp_3
  refine lv_iconst (v := 0) hx hb dX7_paceAfter_4 (by decide) ?_
  refine lv_istore_n (lv' := [(2, .int 0), (0, .ref (ad 56)), (1, .int q)]) hx hb dX7_paceAfter_5 rfl hl (by decide) rfl (fun ls hl => ?_)
  refine zlp (X := Nat) 6 (fun _ => []) (fun x ls F1 => lv_has ls 3 [(2, .int (nI x)), (0, .ref (ad 56)), (1, .int q)] ∧ F1 = va_up F_1 56 (oModel ad b ln tc (sIt (sStep kk (100 - kk - dw + ho) b.2.2.2 ln) x sCC) th bs en u st kk dw ho co pic ia tk) ∧ (x ≤ iN q)) (fun x => iN q - x) ?_ 0 hZ ⟨hl, (zself h_4), (Nat.zero_le _)⟩
  intro i ih6 ls F3_6 H locs hZ hφ
  obtain ⟨hl, hF3_6, hi⟩ := hφ
  have hl : lv_has ls 3 [(2, .int (nI i)), (0, .ref (ad 56)), (1, .int q)] := hl
  have hF3_6 : F3_6 = va_up F_1 56 (oModel ad b ln tc (sIt (sStep kk (100 - kk - dw + ho) b.2.2.2 ln) i sCC) th bs en u st kk dw ho co pic ia tk) := hF3_6
  have hi : i ≤ iN q := hi
  have h_5 := zeq hF3_6
  refine lv_iload_n hx hb dX7_paceAfter_6 rfl (lv_at hl 0 rfl) ?_
  refine lv_iload_n hx hb dX7_paceAfter_7 rfl (lv_at hl 2 rfl) ?_
  refine lv_icmp_ge (tgt := 21) hx hb dX7_paceAfter_8 (by decide) (fun c_8 => ?_) (fun c_8 => ?_)
  · refine lv_aload_n hx hb dX7_paceAfter_21 rfl (lv_at hl 1 rfl) ?_
    refine zget hC hZ fX7_154 (zlt hn rfl) h_5 rfl dX7_paceAfter_22 ?_
    refine lv_istore_n (lv' := [(2, .int ((sIt (sStep kk (100 - kk - dw + ho) b.2.2.2 ln) i sCC).2.1)), (0, .ref (ad 56)), (1, .int q)]) hx hb dX7_paceAfter_25 rfl hl (by decide) rfl (fun ls hl => ?_)
    refine lv_aload_n hx hb dX7_paceAfter_26 rfl (lv_at hl 1 rfl) ?_
    refine zgov hZ hA (zrunV (As := []) (rest := []) (k := 56) hC hZ (c_X7_close l D cy n ad F3_6 H.size b ln tc (sIt (sStep kk (100 - kk - dw + ho) b.2.2.2 ln) i sCC) th bs en u st kk dw ho co pic ia tk hn h_5) mX7_close vX7_close kX7_224 (zRj_of rfl) (zlt hn rfl) h_5 rfl rfl hl.1 rfl (Nat.le_of_ble_eq_true rfl) dX7_paceAfter_27 ⟨Nat.le_refl _, Nat.le_refl _⟩) (fun F_6 hp_8 H locs hZ => ?_)
    have h_9 := zeq hp_8
    refine lv_iload_n hx hb dX7_paceAfter_30 rfl (lv_at hl 0 rfl) ?_
    have hiq : i = iN q := zge hq.1 (by omega) hi c_8
    subst hiq
    have he_10 : F_6 = va_up F 56 (oModel ad b ln tc co th bs en u st kk dw ho co pic ia tk) := by rw [hp_8, hF3_6, hp_3]; simp only [bx_uu]
    exact zireti hC hZ hr hlocks ⟨rfl, he_10⟩ dX7_paceAfter_31
  · refine lv_aload_n hx hb dX7_paceAfter_11 rfl (lv_at hl 1 rfl) ?_
    refine zgov hZ hA (zrunV (As := []) (rest := []) (k := 56) hC hZ (c_X7_tickOn l D cy n ad F3_6 H.size b ln tc (sIt (sStep kk (100 - kk - dw + ho) b.2.2.2 ln) i sCC) th bs en u st kk dw ho co pic ia tk hn h_5 (sIt_gC hK (gC_0 hK.2.2.2.2.2.2.1) i)) mX7_tickOn vX7_tickOn kX7_183 (zRj_of rfl) (zlt hn rfl) h_5 rfl rfl hl.1 rfl (Nat.le_of_ble_eq_true rfl) dX7_paceAfter_12 ⟨Nat.le_refl _, Nat.le_refl _⟩) (fun F_11 hp_13 H locs hZ => ?_)
    have h_14 := zeq hp_13
    refine lv_iinc (v := nI (i + 1)) (lv' := [(2, .int (nI (i + 1))), (0, .ref (ad 56)), (1, .int q)]) hx hb dX7_paceAfter_15 hl (k := 0) rfl (nI_1 i) (by decide) rfl (fun ls hl => ?_)
    refine lv_goto (tgt := 6) hx hb dX7_paceAfter_18 (by decide) ?_
    have hlt := zlt2 hq.1 (by omega) c_8
    have he_15 : F_11 = va_up F_1 56 (oModel ad b ln tc (sStep kk (100 - kk - dw + ho) b.2.2.2 ln (sIt (sStep kk (100 - kk - dw + ho) b.2.2.2 ln) i sCC)) th bs en u st kk dw ho co pic ia tk) := by rw [hp_13, hF3_6]; simp only [bx_uu]
    exact ih6 (i + 1) ls _ H locs (by show iN q - (i + 1) < iN q - i; omega) hZ ⟨hl, he_15, hlt⟩

theorem ix100 {d : Int32} {m : Nat} (h : d = nI m) (i : Nat) : 100 * d + nI i = nI (100 * m + i) := by rw [h, nI_100, nI_add]
theorem mX7_isLet : zMd yX7_isLet cX7_isLet 12 (some .boolean) 4 := ⟨by decide +kernel, gt_of 1016 (by decide +kernel) rfl, gt_of 52 (by decide +kernel) rfl, by decide⟩
theorem dX7_isLet_0 : decode cX7_isLet 0 = .ok (.iconst 1, 1) := by decide +kernel
theorem dX7_isLet_1 : decode cX7_isLet 1 = .ok (.istore 5, 2) := by decide +kernel
theorem dX7_isLet_3 : decode cX7_isLet 3 = .ok (.iconst 0, 1) := by decide +kernel
theorem dX7_isLet_4 : decode cX7_isLet 4 = .ok (.istore 6, 2) := by decide +kernel
theorem dX7_isLet_6 : decode cX7_isLet 6 = .ok (.iload 6, 2) := by decide +kernel
theorem dX7_isLet_8 : decode cX7_isLet 8 = .ok (.aload_n 0, 1) := by decide +kernel
theorem dX7_isLet_9 : decode cX7_isLet 9 = .ok (.getfield 120, 3) := by decide +kernel
theorem dX7_isLet_12 : decode cX7_isLet 12 = .ok (.if_icmp .ge 88, 3) := by decide +kernel
theorem dX7_isLet_100 : decode cX7_isLet 100 = .ok (.iload 5, 2) := by decide +kernel
theorem dX7_isLet_102 : decode cX7_isLet 102 = .ok (.ireturn, 1) := by decide +kernel
theorem dX7_isLet_15 : decode cX7_isLet 15 = .ok (.iload 5, 2) := by decide +kernel
theorem dX7_isLet_17 : decode cX7_isLet 17 = .ok (.ifCond .eq 83, 3) := by decide +kernel
theorem dX7_isLet_20 : decode cX7_isLet 20 = .ok (.aload_n 0, 1) := by decide +kernel
theorem dX7_isLet_21 : decode cX7_isLet 21 = .ok (.getfield 50, 3) := by decide +kernel
theorem dX7_isLet_24 : decode cX7_isLet 24 = .ok (.bipush 100, 2) := by decide +kernel
theorem dX7_isLet_26 : decode cX7_isLet 26 = .ok (.iload_n 3, 1) := by decide +kernel
theorem dX7_isLet_27 : decode cX7_isLet 27 = .ok (.imul, 1) := by decide +kernel
theorem dX7_isLet_28 : decode cX7_isLet 28 = .ok (.iload 6, 2) := by decide +kernel
theorem dX7_isLet_30 : decode cX7_isLet 30 = .ok (.iadd, 1) := by decide +kernel
theorem dX7_isLet_31 : decode cX7_isLet 31 = .ok (.laload, 1) := by decide +kernel
theorem dX7_isLet_32 : decode cX7_isLet 32 = .ok (.lstore 7, 2) := by decide +kernel
theorem dX7_isLet_34 : decode cX7_isLet 34 = .ok (.aload_n 0, 1) := by decide +kernel
theorem dX7_isLet_35 : decode cX7_isLet 35 = .ok (.iload_n 1, 1) := by decide +kernel
theorem dX7_isLet_36 : decode cX7_isLet 36 = .ok (.iload_n 2, 1) := by decide +kernel
theorem dX7_isLet_37 : decode cX7_isLet 37 = .ok (.iload 6, 2) := by decide +kernel
theorem dX7_isLet_39 : decode cX7_isLet 39 = .ok (.invokevirtual 193, 3) := by decide +kernel
theorem kX7_193 : zLk RX7 193 yX7_aheadOf := Or.inl (gt_of 987 (by decide +kernel) rfl)
theorem vX7_aheadOf : zMi yX7_aheadOf := ⟨gt_of 989 (by decide +kernel) rfl, gt_of 32 (by decide +kernel) rfl⟩
theorem dX7_isLet_42 : decode cX7_isLet 42 = .ok (.istore 9, 2) := by decide +kernel
theorem dX7_isLet_44 : decode cX7_isLet 44 = .ok (.lload 7, 2) := by decide +kernel
theorem dX7_isLet_46 : decode cX7_isLet 46 = .ok (.iload 9, 2) := by decide +kernel
theorem dX7_isLet_48 : decode cX7_isLet 48 = .ok (.i2l, 1) := by decide +kernel
theorem dX7_isLet_49 : decode cX7_isLet 49 = .ok (.lsub, 1) := by decide +kernel
theorem dX7_isLet_50 : decode cX7_isLet 50 = .ok (.lstore 10, 2) := by decide +kernel
theorem dX7_isLet_52 : decode cX7_isLet 52 = .ok (.lload 7, 2) := by decide +kernel
theorem dX7_isLet_54 : decode cX7_isLet 54 = .ok (.aload_n 0, 1) := by decide +kernel
theorem dX7_isLet_55 : decode cX7_isLet 55 = .ok (.iload_n 3, 1) := by decide +kernel
theorem dX7_isLet_56 : decode cX7_isLet 56 = .ok (.invokevirtual 206, 3) := by decide +kernel
theorem kX7_206 : zLk RX7 206 yX7_skippedIn := Or.inl (gt_of 1017 (by decide +kernel) rfl)
theorem vX7_skippedIn : zMi yX7_skippedIn := ⟨gt_of 1019 (by decide +kernel) rfl, gt_of 37 (by decide +kernel) rfl⟩
theorem dX7_isLet_59 : decode cX7_isLet 59 = .ok (.lcmp, 1) := by decide +kernel
theorem dX7_isLet_60 : decode cX7_isLet 60 = .ok (.ifCond .eq 27, 3) := by decide +kernel
theorem dX7_isLet_87 : decode cX7_isLet 87 = .ok (.iconst 1, 1) := by decide +kernel
theorem dX7_isLet_88 : decode cX7_isLet 88 = .ok (.goto 4, 3) := by decide +kernel
theorem dX7_isLet_92 : decode cX7_isLet 92 = .ok (.istore 5, 2) := by decide +kernel
theorem dX7_isLet_94 : decode cX7_isLet 94 = .ok (.iinc 6 1, 3) := by decide +kernel
theorem dX7_isLet_97 : decode cX7_isLet 97 = .ok (.goto (-91), 3) := by decide +kernel
theorem dX7_isLet_63 : decode cX7_isLet 63 = .ok (.iload 9, 2) := by decide +kernel
theorem dX7_isLet_65 : decode cX7_isLet 65 = .ok (.ifCond .lt 26, 3) := by decide +kernel
theorem dX7_isLet_91 : decode cX7_isLet 91 = .ok (.iconst 0, 1) := by decide +kernel
theorem dX7_isLet_68 : decode cX7_isLet 68 = .ok (.lload 10, 2) := by decide +kernel
theorem dX7_isLet_70 : decode cX7_isLet 70 = .ok (.iload 4, 2) := by decide +kernel
theorem dX7_isLet_72 : decode cX7_isLet 72 = .ok (.ineg, 1) := by decide +kernel
theorem dX7_isLet_73 : decode cX7_isLet 73 = .ok (.i2l, 1) := by decide +kernel
theorem dX7_isLet_74 : decode cX7_isLet 74 = .ok (.lcmp, 1) := by decide +kernel
theorem dX7_isLet_75 : decode cX7_isLet 75 = .ok (.ifCond .lt 16, 3) := by decide +kernel
theorem dX7_isLet_78 : decode cX7_isLet 78 = .ok (.lload 10, 2) := by decide +kernel
theorem dX7_isLet_80 : decode cX7_isLet 80 = .ok (.iload 4, 2) := by decide +kernel
theorem dX7_isLet_82 : decode cX7_isLet 82 = .ok (.i2l, 1) := by decide +kernel
theorem dX7_isLet_83 : decode cX7_isLet 83 = .ok (.lcmp, 1) := by decide +kernel
theorem dX7_isLet_84 : decode cX7_isLet 84 = .ok (.ifCond .gt 7, 3) := by decide +kernel
set_option maxRecDepth 100000 in
theorem c_X7_isLet (l : Launch) (D : va_G) (cy : Nat → Nat) (n : Nat) (ad : Nat → Nat) (F : Nat → va_E) (sz : Nat) (b : Stg) (ln tc : Int32) (co : Crs) (th bs en : Int32) (u : Int32 × Int32) (st kk dw ho : Int32) (sv : Crs) (pic ia tk : Int32) (hn : 68 ≤ n) (hM : F 56 = oModel ad b ln tc co th bs en u st kk dw ho sv pic ia tk) (told : Nat → Int32) (h57 : F 57 = oInts cy 32 told) (so : Nat → Int32) (h64 : F 64 = oInts cy 8 so) (rw0 : Nat → Int64) (h66 : F 66 = oLongs cy 800 rw0) (t : Tal) (d off : Int32) (sf : Shf) (sc : Scn) (hd : d = nI (iN d) ∧ iN d < 8) (hso : so (iN d) = sf.2.2.1) (hm : sf.2.2.2.1 = tc) (htc0 : tc = sc.2.2.2.1) (htc : tc = nI (iN tc) ∧ iN tc ≤ 8) (hrw : ∀ i, i < 100 → rw0 (100 * iN d + i) = (sf.2.2.2.2 i).toInt64) (hT : ∀ i, i < iN tc → rT told i (sc.2.2.1 i)) (ht : gT t) (hgs : ∀ i, i < 8 → gS (sc.2.2.1 i)) (ho0 : 0 ≤ off.toInt) (ho1 : off.toInt ≤ 9999) : Met l yX7_isLet (zw yX7_isLet cX7_isLet 12 (some .boolean)) (rmL 3) (zPc D cy n ad F sz [.ref (ad 56), .int t.1, .int t.2, .int d, .int off]) (va_Qi (fun r F1 => ∃ k1 d1 o1, r = (if bFits t sf sc off then 1 else 0) ∧ F1 = va_up F 56 (oModel ad b ln tc co th bs en u st k1 d1 o1 sv pic ia tk)) (zB D n ad) (zA n ad sz)) 0 0 (zA n ad sz) := by
  refine zmet (by decide +kernel) (Nat.le_of_ble_eq_true rfl) (fun p e s m args below meth c ls hC hsz hZ hA hr hlocks hnm hl => ?_)
  have hC : zC p m c cX7_isLet 12 s args RX7 D cy := hC
  have hx := hC.1.1
  have hb := hC.1.2.1
  have hl : lv_has ls 12 [(0, .ref (ad 56)), (1, .int t.1), (2, .int t.2), (3, .int d), (4, .int off)] := hl
  refine lv_iconst (v := 1) hx hb dX7_isLet_0 (by decide) ?_
  refine lv_istore (lv' := [(5, .int 1), (0, .ref (ad 56)), (1, .int t.1), (2, .int t.2), (3, .int d), (4, .int off)]) hx hb dX7_isLet_1 hl (by decide) rfl (fun ls hl => ?_)
  refine lv_iconst (v := 0) hx hb dX7_isLet_3 (by decide) ?_
  refine lv_istore (lv' := [(6, .int 0), (5, .int 1), (0, .ref (ad 56)), (1, .int t.1), (2, .int t.2), (3, .int d), (4, .int off)]) hx hb dX7_isLet_4 hl (by decide) rfl (fun ls hl => ?_)
  refine zlp (X := Nat × Int32 × Int32 × Int32 × Int32) 6 (fun _ => []) (fun x ls F1 => lv_has ls 12 [(6, .int (nI x.1)), (5, .int x.2.1), (0, .ref (ad 56)), (1, .int t.1), (2, .int t.2), (3, .int d), (4, .int off)] ∧ F1 = va_up F 56 (oModel ad b ln tc co th bs en u st x.2.2.1 x.2.2.2.1 x.2.2.2.2 sv pic ia tk) ∧ (x.1 ≤ iN tc) ∧ ((x.2.1 = 1 ∧ ∀ j, j < x.1 → bFit t sf.2.2.1 sf.2.2.2.1 sf.2.2.2.2 sc.2.2.1 off j) ∨ (x.2.1 = 0 ∧ ¬ bFits t sf sc off))) (fun x => iN tc - x.1) ?_ (0, 1, kk, dw, ho) hZ ⟨hl, (zself hM), (Nat.zero_le _), (Or.inl ⟨rfl, fun j hj => absurd hj (Nat.not_lt_zero _)⟩)⟩
  intro x ih6 ls F3_6 H locs hZ hφ
  obtain ⟨i, al, k1, d1, o1⟩ := x
  obtain ⟨hl, hF3_6, hi, hal⟩ := hφ
  have hl : lv_has ls 12 [(6, .int (nI i)), (5, .int al), (0, .ref (ad 56)), (1, .int t.1), (2, .int t.2), (3, .int d), (4, .int off)] := hl
  have hF3_6 : F3_6 = va_up F 56 (oModel ad b ln tc co th bs en u st k1 d1 o1 sv pic ia tk) := hF3_6
  have hi : i ≤ iN tc := hi
  have hal : (al = 1 ∧ ∀ j, j < i → bFit t sf.2.2.1 sf.2.2.2.1 sf.2.2.2.2 sc.2.2.1 off j) ∨ (al = 0 ∧ ¬ bFits t sf sc off) := hal
  have h_1 := zeq hF3_6
  refine lv_iload hx hb dX7_isLet_6 (lv_at hl 0 rfl) ?_
  refine lv_aload_n hx hb dX7_isLet_8 rfl (lv_at hl 2 rfl) ?_
  refine zget hC hZ fX7_120 (zlt hn rfl) h_1 rfl dX7_isLet_9 ?_
  refine lv_icmp_ge (tgt := 100) hx hb dX7_isLet_12 (by decide) (fun c_12 => ?_) (fun c_12 => ?_)
  · refine lv_iload hx hb dX7_isLet_100 (lv_at hl 1 rfl) ?_
    have hq : al = if bFits t sf sc off then 1 else 0 := by
      have hiq : i = iN tc := zge htc.1 (by omega) hi c_12
      rcases hal with h | h
      · rw [if_pos (fun j hj => h.2 j (by rw [hiq, htc0]; exact hj))]; exact h.1
      · rw [if_neg h.2]; exact h.1
    have he_2 : F3_6 = va_up F 56 (oModel ad b ln tc co th bs en u st k1 d1 o1 sv pic ia tk) := by rw [hF3_6]
    exact zbreti hC hZ hr hlocks (by rcases hal with h | h <;> rw [h.1] <;> rfl) ⟨k1, d1, o1, hq, he_2⟩ dX7_isLet_102
  · refine lv_iload hx hb dX7_isLet_15 (lv_at hl 1 rfl) ?_
    refine lv_if_eq (tgt := 100) hx hb dX7_isLet_17 (by decide) (fun c_17 => ?_) (fun c_17 => ?_)
    · refine lv_iload hx hb dX7_isLet_100 (lv_at hl 1 rfl) ?_
      have hq : al = if bFits t sf sc off then 1 else 0 := by
        rcases hal with h | h
        · rw [h.1] at c_17; exact absurd c_17 (by decide)
        · rw [if_neg h.2]; exact h.1
      have he_3 : F3_6 = va_up F 56 (oModel ad b ln tc co th bs en u st k1 d1 o1 sv pic ia tk) := by rw [hF3_6]
      exact zbreti hC hZ hr hlocks (by rcases hal with h | h <;> rw [h.1] <;> rfl) ⟨k1, d1, o1, hq, he_3⟩ dX7_isLet_102
    · refine lv_aload_n hx hb dX7_isLet_20 rfl (lv_at hl 2 rfl) ?_
      refine zget hC hZ fX7_50 (zlt hn rfl) h_1 rfl dX7_isLet_21 ?_
      refine lv_bipush (v := 100) hx hb dX7_isLet_24 (by decide) ?_
      refine lv_iload_n hx hb dX7_isLet_26 rfl (lv_at hl 5 rfl) ?_
      refine lv_imul hx hb dX7_isLet_27 ?_
      refine lv_iload hx hb dX7_isLet_28 (lv_at hl 0 rfl) ?_
      refine lv_iadd hx hb dX7_isLet_30 ?_
      have hlt := zlt2 htc.1 (by omega) c_12
      refine zlald hC hZ (zlt hn rfl) (zne hF3_6 (by decide) h66) (ix100 hd.1 i) (by omega) (by decide) dX7_isLet_31 ?_
      refine lv_lstore (lv' := [(7, .long (rw0 (100 * iN d + i))), (6, .int (nI i)), (5, .int al), (0, .ref (ad 56)), (1, .int t.1), (2, .int t.2), (3, .int d), (4, .int off)]) hx hb dX7_isLet_32 hl (by decide) rfl (fun ls hl => ?_)
      refine lv_aload_n hx hb dX7_isLet_34 rfl (lv_at hl 3 rfl) ?_
      refine lv_iload_n hx hb dX7_isLet_35 rfl (lv_at hl 4 rfl) ?_
      refine lv_iload_n hx hb dX7_isLet_36 rfl (lv_at hl 5 rfl) ?_
      refine lv_iload hx hb dX7_isLet_37 (lv_at hl 1 rfl) ?_
      refine zgoi hZ hA (zrunV (As := [.int t.1, .int t.2, .int (nI i)]) (rest := []) (k := 56) hC hZ (c_X7_aheadOf l D cy n ad F3_6 H.size b ln tc co th bs en u st k1 d1 o1 sv pic ia tk hn h_1 told (zne hF3_6 (by decide) h57) t i (sc.2.2.1 i) (by omega) (hT _ hlt) ht (hgs _ (by omega))) mX7_aheadOf vX7_aheadOf kX7_193 (zRj_of rfl) (zlt hn rfl) h_1 rfl rfl hl.1 rfl (Nat.le_of_ble_eq_true rfl) dX7_isLet_39 ⟨Nat.le_refl _, Nat.le_refl _⟩) (fun r_5 F_4 hp_6 H locs hZ => ?_)
      obtain ⟨rfl, hp_7⟩ := hp_6
      have h_8 := zeq hp_7
      refine lv_istore (lv' := [(9, .int (sArchAt t (sc.2.2.1 i) 0)), (7, .long (rw0 (100 * iN d + i))), (6, .int (nI i)), (5, .int al), (0, .ref (ad 56)), (1, .int t.1), (2, .int t.2), (3, .int d), (4, .int off)]) hx hb dX7_isLet_42 hl (by decide) rfl (fun ls hl => ?_)
      refine lv_lload hx hb dX7_isLet_44 (lv_at hl 1 rfl) ?_
      refine lv_iload hx hb dX7_isLet_46 (lv_at hl 0 rfl) ?_
      refine lv_i2l (v := (sArchAt t (sc.2.2.1 i) 0).toInt64) hx hb dX7_isLet_48 (by rfl) ?_
      refine lv_lsub hx hb dX7_isLet_49 ?_
      refine lv_lstore (lv' := [(10, .long ((rw0 (100 * iN d + i)) - (sArchAt t (sc.2.2.1 i) 0).toInt64)), (9, .int (sArchAt t (sc.2.2.1 i) 0)), (7, .long (rw0 (100 * iN d + i))), (6, .int (nI i)), (5, .int al), (0, .ref (ad 56)), (1, .int t.1), (2, .int t.2), (3, .int d), (4, .int off)]) hx hb dX7_isLet_50 hl (by decide) rfl (fun ls hl => ?_)
      refine lv_lload hx hb dX7_isLet_52 (lv_at hl 2 rfl) ?_
      refine lv_aload_n hx hb dX7_isLet_54 rfl (lv_at hl 5 rfl) ?_
      refine lv_iload_n hx hb dX7_isLet_55 rfl (lv_at hl 8 rfl) ?_
      refine zgol hZ hA (zrunV (As := [.int d]) (rest := [.long (rw0 (100 * iN d + i))]) (k := 56) hC hZ (c_X7_skippedIn l D cy n ad F_4 H.size b ln tc co th bs en u st (sKick t (sc.2.2.1 i)) (sDraw t) (sHold t) sv pic ia tk hn h_8 so (zne hp_7 (by decide) (zne hF3_6 (by decide) h64)) d hd) mX7_skippedIn vX7_skippedIn kX7_206 (zRj_of rfl) (zlt hn rfl) h_8 rfl rfl hl.1 rfl (Nat.le_of_ble_eq_true rfl) dX7_isLet_56 ⟨Nat.le_refl _, Nat.le_refl _⟩) (fun r_10 F_9 hp_11 H locs hZ => ?_)
      obtain ⟨rfl, rfl⟩ := hp_11
      refine W.lcmp hx hb dX7_isLet_59 ?_
      refine lv_if_eq (tgt := 87) hx hb dX7_isLet_60 (by decide) (fun c_60 => ?_) (fun c_60 => ?_)
      · refine lv_iconst (v := 1) hx hb dX7_isLet_87 (by decide) ?_
        refine lv_goto (tgt := 92) hx hb dX7_isLet_88 (by decide) ?_
        refine lv_istore (lv' := [(5, .int 1), (10, .long ((rw0 (100 * iN d + i)) - (sArchAt t (sc.2.2.1 i) 0).toInt64)), (9, .int (sArchAt t (sc.2.2.1 i) 0)), (7, .long (rw0 (100 * iN d + i))), (6, .int (nI i)), (0, .ref (ad 56)), (1, .int t.1), (2, .int t.2), (3, .int d), (4, .int off)]) hx hb dX7_isLet_92 hl (by decide) rfl (fun ls hl => ?_)
        refine lv_iinc (v := nI (i + 1)) (lv' := [(6, .int (nI (i + 1))), (5, .int 1), (10, .long ((rw0 (100 * iN d + i)) - (sArchAt t (sc.2.2.1 i) 0).toInt64)), (9, .int (sArchAt t (sc.2.2.1 i) 0)), (7, .long (rw0 (100 * iN d + i))), (0, .ref (ad 56)), (1, .int t.1), (2, .int t.2), (3, .int d), (4, .int off)]) hx hb dX7_isLet_94 hl (k := 4) rfl (nI_1 i) (by decide) rfl (fun ls hl => ?_)
        refine lv_goto (tgt := 6) hx hb dX7_isLet_97 (by decide) ?_
        have hat : sAt sf.2.2.2.1 sf.2.2.2.2 (nI i) = sf.2.2.2.2 i := sAt_i (hm.trans htc.1) (by omega) hlt
        have hse : rw0 (100 * iN d + i) = (sAt sf.2.2.2.1 sf.2.2.2.2 (nI i)).toInt64 := by rw [hat]; exact hrw i (by omega)
        have hal1 : al = 1 ∧ ∀ j, j < i → bFit t sf.2.2.1 sf.2.2.2.1 sf.2.2.2.2 sc.2.2.1 off j := hal.resolve_right (fun h => c_17 h.1)
        rw [hse, hso] at c_60
        have hf : bFit t sf.2.2.1 sf.2.2.2.1 sf.2.2.2.2 sc.2.2.1 off i := fit_1 (l64eq.mp ((lg_cmp_eq _ _).mp c_60))
        have he_12 : F_4 = va_up F 56 (oModel ad b ln tc co th bs en u st (sKick t (sc.2.2.1 i)) (sDraw t) (sHold t) sv pic ia tk) := by rw [hp_7, hF3_6]; simp only [bx_uu]
        exact ih6 ((i + 1), 1, (sKick t (sc.2.2.1 i)), (sDraw t), (sHold t)) ls _ H locs (by show iN tc - (i + 1) < iN tc - i; omega) hZ ⟨(lv_sub hl [0, 1, 5, 6, 7, 8, 9] rfl), he_12, hlt, (Or.inl ⟨rfl, fun j hj => by rcases Nat.lt_or_ge j i with h9 | h9; exact hal1.2 j h9; have e9 : j = i := (by omega); rw [e9]; exact hf⟩)⟩
      · refine lv_iload hx hb dX7_isLet_63 (lv_at hl 1 rfl) ?_
        refine lv_if_lt (tgt := 91) hx hb dX7_isLet_65 (by decide) (fun c_65 => ?_) (fun c_65 => ?_)
        · refine lv_iconst (v := 0) hx hb dX7_isLet_91 (by decide) ?_
          refine lv_istore (lv' := [(5, .int 0), (10, .long ((rw0 (100 * iN d + i)) - (sArchAt t (sc.2.2.1 i) 0).toInt64)), (9, .int (sArchAt t (sc.2.2.1 i) 0)), (7, .long (rw0 (100 * iN d + i))), (6, .int (nI i)), (0, .ref (ad 56)), (1, .int t.1), (2, .int t.2), (3, .int d), (4, .int off)]) hx hb dX7_isLet_92 hl (by decide) rfl (fun ls hl => ?_)
          refine lv_iinc (v := nI (i + 1)) (lv' := [(6, .int (nI (i + 1))), (5, .int 0), (10, .long ((rw0 (100 * iN d + i)) - (sArchAt t (sc.2.2.1 i) 0).toInt64)), (9, .int (sArchAt t (sc.2.2.1 i) 0)), (7, .long (rw0 (100 * iN d + i))), (0, .ref (ad 56)), (1, .int t.1), (2, .int t.2), (3, .int d), (4, .int off)]) hx hb dX7_isLet_94 hl (k := 4) rfl (nI_1 i) (by decide) rfl (fun ls hl => ?_)
          refine lv_goto (tgt := 6) hx hb dX7_isLet_97 (by decide) ?_
          have hat : sAt sf.2.2.2.1 sf.2.2.2.2 (nI i) = sf.2.2.2.2 i := sAt_i (hm.trans htc.1) (by omega) hlt
          have hse : rw0 (100 * iN d + i) = (sAt sf.2.2.2.1 sf.2.2.2.2 (nI i)).toInt64 := by rw [hat]; exact hrw i (by omega)
          have hal1 : al = 1 ∧ ∀ j, j < i → bFit t sf.2.2.1 sf.2.2.2.1 sf.2.2.2.2 sc.2.2.1 off j := hal.resolve_right (fun h => c_17 h.1)
          rw [hse, hso] at c_60
          have hne : ¬ sAt sf.2.2.2.1 sf.2.2.2.2 (nI i) = sLow sf.2.2.1 := fun h => c_60 ((lg_cmp_eq _ _).mpr (l64eq.mpr h))
          have hf : ¬ bFit t sf.2.2.1 sf.2.2.2.1 sf.2.2.2.2 sc.2.2.1 off i := fit_0 hne (fun h => (by have h := (nearM ho0 ho1).mp h; exact absurd c_65 (Int32.not_lt.mpr h.1)))
          have he_13 : F_4 = va_up F 56 (oModel ad b ln tc co th bs en u st (sKick t (sc.2.2.1 i)) (sDraw t) (sHold t) sv pic ia tk) := by rw [hp_7, hF3_6]; simp only [bx_uu]
          exact ih6 ((i + 1), 0, (sKick t (sc.2.2.1 i)), (sDraw t), (sHold t)) ls _ H locs (by show iN tc - (i + 1) < iN tc - i; omega) hZ ⟨(lv_sub hl [0, 1, 5, 6, 7, 8, 9] rfl), he_13, hlt, (Or.inr ⟨rfl, fun h => hf (h i (by rw [← htc0]; exact hlt))⟩)⟩
        · refine lv_lload hx hb dX7_isLet_68 (lv_at hl 0 rfl) ?_
          refine lv_iload hx hb dX7_isLet_70 (lv_at hl 9 rfl) ?_
          refine lv_ineg hx hb dX7_isLet_72 ?_
          refine lv_i2l (v := (-off).toInt64) hx hb dX7_isLet_73 (by rfl) ?_
          refine W.lcmp hx hb dX7_isLet_74 ?_
          refine lv_if_lt (tgt := 91) hx hb dX7_isLet_75 (by decide) (fun c_75 => ?_) (fun c_75 => ?_)
          · refine lv_iconst (v := 0) hx hb dX7_isLet_91 (by decide) ?_
            refine lv_istore (lv' := [(5, .int 0), (10, .long ((rw0 (100 * iN d + i)) - (sArchAt t (sc.2.2.1 i) 0).toInt64)), (9, .int (sArchAt t (sc.2.2.1 i) 0)), (7, .long (rw0 (100 * iN d + i))), (6, .int (nI i)), (0, .ref (ad 56)), (1, .int t.1), (2, .int t.2), (3, .int d), (4, .int off)]) hx hb dX7_isLet_92 hl (by decide) rfl (fun ls hl => ?_)
            refine lv_iinc (v := nI (i + 1)) (lv' := [(6, .int (nI (i + 1))), (5, .int 0), (10, .long ((rw0 (100 * iN d + i)) - (sArchAt t (sc.2.2.1 i) 0).toInt64)), (9, .int (sArchAt t (sc.2.2.1 i) 0)), (7, .long (rw0 (100 * iN d + i))), (0, .ref (ad 56)), (1, .int t.1), (2, .int t.2), (3, .int d), (4, .int off)]) hx hb dX7_isLet_94 hl (k := 4) rfl (nI_1 i) (by decide) rfl (fun ls hl => ?_)
            refine lv_goto (tgt := 6) hx hb dX7_isLet_97 (by decide) ?_
            have hat : sAt sf.2.2.2.1 sf.2.2.2.2 (nI i) = sf.2.2.2.2 i := sAt_i (hm.trans htc.1) (by omega) hlt
            have hse : rw0 (100 * iN d + i) = (sAt sf.2.2.2.1 sf.2.2.2.2 (nI i)).toInt64 := by rw [hat]; exact hrw i (by omega)
            have hal1 : al = 1 ∧ ∀ j, j < i → bFit t sf.2.2.1 sf.2.2.2.1 sf.2.2.2.2 sc.2.2.1 off j := hal.resolve_right (fun h => c_17 h.1)
            rw [hse, hso] at c_60
            rw [hse] at c_75
            have hne : ¬ sAt sf.2.2.2.1 sf.2.2.2.2 (nI i) = sLow sf.2.2.1 := fun h => c_60 ((lg_cmp_eq _ _).mpr (l64eq.mpr h))
            have hf : ¬ bFit t sf.2.2.1 sf.2.2.2.1 sf.2.2.2.2 sc.2.2.1 off i := fit_0 hne (fun h => (by have h := (nearM ho0 ho1).mp h; exact absurd ((lg_cmp_lt _ _).mp c_75) (Int64.not_lt.mpr h.2.1)))
            have he_14 : F_4 = va_up F 56 (oModel ad b ln tc co th bs en u st (sKick t (sc.2.2.1 i)) (sDraw t) (sHold t) sv pic ia tk) := by rw [hp_7, hF3_6]; simp only [bx_uu]
            exact ih6 ((i + 1), 0, (sKick t (sc.2.2.1 i)), (sDraw t), (sHold t)) ls _ H locs (by show iN tc - (i + 1) < iN tc - i; omega) hZ ⟨(lv_sub hl [0, 1, 5, 6, 7, 8, 9] rfl), he_14, hlt, (Or.inr ⟨rfl, fun h => hf (h i (by rw [← htc0]; exact hlt))⟩)⟩
          · refine lv_lload hx hb dX7_isLet_78 (lv_at hl 0 rfl) ?_
            refine lv_iload hx hb dX7_isLet_80 (lv_at hl 9 rfl) ?_
            refine lv_i2l (v := (off).toInt64) hx hb dX7_isLet_82 (by rfl) ?_
            refine W.lcmp hx hb dX7_isLet_83 ?_
            refine lv_if_gt (tgt := 91) hx hb dX7_isLet_84 (by decide) (fun c_84 => ?_) (fun c_84 => ?_)
            · refine lv_iconst (v := 0) hx hb dX7_isLet_91 (by decide) ?_
              refine lv_istore (lv' := [(5, .int 0), (10, .long ((rw0 (100 * iN d + i)) - (sArchAt t (sc.2.2.1 i) 0).toInt64)), (9, .int (sArchAt t (sc.2.2.1 i) 0)), (7, .long (rw0 (100 * iN d + i))), (6, .int (nI i)), (0, .ref (ad 56)), (1, .int t.1), (2, .int t.2), (3, .int d), (4, .int off)]) hx hb dX7_isLet_92 hl (by decide) rfl (fun ls hl => ?_)
              refine lv_iinc (v := nI (i + 1)) (lv' := [(6, .int (nI (i + 1))), (5, .int 0), (10, .long ((rw0 (100 * iN d + i)) - (sArchAt t (sc.2.2.1 i) 0).toInt64)), (9, .int (sArchAt t (sc.2.2.1 i) 0)), (7, .long (rw0 (100 * iN d + i))), (0, .ref (ad 56)), (1, .int t.1), (2, .int t.2), (3, .int d), (4, .int off)]) hx hb dX7_isLet_94 hl (k := 4) rfl (nI_1 i) (by decide) rfl (fun ls hl => ?_)
              refine lv_goto (tgt := 6) hx hb dX7_isLet_97 (by decide) ?_
              have hat : sAt sf.2.2.2.1 sf.2.2.2.2 (nI i) = sf.2.2.2.2 i := sAt_i (hm.trans htc.1) (by omega) hlt
              have hse : rw0 (100 * iN d + i) = (sAt sf.2.2.2.1 sf.2.2.2.2 (nI i)).toInt64 := by rw [hat]; exact hrw i (by omega)
              have hal1 : al = 1 ∧ ∀ j, j < i → bFit t sf.2.2.1 sf.2.2.2.1 sf.2.2.2.2 sc.2.2.1 off j := hal.resolve_right (fun h => c_17 h.1)
              rw [hse, hso] at c_60
              rw [hse] at c_75
              rw [hse] at c_84
              have hne : ¬ sAt sf.2.2.2.1 sf.2.2.2.2 (nI i) = sLow sf.2.2.1 := fun h => c_60 ((lg_cmp_eq _ _).mpr (l64eq.mpr h))
              have hf : ¬ bFit t sf.2.2.1 sf.2.2.2.1 sf.2.2.2.2 sc.2.2.1 off i := fit_0 hne (fun h => (by have h := (nearM ho0 ho1).mp h; exact absurd ((lg_cmp_gt _ _).mp c_84) (Int64.not_lt.mpr h.2.2)))
              have he_15 : F_4 = va_up F 56 (oModel ad b ln tc co th bs en u st (sKick t (sc.2.2.1 i)) (sDraw t) (sHold t) sv pic ia tk) := by rw [hp_7, hF3_6]; simp only [bx_uu]
              exact ih6 ((i + 1), 0, (sKick t (sc.2.2.1 i)), (sDraw t), (sHold t)) ls _ H locs (by show iN tc - (i + 1) < iN tc - i; omega) hZ ⟨(lv_sub hl [0, 1, 5, 6, 7, 8, 9] rfl), he_15, hlt, (Or.inr ⟨rfl, fun h => hf (h i (by rw [← htc0]; exact hlt))⟩)⟩
            · refine lv_iconst (v := 1) hx hb dX7_isLet_87 (by decide) ?_
              refine lv_goto (tgt := 92) hx hb dX7_isLet_88 (by decide) ?_
              refine lv_istore (lv' := [(5, .int 1), (10, .long ((rw0 (100 * iN d + i)) - (sArchAt t (sc.2.2.1 i) 0).toInt64)), (9, .int (sArchAt t (sc.2.2.1 i) 0)), (7, .long (rw0 (100 * iN d + i))), (6, .int (nI i)), (0, .ref (ad 56)), (1, .int t.1), (2, .int t.2), (3, .int d), (4, .int off)]) hx hb dX7_isLet_92 hl (by decide) rfl (fun ls hl => ?_)
              refine lv_iinc (v := nI (i + 1)) (lv' := [(6, .int (nI (i + 1))), (5, .int 1), (10, .long ((rw0 (100 * iN d + i)) - (sArchAt t (sc.2.2.1 i) 0).toInt64)), (9, .int (sArchAt t (sc.2.2.1 i) 0)), (7, .long (rw0 (100 * iN d + i))), (0, .ref (ad 56)), (1, .int t.1), (2, .int t.2), (3, .int d), (4, .int off)]) hx hb dX7_isLet_94 hl (k := 4) rfl (nI_1 i) (by decide) rfl (fun ls hl => ?_)
              refine lv_goto (tgt := 6) hx hb dX7_isLet_97 (by decide) ?_
              have hat : sAt sf.2.2.2.1 sf.2.2.2.2 (nI i) = sf.2.2.2.2 i := sAt_i (hm.trans htc.1) (by omega) hlt
              have hse : rw0 (100 * iN d + i) = (sAt sf.2.2.2.1 sf.2.2.2.2 (nI i)).toInt64 := by rw [hat]; exact hrw i (by omega)
              have hal1 : al = 1 ∧ ∀ j, j < i → bFit t sf.2.2.1 sf.2.2.2.1 sf.2.2.2.2 sc.2.2.1 off j := hal.resolve_right (fun h => c_17 h.1)
              rw [hse, hso] at c_60
              rw [hse] at c_75
              rw [hse] at c_84
              have hne : ¬ sAt sf.2.2.2.1 sf.2.2.2.2 (nI i) = sLow sf.2.2.1 := fun h => c_60 ((lg_cmp_eq _ _).mpr (l64eq.mpr h))
              have hf : bFit t sf.2.2.1 sf.2.2.2.1 sf.2.2.2.2 sc.2.2.1 off i := fit_2 ((nearM ho0 ho1).mpr ⟨Int32.not_lt.mp c_65, Int64.not_lt.mp (fun h => c_75 ((lg_cmp_lt _ _).mpr h)), Int64.not_lt.mp (fun h => c_84 ((lg_cmp_gt _ _).mpr h))⟩)
              have he_16 : F_4 = va_up F 56 (oModel ad b ln tc co th bs en u st (sKick t (sc.2.2.1 i)) (sDraw t) (sHold t) sv pic ia tk) := by rw [hp_7, hF3_6]; simp only [bx_uu]
              exact ih6 ((i + 1), 1, (sKick t (sc.2.2.1 i)), (sDraw t), (sHold t)) ls _ H locs (by show iN tc - (i + 1) < iN tc - i; omega) hZ ⟨(lv_sub hl [0, 1, 5, 6, 7, 8, 9] rfl), he_16, hlt, (Or.inl ⟨rfl, fun j hj => by rcases Nat.lt_or_ge j i with h9 | h9; exact hal1.2 j h9; have e9 : j = i := (by omega); rw [e9]; exact hf⟩)⟩
