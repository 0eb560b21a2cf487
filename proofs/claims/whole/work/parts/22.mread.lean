theorem mX7_in : zMd yX7_in cX7_in 6 (some .boolean) 3 := ⟨by decide +kernel, gt_of 888 (by decide +kernel) rfl, gt_of 52 (by decide +kernel) rfl, by decide⟩
theorem dX7_in_0 : decode cX7_in 0 = .ok (.lload_n 0, 1) := by decide +kernel
theorem dX7_in_1 : decode cX7_in 1 = .ok (.lload_n 2, 1) := by decide +kernel
theorem dX7_in_2 : decode cX7_in 2 = .ok (.lcmp, 1) := by decide +kernel
theorem dX7_in_3 : decode cX7_in 3 = .ok (.ifCond .lt 14, 3) := by decide +kernel
theorem dX7_in_17 : decode cX7_in 17 = .ok (.iconst 0, 1) := by decide +kernel
theorem dX7_in_18 : decode cX7_in 18 = .ok (.ireturn, 1) := by decide +kernel
theorem dX7_in_6 : decode cX7_in 6 = .ok (.lload_n 0, 1) := by decide +kernel
theorem dX7_in_7 : decode cX7_in 7 = .ok (.lload 4, 2) := by decide +kernel
theorem dX7_in_9 : decode cX7_in 9 = .ok (.lcmp, 1) := by decide +kernel
theorem dX7_in_10 : decode cX7_in 10 = .ok (.ifCond .gt 7, 3) := by decide +kernel
theorem dX7_in_13 : decode cX7_in 13 = .ok (.iconst 1, 1) := by decide +kernel
theorem dX7_in_14 : decode cX7_in 14 = .ok (.goto 4, 3) := by decide +kernel
set_option maxRecDepth 100000 in
theorem c_X7_in (l : Launch) (D : va_G) (cy : Nat → Nat) (n : Nat) (ad : Nat → Nat) (F : Nat → va_E) (sz : Nat) (v lo hi : Int32) (L H0 : Int64) (hL : L = lo.toInt64) (hH : H0 = hi.toInt64) : Met l yX7_in (zw yX7_in cX7_in 6 (some .boolean)) (rmL 0) (zPc D cy n ad F sz [.long v.toInt64, .long L, .long H0]) (va_Qi (fun r F1 => r = (if bIn v lo hi then 1 else 0) ∧ F = F1) (zB D n ad) (zA n ad sz)) 0 0 (zA n ad sz) := by
  refine zmet (by decide +kernel) (Nat.le_of_ble_eq_true rfl) (fun p e s m args below meth c ls hC hsz hZ hA hr hlocks hnm hl => ?_)
  have hC : zC p m c cX7_in 6 s args RX7 D cy := hC
  have hx := hC.1.1
  have hb := hC.1.2.1
  have hl : lv_has ls 6 [(0, .long v.toInt64), (2, .long L), (4, .long H0)] := hl
  refine lv_lload_n hx hb dX7_in_0 rfl (lv_at hl 0 rfl) ?_
  refine lv_lload_n hx hb dX7_in_1 rfl (lv_at hl 1 rfl) ?_
  refine W.lcmp hx hb dX7_in_2 ?_
  refine lv_if_lt (tgt := 17) hx hb dX7_in_3 (by decide) (fun c_3 => ?_) (fun c_3 => ?_)
  · refine lv_iconst (v := 0) hx hb dX7_in_17 (by decide) ?_
    have hq : (0 : Int32) = if bIn v lo hi then 1 else 0 := (if_neg (fun h => absurd ((bInL_iff hL hH).mpr h).1 (Int64.not_le.mpr ((lg_cmp_lt _ _).mp c_3)))).symm
    exact zbreti hC hZ hr hlocks rfl ⟨hq, rfl⟩ dX7_in_18
  · refine lv_lload_n hx hb dX7_in_6 rfl (lv_at hl 0 rfl) ?_
    refine lv_lload hx hb dX7_in_7 (lv_at hl 2 rfl) ?_
    refine W.lcmp hx hb dX7_in_9 ?_
    refine lv_if_gt (tgt := 17) hx hb dX7_in_10 (by decide) (fun c_10 => ?_) (fun c_10 => ?_)
    · refine lv_iconst (v := 0) hx hb dX7_in_17 (by decide) ?_
      have hq : (0 : Int32) = if bIn v lo hi then 1 else 0 := (if_neg (fun h => absurd ((bInL_iff hL hH).mpr h).2 (Int64.not_le.mpr ((lg_cmp_gt _ _).mp c_10)))).symm
      exact zbreti hC hZ hr hlocks rfl ⟨hq, rfl⟩ dX7_in_18
    · refine lv_iconst (v := 1) hx hb dX7_in_13 (by decide) ?_
      refine lv_goto (tgt := 18) hx hb dX7_in_14 (by decide) ?_
      have hq : (1 : Int32) = if bIn v lo hi then 1 else 0 := (if_pos ((bInL_iff hL hH).mp ⟨(lg_cmp_ge _ _).mp (Int32.not_lt.mp c_3), (lg_cmp_le _ _).mp (Int32.not_lt.mp c_10)⟩)).symm
      exact zbreti hC hZ hr hlocks rfl ⟨hq, rfl⟩ dX7_in_18

theorem mX7_far : zMd yX7_far cX7_far 1 (some .int) 1 := ⟨by decide +kernel, gt_of 1042 (by decide +kernel) rfl, gt_of 52 (by decide +kernel) rfl, by decide⟩
theorem dX7_far_0 : decode cX7_far 0 = .ok (.iload_n 0, 1) := by decide +kernel
theorem dX7_far_1 : decode cX7_far 1 = .ok (.ldc 60, 2) := by decide +kernel
theorem qX7_60 : Cond.constant RX7 60 1000000000 ∈ gtbl := gt_of 1043 (by decide +kernel) rfl
theorem dX7_far_3 : decode cX7_far 3 = .ok (.isub, 1) := by decide +kernel
theorem dX7_far_4 : decode cX7_far 4 = .ok (.ireturn, 1) := by decide +kernel
set_option maxRecDepth 100000 in
theorem c_X7_far (l : Launch) (D : va_G) (cy : Nat → Nat) (n : Nat) (ad : Nat → Nat) (F : Nat → va_E) (sz : Nat) (x : Int32) : Met l yX7_far (zw yX7_far cX7_far 1 (some .int)) (rmL 0) (zPc D cy n ad F sz [.int x]) (va_Qi (fun r F1 => r = x - 1000000000 ∧ F = F1) (zB D n ad) (zA n ad sz)) 0 0 (zA n ad sz) := by
  refine zmet (by decide +kernel) (Nat.le_of_ble_eq_true rfl) (fun p e s m args below meth c ls hC hsz hZ hA hr hlocks hnm hl => ?_)
  have hC : zC p m c cX7_far 1 s args RX7 D cy := hC
  have hx := hC.1.1
  have hb := hC.1.2.1
  have hl : lv_has ls 1 [(0, .int x)] := hl
  refine lv_iload_n hx hb dX7_far_0 rfl (lv_at hl 0 rfl) ?_
  refine lv_ldc (v := 1000000000) hx hb hC.1.2.2.2.1 (hC.1.2.2.2.2 _ qX7_60) dX7_far_1 ?_
  refine lv_isub hx hb dX7_far_3 ?_
  have hq_1 : (x - 1000000000) = x - 1000000000 := by rfl
  exact zireti hC hZ hr hlocks ⟨hq_1, rfl⟩ dX7_far_4

theorem mX7_here : zMd yX7_here cX7_here 1 (some .int) 0 := ⟨by decide +kernel, gt_of 909 (by decide +kernel) rfl, gt_of 52 (by decide +kernel) rfl, by decide⟩
theorem dX7_here_0 : decode cX7_here 0 = .ok (.aload_n 0, 1) := by decide +kernel
theorem dX7_here_1 : decode cX7_here 1 = .ok (.getfield 73, 3) := by decide +kernel
theorem fX7_73 : zFld RX7 73 7 15 := ⟨RX7, TX7, 39, rfl, inX7, by decide, rfl, Or.inl (gt_of 773 (by decide +kernel) rfl)⟩
theorem dX7_here_4 : decode cX7_here 4 = .ok (.aload_n 0, 1) := by decide +kernel
theorem dX7_here_5 : decode cX7_here 5 = .ok (.getfield 76, 3) := by decide +kernel
theorem fX7_76 : zFld RX7 76 7 14 := ⟨RX7, TX7, 39, rfl, inX7, by decide, rfl, Or.inl (gt_of 772 (by decide +kernel) rfl)⟩
theorem dX7_here_8 : decode cX7_here 8 = .ok (.if_icmp .lt 7, 3) := by decide +kernel
theorem dX7_here_15 : decode cX7_here 15 = .ok (.aload_n 0, 1) := by decide +kernel
theorem dX7_here_16 : decode cX7_here 16 = .ok (.getfield 50, 3) := by decide +kernel
theorem fX7_50 : zFld RX7 50 7 37 := ⟨RX7, TX7, 39, rfl, inX7, by decide, rfl, Or.inl (gt_of 795 (by decide +kernel) rfl)⟩
theorem dX7_here_19 : decode cX7_here 19 = .ok (.aload_n 0, 1) := by decide +kernel
theorem dX7_here_20 : decode cX7_here 20 = .ok (.getfield 79, 3) := by decide +kernel
theorem fX7_79 : zFld RX7 79 7 13 := ⟨RX7, TX7, 39, rfl, inX7, by decide, rfl, Or.inl (gt_of 771 (by decide +kernel) rfl)⟩
theorem dX7_here_23 : decode cX7_here 23 = .ok (.aload_n 0, 1) := by decide +kernel
theorem dX7_here_24 : decode cX7_here 24 = .ok (.getfield 73, 3) := by decide +kernel
theorem dX7_here_27 : decode cX7_here 27 = .ok (.iadd, 1) := by decide +kernel
theorem dX7_here_28 : decode cX7_here 28 = .ok (.laload, 1) := by decide +kernel
theorem dX7_here_29 : decode cX7_here 29 = .ok (.l2i, 1) := by decide +kernel
theorem dX7_here_30 : decode cX7_here 30 = .ok (.sipush 255, 3) := by decide +kernel
theorem dX7_here_33 : decode cX7_here 33 = .ok (.iand, 1) := by decide +kernel
theorem dX7_here_34 : decode cX7_here 34 = .ok (.ireturn, 1) := by decide +kernel
theorem dX7_here_11 : decode cX7_here 11 = .ok (.iconst (-1), 1) := by decide +kernel
theorem dX7_here_12 : decode cX7_here 12 = .ok (.goto 22, 3) := by decide +kernel
set_option maxRecDepth 100000 in
theorem c_X7_here (l : Launch) (D : va_G) (cy : Nat → Nat) (n : Nat) (ad : Nat → Nat) (F : Nat → va_E) (sz : Nat) (b : Stg) (ln tc : Int32) (co : Crs) (th bs en : Int32) (u : Int32 × Int32) (st kk dw ho : Int32) (sv : Crs) (pic ia tk : Int32) (hn : 68 ≤ n) (hM : F 56 = oModel ad b ln tc co th bs en u st kk dw ho sv pic ia tk) (rw0 : Nat → Int64) (h66 : F 66 = oLongs cy 800 rw0) (x0 zn : Nat) (hx0 : x0 + 100 ≤ 800) (hzn : zn ≤ 100) (hbs : bs = nI x0) (hen : en = nI zn) (hu : Gq (zn : Int) u) : Met l yX7_here (zw yX7_here cX7_here 1 (some .int)) (rmL 0) (zPc D cy n ad F sz [.ref (ad 56)]) (va_Qi (fun r F1 => r = mch rw0 x0 zn u.1 ∧ F = F1) (zB D n ad) (zA n ad sz)) 0 0 (zA n ad sz) := by
  refine zmet (by decide +kernel) (Nat.le_of_ble_eq_true rfl) (fun p e s m args below meth c ls hC hsz hZ hA hr hlocks hnm hl => ?_)
  have hC : zC p m c cX7_here 1 s args RX7 D cy := hC
  have hx := hC.1.1
  have hb := hC.1.2.1
  have hl : lv_has ls 1 [(0, .ref (ad 56))] := hl
  refine lv_aload_n hx hb dX7_here_0 rfl (lv_at hl 0 rfl) ?_
  refine zget hC hZ fX7_73 (zlt hn rfl) hM rfl dX7_here_1 ?_
  refine lv_aload_n hx hb dX7_here_4 rfl (lv_at hl 0 rfl) ?_
  refine zget hC hZ fX7_76 (zlt hn rfl) hM rfl dX7_here_5 ?_
  refine lv_icmp_lt (tgt := 15) hx hb dX7_here_8 (by decide) (fun c_8 => ?_) (fun c_8 => ?_)
  · refine lv_aload_n hx hb dX7_here_15 rfl (lv_at hl 0 rfl) ?_
    refine zget hC hZ fX7_50 (zlt hn rfl) hM rfl dX7_here_16 ?_
    refine lv_aload_n hx hb dX7_here_19 rfl (lv_at hl 0 rfl) ?_
    refine zget hC hZ fX7_79 (zlt hn rfl) hM rfl dX7_here_20 ?_
    refine lv_aload_n hx hb dX7_here_23 rfl (lv_at hl 0 rfl) ?_
    refine zget hC hZ fX7_73 (zlt hn rfl) hM rfl dX7_here_24 ?_
    refine lv_iadd hx hb dX7_here_27 ?_
    have hix : bs + u.1 = nI (x0 + iN u.1) ∧ x0 + iN u.1 < 800 := by rw [hbs]; exact mch_ix hzn hx0 hu.1 (by rw [← hen]; exact Int32.not_le.mpr c_8)
    refine zlald hC hZ (zlt hn rfl) h66 hix.1 hix.2 (by decide) dX7_here_28 ?_
    refine lv_l2i (v := (rw0 (x0 + iN u.1)).toInt32) hx hb dX7_here_29 rfl ?_
    refine lv_sipush (v := 255) hx hb dX7_here_30 (by decide) ?_
    refine lv_iand hx hb dX7_here_33 ?_
    have hq : ((rw0 (x0 + iN u.1)).toInt32 &&& 255) = mch rw0 x0 zn u.1 := (mch_in hu.1 (by rw [← hen]; exact Int32.not_le.mpr c_8)).symm
    exact zireti hC hZ hr hlocks ⟨hq, rfl⟩ dX7_here_34
  · refine lv_iconst (v := (-1)) hx hb dX7_here_11 (by decide) ?_
    refine lv_goto (tgt := 34) hx hb dX7_here_12 (by decide) ?_
    have hq : (-1 : Int32) = mch rw0 x0 zn u.1 := (mch_end (by rw [← hen]; exact Int32.not_lt.mp c_8)).symm
    exact zireti hC hZ hr hlocks ⟨hq, rfl⟩ dX7_here_34

theorem mX7_take : zMd yX7_take cX7_take 2 none 1 := ⟨by decide +kernel, gt_of 905 (by decide +kernel) rfl, gt_of 52 (by decide +kernel) rfl, by decide⟩
theorem dX7_take_0 : decode cX7_take 0 = .ok (.aload_n 0, 1) := by decide +kernel
theorem dX7_take_1 : decode cX7_take 1 = .ok (.aload_n 0, 1) := by decide +kernel
theorem dX7_take_2 : decode cX7_take 2 = .ok (.getfield 82, 3) := by decide +kernel
theorem fX7_82 : zFld RX7 82 7 16 := ⟨RX7, TX7, 39, rfl, inX7, by decide, rfl, Or.inl (gt_of 774 (by decide +kernel) rfl)⟩
theorem dX7_take_5 : decode cX7_take 5 = .ok (.ifCond .ne 11, 3) := by decide +kernel
theorem dX7_take_16 : decode cX7_take 16 = .ok (.iconst 1, 1) := by decide +kernel
theorem dX7_take_17 : decode cX7_take 17 = .ok (.goto 4, 3) := by decide +kernel
theorem dX7_take_21 : decode cX7_take 21 = .ok (.putfield 82, 3) := by decide +kernel
theorem pX7_82 : zFldP RX7 82 7 16 false .boolean := ⟨RX7, TX7, 39, tyX7, rfl, inX7, by decide, rfl, Or.inl (gt_of 774 (by decide +kernel) rfl), tyX7_ok, nmX7, rfl, by decide +kernel, fun h => by cases h⟩
theorem dX7_take_24 : decode cX7_take 24 = .ok (.aload_n 0, 1) := by decide +kernel
theorem dX7_take_25 : decode cX7_take 25 = .ok (.dup, 1) := by decide +kernel
theorem dX7_take_26 : decode cX7_take 26 = .ok (.getfield 73, 3) := by decide +kernel
theorem dX7_take_29 : decode cX7_take 29 = .ok (.aload_n 0, 1) := by decide +kernel
theorem dX7_take_30 : decode cX7_take 30 = .ok (.getfield 82, 3) := by decide +kernel
theorem dX7_take_33 : decode cX7_take 33 = .ok (.ifCond .eq 7, 3) := by decide +kernel
theorem dX7_take_36 : decode cX7_take 36 = .ok (.iconst 0, 1) := by decide +kernel
theorem dX7_take_37 : decode cX7_take 37 = .ok (.goto 4, 3) := by decide +kernel
theorem dX7_take_41 : decode cX7_take 41 = .ok (.iadd, 1) := by decide +kernel
theorem dX7_take_42 : decode cX7_take 42 = .ok (.putfield 73, 3) := by decide +kernel
theorem pX7_73 : zFldP RX7 73 7 15 false .int := ⟨RX7, TX7, 39, tyX7, rfl, inX7, by decide, rfl, Or.inl (gt_of 773 (by decide +kernel) rfl), tyX7_ok, nmX7, rfl, by decide +kernel, fun h => by cases h⟩
theorem dX7_take_45 : decode cX7_take 45 = .ok (.return_, 1) := by decide +kernel
theorem dX7_take_8 : decode cX7_take 8 = .ok (.aload_n 0, 1) := by decide +kernel
theorem dX7_take_9 : decode cX7_take 9 = .ok (.invokevirtual 86, 3) := by decide +kernel
theorem kX7_86 : zLk RX7 86 yX7_here := Or.inl (gt_of 906 (by decide +kernel) rfl)
theorem vX7_here : zMi yX7_here := ⟨gt_of 908 (by decide +kernel) rfl, gt_of 22 (by decide +kernel) rfl⟩
theorem dX7_take_12 : decode cX7_take 12 = .ok (.iload_n 1, 1) := by decide +kernel
theorem dX7_take_13 : decode cX7_take 13 = .ok (.if_icmp .eq 7, 3) := by decide +kernel
theorem dX7_take_20 : decode cX7_take 20 = .ok (.iconst 0, 1) := by decide +kernel
theorem dX7_take_40 : decode cX7_take 40 = .ok (.iconst 1, 1) := by decide +kernel
set_option maxRecDepth 100000 in
theorem c_X7_take (l : Launch) (D : va_G) (cy : Nat → Nat) (n : Nat) (ad : Nat → Nat) (F : Nat → va_E) (sz : Nat) (b : Stg) (ln tc : Int32) (co : Crs) (th bs en : Int32) (u : Int32 × Int32) (st kk dw ho : Int32) (sv : Crs) (pic ia tk : Int32) (hn : 68 ≤ n) (hM : F 56 = oModel ad b ln tc co th bs en u st kk dw ho sv pic ia tk) (rw0 : Nat → Int64) (h66 : F 66 = oLongs cy 800 rw0) (g : Int32) (x0 zn : Nat) (hx0 : x0 + 100 ≤ 800) (hzn : zn ≤ 100) (hbs : bs = nI x0) (hen : en = nI zn) (hu : Gq (zn : Int) u) : Met l yX7_take (zw yX7_take cX7_take 2 none) (rmL 1) (zPc D cy n ad F sz [.ref (ad 56), .int g]) (va_Qv (fun F1 => F1 = va_up F 56 (oModel ad b ln tc co th bs en (sNeed (mch rw0 x0 zn) g u) st kk dw ho sv pic ia tk)) (zB D n ad) (zA n ad sz)) 0 0 (zA n ad sz) := by
  refine zmet (by decide +kernel) (Nat.le_of_ble_eq_true rfl) (fun p e s m args below meth c ls hC hsz hZ hA hr hlocks hnm hl => ?_)
  have hC : zC p m c cX7_take 2 s args RX7 D cy := hC
  have hx := hC.1.1
  have hb := hC.1.2.1
  have hl : lv_has ls 2 [(0, .ref (ad 56)), (1, .int g)] := hl
  refine lv_aload_n hx hb dX7_take_0 rfl (lv_at hl 0 rfl) ?_
  refine lv_aload_n hx hb dX7_take_1 rfl (lv_at hl 0 rfl) ?_
  refine zget hC hZ fX7_82 (zlt hn rfl) hM rfl dX7_take_2 ?_
  refine lv_if_ne (tgt := 16) hx hb dX7_take_5 (by decide) (fun c_5 => ?_) (fun c_5 => ?_)
  · refine lv_iconst (v := 1) hx hb dX7_take_16 (by decide) ?_
    refine lv_goto (tgt := 21) hx hb dX7_take_17 (by decide) ?_
    refine zput (E := oModel ad b ln tc co th bs en (u.1, 1) st kk dw ho sv pic ia tk) hC hZ pX7_82 (zlt hn rfl) hM rfl rfl rfl (Nat.le_of_ble_eq_true rfl) dX7_take_21 (fun F_1 hF_2 H locs hZ => ?_)
    have h_3 := zeq hF_2
    refine lv_aload_n hx hb dX7_take_24 rfl (lv_at hl 0 rfl) ?_
    refine lv_dup hx hb dX7_take_25 rfl ?_
    refine zget hC hZ fX7_73 (zlt hn rfl) h_3 rfl dX7_take_26 ?_
    refine lv_aload_n hx hb dX7_take_29 rfl (lv_at hl 0 rfl) ?_
    refine zget hC hZ fX7_82 (zlt hn rfl) h_3 rfl dX7_take_30 ?_
    refine lv_if_eq (tgt := 40) hx hb dX7_take_33 (by decide) (fun h => absurd (show (1 : Int32) = 0 from h) (by decide)) (fun _ => ?_)
    refine lv_iconst (v := 0) hx hb dX7_take_36 (by decide) ?_
    refine lv_goto (tgt := 41) hx hb dX7_take_37 (by decide) ?_
    refine lv_iadd hx hb dX7_take_41 ?_
    refine zput (E := oModel ad b ln tc co th bs en ((u.1 + 0), 1) st kk dw ho sv pic ia tk) hC hZ pX7_73 (zlt hn rfl) h_3 rfl rfl rfl (Nat.le_of_ble_eq_true rfl) dX7_take_42 (fun F_4 hF_5 H locs hZ => ?_)
    have h_6 := zeq hF_5
    have hq : F_4 = va_up F 56 (oModel ad b ln tc co th bs en (sNeed (mch rw0 x0 zn) g u) st kk dw ho sv pic ia tk) := by
      rw [sNeed_neg (fun h => c_5 h.1), hF_5, hF_2]; simp only [bx_uu, Int32.add_zero]
    exact zvret hC hZ hr hlocks hq dX7_take_45
  · refine lv_aload_n hx hb dX7_take_8 rfl (lv_at hl 0 rfl) ?_
    refine zgoi hZ hA (zrunV (As := []) (rest := [.ref (ad 56)]) (k := 56) hC hZ (c_X7_here l D cy n ad F s.heap.size b ln tc co th bs en u st kk dw ho sv pic ia tk hn hM rw0 h66 x0 zn hx0 hzn hbs hen hu) mX7_here vX7_here kX7_86 (zRj_of rfl) (zlt hn rfl) hM rfl rfl hl.1 rfl (Nat.le_of_ble_eq_true rfl) dX7_take_9 ⟨Nat.le_refl _, Nat.le_refl _⟩) (fun r_8 F_7 hp_9 H locs hZ => ?_)
    obtain ⟨rfl, rfl⟩ := hp_9
    refine lv_iload_n hx hb dX7_take_12 rfl (lv_at hl 1 rfl) ?_
    refine lv_icmp_eq (tgt := 20) hx hb dX7_take_13 (by decide) (fun c_13 => ?_) (fun c_13 => ?_)
    · refine lv_iconst (v := 0) hx hb dX7_take_20 (by decide) ?_
      refine zput (E := oModel ad b ln tc co th bs en (u.1, 0) st kk dw ho sv pic ia tk) hC hZ pX7_82 (zlt hn rfl) hM rfl rfl rfl (Nat.le_of_ble_eq_true rfl) dX7_take_21 (fun F_10 hF_11 H locs hZ => ?_)
      have h_12 := zeq hF_11
      refine lv_aload_n hx hb dX7_take_24 rfl (lv_at hl 0 rfl) ?_
      refine lv_dup hx hb dX7_take_25 rfl ?_
      refine zget hC hZ fX7_73 (zlt hn rfl) h_12 rfl dX7_take_26 ?_
      refine lv_aload_n hx hb dX7_take_29 rfl (lv_at hl 0 rfl) ?_
      refine zget hC hZ fX7_82 (zlt hn rfl) h_12 rfl dX7_take_30 ?_
      refine lv_if_eq (tgt := 40) hx hb dX7_take_33 (by decide) (fun _ => ?_) (fun h => absurd (show (0 : Int32) = 0 by decide) h)
      refine lv_iconst (v := 1) hx hb dX7_take_40 (by decide) ?_
      refine lv_iadd hx hb dX7_take_41 ?_
      refine zput (E := oModel ad b ln tc co th bs en ((u.1 + 1), 0) st kk dw ho sv pic ia tk) hC hZ pX7_73 (zlt hn rfl) h_12 rfl rfl rfl (Nat.le_of_ble_eq_true rfl) dX7_take_42 (fun F_13 hF_14 H locs hZ => ?_)
      have h_15 := zeq hF_14
      have hq : F_13 = va_up F 56 (oModel ad b ln tc co th bs en (sNeed (mch rw0 x0 zn) g u) st kk dw ho sv pic ia tk) := by
        rw [sNeed_pos (q := u) (ch := (mch rw0 x0 zn)) (g := g) ⟨c_5, c_13⟩, sAcc_pos (q := u) (ch := (mch rw0 x0 zn)) (g := g) ⟨c_5, c_13⟩, c_5, hF_14, hF_11]; simp only [bx_uu, Int32.add_zero]
      exact zvret hC hZ hr hlocks hq dX7_take_45
    · refine lv_iconst (v := 1) hx hb dX7_take_16 (by decide) ?_
      refine lv_goto (tgt := 21) hx hb dX7_take_17 (by decide) ?_
      refine zput (E := oModel ad b ln tc co th bs en (u.1, 1) st kk dw ho sv pic ia tk) hC hZ pX7_82 (zlt hn rfl) hM rfl rfl rfl (Nat.le_of_ble_eq_true rfl) dX7_take_21 (fun F_16 hF_17 H locs hZ => ?_)
      have h_18 := zeq hF_17
      refine lv_aload_n hx hb dX7_take_24 rfl (lv_at hl 0 rfl) ?_
      refine lv_dup hx hb dX7_take_25 rfl ?_
      refine zget hC hZ fX7_73 (zlt hn rfl) h_18 rfl dX7_take_26 ?_
      refine lv_aload_n hx hb dX7_take_29 rfl (lv_at hl 0 rfl) ?_
      refine zget hC hZ fX7_82 (zlt hn rfl) h_18 rfl dX7_take_30 ?_
      refine lv_if_eq (tgt := 40) hx hb dX7_take_33 (by decide) (fun h => absurd (show (1 : Int32) = 0 from h) (by decide)) (fun _ => ?_)
      refine lv_iconst (v := 0) hx hb dX7_take_36 (by decide) ?_
      refine lv_goto (tgt := 41) hx hb dX7_take_37 (by decide) ?_
      refine lv_iadd hx hb dX7_take_41 ?_
      refine zput (E := oModel ad b ln tc co th bs en ((u.1 + 0), 1) st kk dw ho sv pic ia tk) hC hZ pX7_73 (zlt hn rfl) h_18 rfl rfl rfl (Nat.le_of_ble_eq_true rfl) dX7_take_42 (fun F_19 hF_20 H locs hZ => ?_)
      have h_21 := zeq hF_20
      have hq : F_19 = va_up F 56 (oModel ad b ln tc co th bs en (sNeed (mch rw0 x0 zn) g u) st kk dw ho sv pic ia tk) := by
        rw [sNeed_neg (fun h => c_13 h.2), hF_20, hF_17]; simp only [bx_uu, Int32.add_zero]
      exact zvret hC hZ hr hlocks hq dX7_take_45

theorem mX7_hasLetter : zMd yX7_hasLetter cX7_hasLetter 3 (some .boolean) 1 := ⟨by decide +kernel, gt_of 923 (by decide +kernel) rfl, gt_of 52 (by decide +kernel) rfl, by decide⟩
theorem dX7_hasLetter_0 : decode cX7_hasLetter 0 = .ok (.aload_n 0, 1) := by decide +kernel
theorem dX7_hasLetter_1 : decode cX7_hasLetter 1 = .ok (.getfield 82, 3) := by decide +kernel
theorem dX7_hasLetter_4 : decode cX7_hasLetter 4 = .ok (.ifCond .ne 15, 3) := by decide +kernel
theorem dX7_hasLetter_19 : decode cX7_hasLetter 19 = .ok (.iconst 0, 1) := by decide +kernel
theorem dX7_hasLetter_20 : decode cX7_hasLetter 20 = .ok (.istore_n 2, 1) := by decide +kernel
theorem dX7_hasLetter_21 : decode cX7_hasLetter 21 = .ok (.aload_n 0, 1) := by decide +kernel
theorem dX7_hasLetter_22 : decode cX7_hasLetter 22 = .ok (.dup, 1) := by decide +kernel
theorem dX7_hasLetter_23 : decode cX7_hasLetter 23 = .ok (.getfield 73, 3) := by decide +kernel
theorem dX7_hasLetter_26 : decode cX7_hasLetter 26 = .ok (.iload_n 2, 1) := by decide +kernel
theorem dX7_hasLetter_27 : decode cX7_hasLetter 27 = .ok (.ifCond .eq 7, 3) := by decide +kernel
theorem dX7_hasLetter_34 : decode cX7_hasLetter 34 = .ok (.iconst 0, 1) := by decide +kernel
theorem dX7_hasLetter_35 : decode cX7_hasLetter 35 = .ok (.iadd, 1) := by decide +kernel
theorem dX7_hasLetter_36 : decode cX7_hasLetter 36 = .ok (.putfield 73, 3) := by decide +kernel
theorem dX7_hasLetter_39 : decode cX7_hasLetter 39 = .ok (.iload_n 2, 1) := by decide +kernel
theorem dX7_hasLetter_40 : decode cX7_hasLetter 40 = .ok (.ireturn, 1) := by decide +kernel
theorem dX7_hasLetter_7 : decode cX7_hasLetter 7 = .ok (.aload_n 0, 1) := by decide +kernel
theorem dX7_hasLetter_8 : decode cX7_hasLetter 8 = .ok (.invokevirtual 86, 3) := by decide +kernel
theorem dX7_hasLetter_11 : decode cX7_hasLetter 11 = .ok (.iload_n 1, 1) := by decide +kernel
theorem dX7_hasLetter_12 : decode cX7_hasLetter 12 = .ok (.if_icmp .ne 7, 3) := by decide +kernel
theorem dX7_hasLetter_15 : decode cX7_hasLetter 15 = .ok (.iconst 1, 1) := by decide +kernel
theorem dX7_hasLetter_16 : decode cX7_hasLetter 16 = .ok (.goto 4, 3) := by decide +kernel
theorem dX7_hasLetter_30 : decode cX7_hasLetter 30 = .ok (.iconst 1, 1) := by decide +kernel
theorem dX7_hasLetter_31 : decode cX7_hasLetter 31 = .ok (.goto 4, 3) := by decide +kernel
set_option maxRecDepth 100000 in
theorem c_X7_hasLetter (l : Launch) (D : va_G) (cy : Nat → Nat) (n : Nat) (ad : Nat → Nat) (F : Nat → va_E) (sz : Nat) (b : Stg) (ln tc : Int32) (co : Crs) (th bs en : Int32) (u : Int32 × Int32) (st kk dw ho : Int32) (sv : Crs) (pic ia tk : Int32) (hn : 68 ≤ n) (hM : F 56 = oModel ad b ln tc co th bs en u st kk dw ho sv pic ia tk) (rw0 : Nat → Int64) (h66 : F 66 = oLongs cy 800 rw0) (g : Int32) (x0 zn : Nat) (hx0 : x0 + 100 ≤ 800) (hzn : zn ≤ 100) (hbs : bs = nI x0) (hen : en = nI zn) (hu : Gq (zn : Int) u) : Met l yX7_hasLetter (zw yX7_hasLetter cX7_hasLetter 3 (some .boolean)) (rmL 1) (zPc D cy n ad F sz [.ref (ad 56), .int g]) (va_Qi (fun r F1 => r = (if bAcc (mch rw0 x0 zn) g u then 1 else 0) ∧ F1 = va_up F 56 (oModel ad b ln tc co th bs en (sAcc (mch rw0 x0 zn) g u) st kk dw ho sv pic ia tk)) (zB D n ad) (zA n ad sz)) 0 0 (zA n ad sz) := by
  refine zmet (by decide +kernel) (Nat.le_of_ble_eq_true rfl) (fun p e s m args below meth c ls hC hsz hZ hA hr hlocks hnm hl => ?_)
  have hC : zC p m c cX7_hasLetter 3 s args RX7 D cy := hC
  have hx := hC.1.1
  have hb := hC.1.2.1
  have hl : lv_has ls 3 [(0, .ref (ad 56)), (1, .int g)] := hl
  refine lv_aload_n hx hb dX7_hasLetter_0 rfl (lv_at hl 0 rfl) ?_
  refine zget hC hZ fX7_82 (zlt hn rfl) hM rfl dX7_hasLetter_1 ?_
  refine lv_if_ne (tgt := 19) hx hb dX7_hasLetter_4 (by decide) (fun c_4 => ?_) (fun c_4 => ?_)
  · refine lv_iconst (v := 0) hx hb dX7_hasLetter_19 (by decide) ?_
    refine lv_istore_n (lv' := [(2, .int 0), (0, .ref (ad 56)), (1, .int g)]) hx hb dX7_hasLetter_20 rfl hl (by decide) rfl (fun ls hl => ?_)
    refine lv_aload_n hx hb dX7_hasLetter_21 rfl (lv_at hl 1 rfl) ?_
    refine lv_dup hx hb dX7_hasLetter_22 rfl ?_
    refine zget hC hZ fX7_73 (zlt hn rfl) hM rfl dX7_hasLetter_23 ?_
    refine lv_iload_n hx hb dX7_hasLetter_26 rfl (lv_at hl 0 rfl) ?_
    refine lv_if_eq (tgt := 34) hx hb dX7_hasLetter_27 (by decide) (fun _ => ?_) (fun h => absurd (show (0 : Int32) = 0 by decide) h)
    refine lv_iconst (v := 0) hx hb dX7_hasLetter_34 (by decide) ?_
    refine lv_iadd hx hb dX7_hasLetter_35 ?_
    refine zput (E := oModel ad b ln tc co th bs en ((u.1 + 0), u.2) st kk dw ho sv pic ia tk) hC hZ pX7_73 (zlt hn rfl) hM rfl rfl rfl (Nat.le_of_ble_eq_true rfl) dX7_hasLetter_36 (fun F_1 hF_2 H locs hZ => ?_)
    have h_3 := zeq hF_2
    refine lv_iload_n hx hb dX7_hasLetter_39 rfl (lv_at hl 0 rfl) ?_
    have hq0 : (0 : Int32) = if bAcc (mch rw0 x0 zn) g u then 1 else 0 := (if_neg (fun h => c_4 h.1)).symm
    have hq : F_1 = va_up F 56 (oModel ad b ln tc co th bs en (sAcc (mch rw0 x0 zn) g u) st kk dw ho sv pic ia tk) := by
      rw [sAcc_neg (q := u) (ch := (mch rw0 x0 zn)) (g := g) (fun h => c_4 h.1), hF_2]; simp only [Int32.add_zero]
    exact zbreti hC hZ hr hlocks rfl ⟨hq0, hq⟩ dX7_hasLetter_40
  · refine lv_aload_n hx hb dX7_hasLetter_7 rfl (lv_at hl 0 rfl) ?_
    refine zgoi hZ hA (zrunV (As := []) (rest := []) (k := 56) hC hZ (c_X7_here l D cy n ad F s.heap.size b ln tc co th bs en u st kk dw ho sv pic ia tk hn hM rw0 h66 x0 zn hx0 hzn hbs hen hu) mX7_here vX7_here kX7_86 (zRj_of rfl) (zlt hn rfl) hM rfl rfl hl.1 rfl (Nat.le_of_ble_eq_true rfl) dX7_hasLetter_8 ⟨Nat.le_refl _, Nat.le_refl _⟩) (fun r_5 F_4 hp_6 H locs hZ => ?_)
    obtain ⟨rfl, rfl⟩ := hp_6
    refine lv_iload_n hx hb dX7_hasLetter_11 rfl (lv_at hl 1 rfl) ?_
    refine lv_icmp_ne (tgt := 19) hx hb dX7_hasLetter_12 (by decide) (fun c_12 => ?_) (fun c_12 => ?_)
    · refine lv_iconst (v := 0) hx hb dX7_hasLetter_19 (by decide) ?_
      refine lv_istore_n (lv' := [(2, .int 0), (0, .ref (ad 56)), (1, .int g)]) hx hb dX7_hasLetter_20 rfl hl (by decide) rfl (fun ls hl => ?_)
      refine lv_aload_n hx hb dX7_hasLetter_21 rfl (lv_at hl 1 rfl) ?_
      refine lv_dup hx hb dX7_hasLetter_22 rfl ?_
      refine zget hC hZ fX7_73 (zlt hn rfl) hM rfl dX7_hasLetter_23 ?_
      refine lv_iload_n hx hb dX7_hasLetter_26 rfl (lv_at hl 0 rfl) ?_
      refine lv_if_eq (tgt := 34) hx hb dX7_hasLetter_27 (by decide) (fun _ => ?_) (fun h => absurd (show (0 : Int32) = 0 by decide) h)
      refine lv_iconst (v := 0) hx hb dX7_hasLetter_34 (by decide) ?_
      refine lv_iadd hx hb dX7_hasLetter_35 ?_
      refine zput (E := oModel ad b ln tc co th bs en ((u.1 + 0), u.2) st kk dw ho sv pic ia tk) hC hZ pX7_73 (zlt hn rfl) hM rfl rfl rfl (Nat.le_of_ble_eq_true rfl) dX7_hasLetter_36 (fun F_7 hF_8 H locs hZ => ?_)
      have h_9 := zeq hF_8
      refine lv_iload_n hx hb dX7_hasLetter_39 rfl (lv_at hl 0 rfl) ?_
      have hq0 : (0 : Int32) = if bAcc (mch rw0 x0 zn) g u then 1 else 0 := (if_neg (fun h => c_12 h.2)).symm
      have hq : F_7 = va_up F 56 (oModel ad b ln tc co th bs en (sAcc (mch rw0 x0 zn) g u) st kk dw ho sv pic ia tk) := by
        rw [sAcc_neg (q := u) (ch := (mch rw0 x0 zn)) (g := g) (fun h => c_12 h.2), hF_8]; simp only [Int32.add_zero]
      exact zbreti hC hZ hr hlocks rfl ⟨hq0, hq⟩ dX7_hasLetter_40
    · refine lv_iconst (v := 1) hx hb dX7_hasLetter_15 (by decide) ?_
      refine lv_goto (tgt := 20) hx hb dX7_hasLetter_16 (by decide) ?_
      refine lv_istore_n (lv' := [(2, .int 1), (0, .ref (ad 56)), (1, .int g)]) hx hb dX7_hasLetter_20 rfl hl (by decide) rfl (fun ls hl => ?_)
      refine lv_aload_n hx hb dX7_hasLetter_21 rfl (lv_at hl 1 rfl) ?_
      refine lv_dup hx hb dX7_hasLetter_22 rfl ?_
      refine zget hC hZ fX7_73 (zlt hn rfl) hM rfl dX7_hasLetter_23 ?_
      refine lv_iload_n hx hb dX7_hasLetter_26 rfl (lv_at hl 0 rfl) ?_
      refine lv_if_eq (tgt := 34) hx hb dX7_hasLetter_27 (by decide) (fun h => absurd (show (1 : Int32) = 0 from h) (by decide)) (fun _ => ?_)
      refine lv_iconst (v := 1) hx hb dX7_hasLetter_30 (by decide) ?_
      refine lv_goto (tgt := 35) hx hb dX7_hasLetter_31 (by decide) ?_
      refine lv_iadd hx hb dX7_hasLetter_35 ?_
      refine zput (E := oModel ad b ln tc co th bs en ((u.1 + 1), u.2) st kk dw ho sv pic ia tk) hC hZ pX7_73 (zlt hn rfl) hM rfl rfl rfl (Nat.le_of_ble_eq_true rfl) dX7_hasLetter_36 (fun F_10 hF_11 H locs hZ => ?_)
      have h_12 := zeq hF_11
      refine lv_iload_n hx hb dX7_hasLetter_39 rfl (lv_at hl 0 rfl) ?_
      have hq0 : (1 : Int32) = if bAcc (mch rw0 x0 zn) g u then 1 else 0 := (if_pos ⟨c_4, c_12⟩).symm
      have hq : F_10 = va_up F 56 (oModel ad b ln tc co th bs en (sAcc (mch rw0 x0 zn) g u) st kk dw ho sv pic ia tk) := by
        rw [sAcc_pos (q := u) (ch := (mch rw0 x0 zn)) (g := g) ⟨c_4, c_12⟩, hF_11]
      exact zbreti hC hZ hr hlocks rfl ⟨hq0, hq⟩ dX7_hasLetter_40

theorem mX7_readDigit : zMd yX7_readDigit cX7_readDigit 1 (some .int) 0 := ⟨by decide +kernel, gt_of 917 (by decide +kernel) rfl, gt_of 52 (by decide +kernel) rfl, by decide⟩
theorem dX7_readDigit_0 : decode cX7_readDigit 0 = .ok (.aload_n 0, 1) := by decide +kernel
theorem dX7_readDigit_1 : decode cX7_readDigit 1 = .ok (.aload_n 0, 1) := by decide +kernel
theorem dX7_readDigit_2 : decode cX7_readDigit 2 = .ok (.getfield 82, 3) := by decide +kernel
theorem dX7_readDigit_5 : decode cX7_readDigit 5 = .ok (.ifCond .ne 20, 3) := by decide +kernel
theorem dX7_readDigit_25 : decode cX7_readDigit 25 = .ok (.iconst 1, 1) := by decide +kernel
theorem dX7_readDigit_26 : decode cX7_readDigit 26 = .ok (.goto 4, 3) := by decide +kernel
theorem dX7_readDigit_30 : decode cX7_readDigit 30 = .ok (.putfield 82, 3) := by decide +kernel
theorem dX7_readDigit_33 : decode cX7_readDigit 33 = .ok (.aload_n 0, 1) := by decide +kernel
theorem dX7_readDigit_34 : decode cX7_readDigit 34 = .ok (.getfield 82, 3) := by decide +kernel
theorem dX7_readDigit_37 : decode cX7_readDigit 37 = .ok (.ifCond .eq 5, 3) := by decide +kernel
theorem dX7_readDigit_40 : decode cX7_readDigit 40 = .ok (.iconst 0, 1) := by decide +kernel
theorem dX7_readDigit_41 : decode cX7_readDigit 41 = .ok (.ireturn, 1) := by decide +kernel
theorem dX7_readDigit_8 : decode cX7_readDigit 8 = .ok (.aload_n 0, 1) := by decide +kernel
theorem dX7_readDigit_9 : decode cX7_readDigit 9 = .ok (.invokevirtual 86, 3) := by decide +kernel
theorem dX7_readDigit_12 : decode cX7_readDigit 12 = .ok (.i2l, 1) := by decide +kernel
theorem dX7_readDigit_13 : decode cX7_readDigit 13 = .ok (.ldc2_w 90, 3) := by decide +kernel
theorem qX7_90 : Cond.constantLong RX7 90 48 ∈ gtbl := gt_of 918 (by decide +kernel) rfl
theorem dX7_readDigit_16 : decode cX7_readDigit 16 = .ok (.ldc2_w 92, 3) := by decide +kernel
theorem qX7_92 : Cond.constantLong RX7 92 57 ∈ gtbl := gt_of 919 (by decide +kernel) rfl
theorem dX7_readDigit_19 : decode cX7_readDigit 19 = .ok (.invokestatic 63, 3) := by decide +kernel
theorem kX7_63 : zLk RX7 63 yX7_in := Or.inl (gt_of 886 (by decide +kernel) rfl)
theorem sX7_in : Cond.static yX7_in ∈ gtbl := gt_of 887 (by decide +kernel) rfl
theorem dX7_readDigit_22 : decode cX7_readDigit 22 = .ok (.ifCond .ne 7, 3) := by decide +kernel
theorem dX7_readDigit_29 : decode cX7_readDigit 29 = .ok (.iconst 0, 1) := by decide +kernel
theorem dX7_readDigit_42 : decode cX7_readDigit 42 = .ok (.aload_n 0, 1) := by decide +kernel
theorem dX7_readDigit_43 : decode cX7_readDigit 43 = .ok (.dup, 1) := by decide +kernel
theorem dX7_readDigit_44 : decode cX7_readDigit 44 = .ok (.getfield 73, 3) := by decide +kernel
theorem dX7_readDigit_47 : decode cX7_readDigit 47 = .ok (.iconst 1, 1) := by decide +kernel
theorem dX7_readDigit_48 : decode cX7_readDigit 48 = .ok (.iadd, 1) := by decide +kernel
theorem dX7_readDigit_49 : decode cX7_readDigit 49 = .ok (.putfield 73, 3) := by decide +kernel
theorem dX7_readDigit_52 : decode cX7_readDigit 52 = .ok (.aload_n 0, 1) := by decide +kernel
theorem dX7_readDigit_53 : decode cX7_readDigit 53 = .ok (.getfield 50, 3) := by decide +kernel
theorem dX7_readDigit_56 : decode cX7_readDigit 56 = .ok (.aload_n 0, 1) := by decide +kernel
theorem dX7_readDigit_57 : decode cX7_readDigit 57 = .ok (.getfield 79, 3) := by decide +kernel
theorem dX7_readDigit_60 : decode cX7_readDigit 60 = .ok (.aload_n 0, 1) := by decide +kernel
theorem dX7_readDigit_61 : decode cX7_readDigit 61 = .ok (.getfield 73, 3) := by decide +kernel
theorem dX7_readDigit_64 : decode cX7_readDigit 64 = .ok (.iadd, 1) := by decide +kernel
theorem dX7_readDigit_65 : decode cX7_readDigit 65 = .ok (.iconst 1, 1) := by decide +kernel
theorem dX7_readDigit_66 : decode cX7_readDigit 66 = .ok (.isub, 1) := by decide +kernel
theorem dX7_readDigit_67 : decode cX7_readDigit 67 = .ok (.laload, 1) := by decide +kernel
theorem dX7_readDigit_68 : decode cX7_readDigit 68 = .ok (.l2i, 1) := by decide +kernel
theorem dX7_readDigit_69 : decode cX7_readDigit 69 = .ok (.bipush 48, 2) := by decide +kernel
theorem dX7_readDigit_71 : decode cX7_readDigit 71 = .ok (.isub, 1) := by decide +kernel
theorem dX7_readDigit_72 : decode cX7_readDigit 72 = .ok (.ireturn, 1) := by decide +kernel
set_option maxRecDepth 100000 in
theorem c_X7_readDigit (l : Launch) (D : va_G) (cy : Nat → Nat) (n : Nat) (ad : Nat → Nat) (F : Nat → va_E) (sz : Nat) (b : Stg) (ln tc : Int32) (co : Crs) (th bs en : Int32) (u : Int32 × Int32) (st kk dw ho : Int32) (sv : Crs) (pic ia tk : Int32) (hn : 68 ≤ n) (hM : F 56 = oModel ad b ln tc co th bs en u st kk dw ho sv pic ia tk) (rw0 : Nat → Int64) (h66 : F 66 = oLongs cy 800 rw0) (x0 zn : Nat) (hx0 : x0 + 100 ≤ 800) (hzn : zn ≤ 100) (hbs : bs = nI x0) (hen : en = nI zn) (hu : Gq (zn : Int) u) (hby : ∀ i, i < 100 → -128 ≤ (rw0 (x0 + i)).toInt32.toInt ∧ (rw0 (x0 + i)).toInt32.toInt ≤ 127) : Met l yX7_readDigit (zw yX7_readDigit cX7_readDigit 1 (some .int)) (rmL 1) (zPc D cy n ad F sz [.ref (ad 56)]) (va_Qi (fun r F1 => r = (sDig (mch rw0 x0 zn) u).1 ∧ F1 = va_up F 56 (oModel ad b ln tc co th bs en ((sDig (mch rw0 x0 zn) u).2) st kk dw ho sv pic ia tk)) (zB D n ad) (zA n ad sz)) 0 0 (zA n ad sz) := by
  refine zmet (by decide +kernel) (Nat.le_of_ble_eq_true rfl) (fun p e s m args below meth c ls hC hsz hZ hA hr hlocks hnm hl => ?_)
  have hC : zC p m c cX7_readDigit 1 s args RX7 D cy := hC
  have hx := hC.1.1
  have hb := hC.1.2.1
  have hl : lv_has ls 1 [(0, .ref (ad 56))] := hl
  refine lv_aload_n hx hb dX7_readDigit_0 rfl (lv_at hl 0 rfl) ?_
  refine lv_aload_n hx hb dX7_readDigit_1 rfl (lv_at hl 0 rfl) ?_
  refine zget hC hZ fX7_82 (zlt hn rfl) hM rfl dX7_readDigit_2 ?_
  refine lv_if_ne (tgt := 25) hx hb dX7_readDigit_5 (by decide) (fun c_5 => ?_) (fun c_5 => ?_)
  · refine lv_iconst (v := 1) hx hb dX7_readDigit_25 (by decide) ?_
    refine lv_goto (tgt := 30) hx hb dX7_readDigit_26 (by decide) ?_
    refine zput (E := oModel ad b ln tc co th bs en (u.1, 1) st kk dw ho sv pic ia tk) hC hZ pX7_82 (zlt hn rfl) hM rfl rfl rfl (Nat.le_of_ble_eq_true rfl) dX7_readDigit_30 (fun F_1 hF_2 H locs hZ => ?_)
    have h_3 := zeq hF_2
    refine lv_aload_n hx hb dX7_readDigit_33 rfl (lv_at hl 0 rfl) ?_
    refine zget hC hZ fX7_82 (zlt hn rfl) h_3 rfl dX7_readDigit_34 ?_
    refine lv_if_eq (tgt := 42) hx hb dX7_readDigit_37 (by decide) (fun h => absurd (show (1 : Int32) = 0 from h) (by decide)) (fun _ => ?_)
    refine lv_iconst (v := 0) hx hb dX7_readDigit_40 (by decide) ?_
    have hq9 : sDig (mch rw0 x0 zn) u = (0, u.1, 1) := sDig_neg (fun h => c_5 h.1)
    have hq0 : (0 : Int32) = (sDig (mch rw0 x0 zn) u).1 := by rw [hq9]
    have hq : F_1 = va_up F 56 (oModel ad b ln tc co th bs en ((sDig (mch rw0 x0 zn) u).2) st kk dw ho sv pic ia tk) := by
      rw [hq9, hF_2]
    exact zireti hC hZ hr hlocks ⟨hq0, hq⟩ dX7_readDigit_41
  · refine lv_aload_n hx hb dX7_readDigit_8 rfl (lv_at hl 0 rfl) ?_
    refine zgoi hZ hA (zrunV (As := []) (rest := [.ref (ad 56)]) (k := 56) hC hZ (c_X7_here l D cy n ad F s.heap.size b ln tc co th bs en u st kk dw ho sv pic ia tk hn hM rw0 h66 x0 zn hx0 hzn hbs hen hu) mX7_here vX7_here kX7_86 (zRj_of rfl) (zlt hn rfl) hM rfl rfl hl.1 rfl (Nat.le_of_ble_eq_true rfl) dX7_readDigit_9 ⟨Nat.le_refl _, Nat.le_refl _⟩) (fun r_5 F_4 hp_6 H locs hZ => ?_)
    obtain ⟨rfl, rfl⟩ := hp_6
    refine lv_i2l (v := (mch rw0 x0 zn u.1).toInt64) hx hb dX7_readDigit_12 (by rfl) ?_
    refine lv_ldc2 (v := 48) hx hb hC.1.2.2.2.1 (hC.1.2.2.2.2 _ qX7_90) dX7_readDigit_13 ?_
    refine lv_ldc2 (v := 57) hx hb hC.1.2.2.2.1 (hC.1.2.2.2.2 _ qX7_92) dX7_readDigit_16 ?_
    refine zgoi hZ hA (zrunS (As := [.long ((mch rw0 x0 zn u.1).toInt64), .long 48, .long 57]) (rest := [.ref (ad 56)]) hC hZ (c_X7_in l D cy n ad F H.size (mch rw0 x0 zn u.1) 48 57 48 57 (by decide) (by decide)) mX7_in sX7_in kX7_63 (zRj_of rfl) rfl hl.1 rfl (Nat.le_of_ble_eq_true rfl) dX7_readDigit_19 ⟨Nat.le_refl _, Nat.le_refl _⟩) (fun r_8 F_7 hp_9 H locs hZ => ?_)
    obtain ⟨hp_9, rfl⟩ := hp_9
    by_cases b_10 : bIn (mch rw0 x0 zn u.1) 48 57
    · rw [if_pos b_10] at hp_9
      subst hp_9
      refine lv_if_ne (tgt := 29) hx hb dX7_readDigit_22 (by decide) (fun _ => ?_) (fun h => absurd (show (1 : Int32) = 0 from h) (by decide))
      refine lv_iconst (v := 0) hx hb dX7_readDigit_29 (by decide) ?_
      refine zput (E := oModel ad b ln tc co th bs en (u.1, 0) st kk dw ho sv pic ia tk) hC hZ pX7_82 (zlt hn rfl) hM rfl rfl rfl (Nat.le_of_ble_eq_true rfl) dX7_readDigit_30 (fun F_11 hF_12 H locs hZ => ?_)
      have h_13 := zeq hF_12
      refine lv_aload_n hx hb dX7_readDigit_33 rfl (lv_at hl 0 rfl) ?_
      refine zget hC hZ fX7_82 (zlt hn rfl) h_13 rfl dX7_readDigit_34 ?_
      refine lv_if_eq (tgt := 42) hx hb dX7_readDigit_37 (by decide) (fun _ => ?_) (fun h => absurd (show (0 : Int32) = 0 by decide) h)
      refine lv_aload_n hx hb dX7_readDigit_42 rfl (lv_at hl 0 rfl) ?_
      refine lv_dup hx hb dX7_readDigit_43 rfl ?_
      refine zget hC hZ fX7_73 (zlt hn rfl) h_13 rfl dX7_readDigit_44 ?_
      refine lv_iconst (v := 1) hx hb dX7_readDigit_47 (by decide) ?_
      refine lv_iadd hx hb dX7_readDigit_48 ?_
      refine zput (E := oModel ad b ln tc co th bs en ((u.1 + 1), 0) st kk dw ho sv pic ia tk) hC hZ pX7_73 (zlt hn rfl) h_13 rfl rfl rfl (Nat.le_of_ble_eq_true rfl) dX7_readDigit_49 (fun F_14 hF_15 H locs hZ => ?_)
      have h_16 := zeq hF_15
      refine lv_aload_n hx hb dX7_readDigit_52 rfl (lv_at hl 0 rfl) ?_
      refine zget hC hZ fX7_50 (zlt hn rfl) h_16 rfl dX7_readDigit_53 ?_
      refine lv_aload_n hx hb dX7_readDigit_56 rfl (lv_at hl 0 rfl) ?_
      refine zget hC hZ fX7_79 (zlt hn rfl) h_16 rfl dX7_readDigit_57 ?_
      refine lv_aload_n hx hb dX7_readDigit_60 rfl (lv_at hl 0 rfl) ?_
      refine zget hC hZ fX7_73 (zlt hn rfl) h_16 rfl dX7_readDigit_61 ?_
      refine lv_iadd hx hb dX7_readDigit_64 ?_
      refine lv_iconst (v := 1) hx hb dX7_readDigit_65 (by decide) ?_
      refine lv_isub hx hb dX7_readDigit_66 ?_
      have hix := mch_ix (x0 := x0) hzn hx0 hu.1 (bDig_lt (rw0 := rw0) (x0 := x0) b_10)
      refine zlald hC hZ (zlt hn rfl) (zne hF_15 (by decide) (zne hF_12 (by decide) h66)) (by rw [hbs, ← Int32.add_assoc, hix.1]; exact Int32.add_sub_cancel _ _) hix.2 (by decide) dX7_readDigit_67 ?_
      refine lv_l2i (v := (rw0 (x0 + iN u.1)).toInt32) hx hb dX7_readDigit_68 rfl ?_
      refine lv_bipush (v := 48) hx hb dX7_readDigit_69 (by decide) ?_
      refine lv_isub hx hb dX7_readDigit_71 ?_
      have hbd : bDig (mch rw0 x0 zn) u.1 := b_10
      have hval : ((rw0 (x0 + iN u.1)).toInt32 - 48) = (mch rw0 x0 zn) u.1 - 48 := by rw [mch_dig hu.1 hby hzn hbd]
      have hq9 : sDig (mch rw0 x0 zn) u = ((mch rw0 x0 zn) u.1 - 48, u.1 + 1, u.2) := sDig_pos c_5 hbd
      have hq0 : ((rw0 (x0 + iN u.1)).toInt32 - 48) = (sDig (mch rw0 x0 zn) u).1 := by rw [hq9]; exact hval
      have hq : F_14 = va_up F 56 (oModel ad b ln tc co th bs en ((sDig (mch rw0 x0 zn) u).2) st kk dw ho sv pic ia tk) := by
        rw [hq9, hF_15, hF_12]; simp only [bx_uu, c_5]
      exact zireti hC hZ hr hlocks ⟨hq0, hq⟩ dX7_readDigit_72
    · rw [if_neg b_10] at hp_9
      subst hp_9
      refine lv_if_ne (tgt := 29) hx hb dX7_readDigit_22 (by decide) (fun h => absurd (show (0 : Int32) = 0 by decide) h) (fun _ => ?_)
      refine lv_iconst (v := 1) hx hb dX7_readDigit_25 (by decide) ?_
      refine lv_goto (tgt := 30) hx hb dX7_readDigit_26 (by decide) ?_
      refine zput (E := oModel ad b ln tc co th bs en (u.1, 1) st kk dw ho sv pic ia tk) hC hZ pX7_82 (zlt hn rfl) hM rfl rfl rfl (Nat.le_of_ble_eq_true rfl) dX7_readDigit_30 (fun F_17 hF_18 H locs hZ => ?_)
      have h_19 := zeq hF_18
      refine lv_aload_n hx hb dX7_readDigit_33 rfl (lv_at hl 0 rfl) ?_
      refine zget hC hZ fX7_82 (zlt hn rfl) h_19 rfl dX7_readDigit_34 ?_
      refine lv_if_eq (tgt := 42) hx hb dX7_readDigit_37 (by decide) (fun h => absurd (show (1 : Int32) = 0 from h) (by decide)) (fun _ => ?_)
      refine lv_iconst (v := 0) hx hb dX7_readDigit_40 (by decide) ?_
      have hq9 : sDig (mch rw0 x0 zn) u = (0, u.1, 1) := sDig_neg (fun h => b_10 h.2)
      have hq0 : (0 : Int32) = (sDig (mch rw0 x0 zn) u).1 := by rw [hq9]
      have hq : F_17 = va_up F 56 (oModel ad b ln tc co th bs en ((sDig (mch rw0 x0 zn) u).2) st kk dw ho sv pic ia tk) := by
        rw [hq9, hF_18]
      exact zireti hC hZ hr hlocks ⟨hq0, hq⟩ dX7_readDigit_41

theorem zadd_sub (x y z : Int32) : x + (y - z) = x + y - z := by rw [Int32.sub_eq_add_neg, Int32.sub_eq_add_neg, Int32.add_assoc]
theorem mX7_readNumber : zMd yX7_readNumber cX7_readNumber 3 (some .int) 0 := ⟨by decide +kernel, gt_of 913 (by decide +kernel) rfl, gt_of 52 (by decide +kernel) rfl, by decide⟩
theorem dX7_readNumber_0 : decode cX7_readNumber 0 = .ok (.aload_n 0, 1) := by decide +kernel
theorem dX7_readNumber_1 : decode cX7_readNumber 1 = .ok (.invokevirtual 94, 3) := by decide +kernel
theorem kX7_94 : zLk RX7 94 yX7_readDigit := Or.inl (gt_of 914 (by decide +kernel) rfl)
theorem vX7_readDigit : zMi yX7_readDigit := ⟨gt_of 916 (by decide +kernel) rfl, gt_of 24 (by decide +kernel) rfl⟩
theorem dX7_readNumber_4 : decode cX7_readNumber 4 = .ok (.istore_n 1, 1) := by decide +kernel
theorem dX7_readNumber_5 : decode cX7_readNumber 5 = .ok (.iconst 1, 1) := by decide +kernel
theorem dX7_readNumber_6 : decode cX7_readNumber 6 = .ok (.istore_n 2, 1) := by decide +kernel
theorem dX7_readNumber_7 : decode cX7_readNumber 7 = .ok (.iload_n 2, 1) := by decide +kernel
theorem dX7_readNumber_8 : decode cX7_readNumber 8 = .ok (.iconst 3, 1) := by decide +kernel
theorem dX7_readNumber_9 : decode cX7_readNumber 9 = .ok (.if_icmp .ge 60, 3) := by decide +kernel
theorem dX7_readNumber_12 : decode cX7_readNumber 12 = .ok (.iload_n 1, 1) := by decide +kernel
theorem dX7_readNumber_13 : decode cX7_readNumber 13 = .ok (.ifCond .le 56, 3) := by decide +kernel
theorem dX7_readNumber_69 : decode cX7_readNumber 69 = .ok (.iload_n 1, 1) := by decide +kernel
theorem dX7_readNumber_70 : decode cX7_readNumber 70 = .ok (.ireturn, 1) := by decide +kernel
theorem dX7_readNumber_16 : decode cX7_readNumber 16 = .ok (.aload_n 0, 1) := by decide +kernel
theorem dX7_readNumber_17 : decode cX7_readNumber 17 = .ok (.getfield 82, 3) := by decide +kernel
theorem dX7_readNumber_20 : decode cX7_readNumber 20 = .ok (.ifCond .ne 49, 3) := by decide +kernel
theorem dX7_readNumber_23 : decode cX7_readNumber 23 = .ok (.aload_n 0, 1) := by decide +kernel
theorem dX7_readNumber_24 : decode cX7_readNumber 24 = .ok (.invokevirtual 86, 3) := by decide +kernel
theorem dX7_readNumber_27 : decode cX7_readNumber 27 = .ok (.i2l, 1) := by decide +kernel
theorem dX7_readNumber_28 : decode cX7_readNumber 28 = .ok (.ldc2_w 90, 3) := by decide +kernel
theorem dX7_readNumber_31 : decode cX7_readNumber 31 = .ok (.ldc2_w 92, 3) := by decide +kernel
theorem dX7_readNumber_34 : decode cX7_readNumber 34 = .ok (.invokestatic 63, 3) := by decide +kernel
theorem dX7_readNumber_37 : decode cX7_readNumber 37 = .ok (.ifCond .eq 32, 3) := by decide +kernel
theorem dX7_readNumber_40 : decode cX7_readNumber 40 = .ok (.bipush 10, 2) := by decide +kernel
theorem dX7_readNumber_42 : decode cX7_readNumber 42 = .ok (.iload_n 1, 1) := by decide +kernel
theorem dX7_readNumber_43 : decode cX7_readNumber 43 = .ok (.imul, 1) := by decide +kernel
theorem dX7_readNumber_44 : decode cX7_readNumber 44 = .ok (.aload_n 0, 1) := by decide +kernel
theorem dX7_readNumber_45 : decode cX7_readNumber 45 = .ok (.invokevirtual 86, 3) := by decide +kernel
theorem dX7_readNumber_48 : decode cX7_readNumber 48 = .ok (.iadd, 1) := by decide +kernel
theorem dX7_readNumber_49 : decode cX7_readNumber 49 = .ok (.bipush 48, 2) := by decide +kernel
theorem dX7_readNumber_51 : decode cX7_readNumber 51 = .ok (.isub, 1) := by decide +kernel
theorem dX7_readNumber_52 : decode cX7_readNumber 52 = .ok (.istore_n 1, 1) := by decide +kernel
theorem dX7_readNumber_53 : decode cX7_readNumber 53 = .ok (.aload_n 0, 1) := by decide +kernel
theorem dX7_readNumber_54 : decode cX7_readNumber 54 = .ok (.dup, 1) := by decide +kernel
theorem dX7_readNumber_55 : decode cX7_readNumber 55 = .ok (.getfield 73, 3) := by decide +kernel
theorem dX7_readNumber_58 : decode cX7_readNumber 58 = .ok (.iconst 1, 1) := by decide +kernel
theorem dX7_readNumber_59 : decode cX7_readNumber 59 = .ok (.iadd, 1) := by decide +kernel
theorem dX7_readNumber_60 : decode cX7_readNumber 60 = .ok (.putfield 73, 3) := by decide +kernel
theorem dX7_readNumber_63 : decode cX7_readNumber 63 = .ok (.iinc 2 1, 3) := by decide +kernel
theorem dX7_readNumber_66 : decode cX7_readNumber 66 = .ok (.goto (-59), 3) := by decide +kernel
set_option maxRecDepth 100000 in
theorem c_X7_readNumber (l : Launch) (D : va_G) (cy : Nat → Nat) (n : Nat) (ad : Nat → Nat) (F : Nat → va_E) (sz : Nat) (b : Stg) (ln tc : Int32) (co : Crs) (th bs en : Int32) (u : Int32 × Int32) (st kk dw ho : Int32) (sv : Crs) (pic ia tk : Int32) (hn : 68 ≤ n) (hM : F 56 = oModel ad b ln tc co th bs en u st kk dw ho sv pic ia tk) (rw0 : Nat → Int64) (h66 : F 66 = oLongs cy 800 rw0) (x0 zn : Nat) (hx0 : x0 + 100 ≤ 800) (hzn : zn ≤ 100) (hbs : bs = nI x0) (hen : en = nI zn) (hu : Gq (zn : Int) u) (hby : ∀ i, i < 100 → -128 ≤ (rw0 (x0 + i)).toInt32.toInt ∧ (rw0 (x0 + i)).toInt32.toInt ≤ 127) : Met l yX7_readNumber (zw yX7_readNumber cX7_readNumber 3 (some .int)) (rmL 2) (zPc D cy n ad F sz [.ref (ad 56)]) (va_Qi (fun r F1 => r = (sNum (mch rw0 x0 zn) u).1 ∧ F1 = va_up F 56 (oModel ad b ln tc co th bs en ((sNum (mch rw0 x0 zn) u).2) st kk dw ho sv pic ia tk)) (zB D n ad) (zA n ad sz)) 0 0 (zA n ad sz) := by
  refine zmet (by decide +kernel) (Nat.le_of_ble_eq_true rfl) (fun p e s m args below meth c ls hC hsz hZ hA hr hlocks hnm hl => ?_)
  have hC : zC p m c cX7_readNumber 3 s args RX7 D cy := hC
  have hx := hC.1.1
  have hb := hC.1.2.1
  have hl : lv_has ls 3 [(0, .ref (ad 56))] := hl
  refine lv_aload_n hx hb dX7_readNumber_0 rfl (lv_at hl 0 rfl) ?_
  refine zgoi hZ hA (zrunV (As := []) (rest := []) (k := 56) hC hZ (c_X7_readDigit l D cy n ad F s.heap.size b ln tc co th bs en u st kk dw ho sv pic ia tk hn hM rw0 h66 x0 zn hx0 hzn hbs hen hu hby) mX7_readDigit vX7_readDigit kX7_94 (zRj_of rfl) (zlt hn rfl) hM rfl rfl hl.1 rfl (Nat.le_of_ble_eq_true rfl) dX7_readNumber_1 ⟨Nat.le_refl _, Nat.le_refl _⟩) (fun r_2 F_1 hp_3 H locs hZ => ?_)
  obtain ⟨y_4, hy_4⟩ : ∃ y, y = (sDig (mch rw0 x0 zn) u) := ⟨_, rfl⟩
  rw [← hy_4] at hp_3
  have hu_y_4 : Gq (zn : Int) y_4.2 := by rw [hy_4]; exact (adv_sDig (mch_PR hzn) hu).1
  obtain ⟨rfl, hp_5⟩ := hp_3
  have h_6 := zeq hp_5
  refine lv_istore_n (lv' := [(1, .int y_4.1), (0, .ref (ad 56))]) hx hb dX7_readNumber_4 rfl hl (by decide) rfl (fun ls hl => ?_)
  refine lv_iconst (v := 1) hx hb dX7_readNumber_5 (by decide) ?_
  refine lv_istore_n (lv' := [(2, .int 1), (1, .int y_4.1), (0, .ref (ad 56))]) hx hb dX7_readNumber_6 rfl hl (by decide) rfl (fun ls hl => ?_)
  refine lv_iload_n hx hb dX7_readNumber_7 rfl (lv_at hl 0 rfl) ?_
  refine lv_iconst (v := 3) hx hb dX7_readNumber_8 (by decide) ?_
  refine lv_icmp_ge (tgt := 69) hx hb dX7_readNumber_9 (by decide) (fun h => absurd (show (3 : Int32) ≤ 1 from h) (by decide)) (fun _ => ?_)
  refine lv_iload_n hx hb dX7_readNumber_12 rfl (lv_at hl 1 rfl) ?_
  refine lv_if_le (tgt := 69) hx hb dX7_readNumber_13 (by decide) (fun c_13 => ?_) (fun c_13 => ?_)
  · refine lv_iload_n hx hb dX7_readNumber_69 rfl (lv_at hl 1 rfl) ?_
    have e0 : sMore (mch rw0 x0 zn) y_4 = y_4 := sMore_neg (fun h => absurd c_13 (Int32.not_le.mpr h.2.1))
    have e1 : sMore (mch rw0 x0 zn) y_4 = y_4 := sMore_neg (fun h => absurd c_13 (Int32.not_le.mpr h.2.1))
    have hq9 : sNum (mch rw0 x0 zn) u = (y_4.1, y_4.2.1, y_4.2.2) := by unfold sNum; rw [← hy_4, e0, e1]
    have hq0 : y_4.1 = (sNum (mch rw0 x0 zn) u).1 := by rw [hq9]
    have hq : F_1 = va_up F 56 (oModel ad b ln tc co th bs en ((sNum (mch rw0 x0 zn) u).2) st kk dw ho sv pic ia tk) := by
      rw [hq9, hp_5]
    exact zireti hC hZ hr hlocks ⟨hq0, hq⟩ dX7_readNumber_70
  · refine lv_aload_n hx hb dX7_readNumber_16 rfl (lv_at hl 2 rfl) ?_
    refine zget hC hZ fX7_82 (zlt hn rfl) h_6 rfl dX7_readNumber_17 ?_
    refine lv_if_ne (tgt := 69) hx hb dX7_readNumber_20 (by decide) (fun c_20 => ?_) (fun c_20 => ?_)
    · refine lv_iload_n hx hb dX7_readNumber_69 rfl (lv_at hl 1 rfl) ?_
      have e0 : sMore (mch rw0 x0 zn) y_4 = y_4 := sMore_neg (fun h => c_20 h.1)
      have e1 : sMore (mch rw0 x0 zn) y_4 = y_4 := sMore_neg (fun h => c_20 h.1)
      have hq9 : sNum (mch rw0 x0 zn) u = (y_4.1, y_4.2.1, y_4.2.2) := by unfold sNum; rw [← hy_4, e0, e1]
      have hq0 : y_4.1 = (sNum (mch rw0 x0 zn) u).1 := by rw [hq9]
      have hq : F_1 = va_up F 56 (oModel ad b ln tc co th bs en ((sNum (mch rw0 x0 zn) u).2) st kk dw ho sv pic ia tk) := by
        rw [hq9, hp_5]
      exact zireti hC hZ hr hlocks ⟨hq0, hq⟩ dX7_readNumber_70
    · refine lv_aload_n hx hb dX7_readNumber_23 rfl (lv_at hl 2 rfl) ?_
      refine zgoi hZ hA (zrunV (As := []) (rest := []) (k := 56) hC hZ (c_X7_here l D cy n ad F_1 H.size b ln tc co th bs en y_4.2 st kk dw ho sv pic ia tk hn h_6 rw0 (zne hp_5 (by decide) h66) x0 zn hx0 hzn hbs hen hu_y_4) mX7_here vX7_here kX7_86 (zRj_of rfl) (zlt hn rfl) h_6 rfl rfl hl.1 rfl (Nat.le_of_ble_eq_true rfl) dX7_readNumber_24 ⟨Nat.le_refl _, Nat.le_refl _⟩) (fun r_8 F_7 hp_9 H locs hZ => ?_)
      obtain ⟨rfl, rfl⟩ := hp_9
      refine lv_i2l (v := (mch rw0 x0 zn y_4.2.1).toInt64) hx hb dX7_readNumber_27 (by rfl) ?_
      refine lv_ldc2 (v := 48) hx hb hC.1.2.2.2.1 (hC.1.2.2.2.2 _ qX7_90) dX7_readNumber_28 ?_
      refine lv_ldc2 (v := 57) hx hb hC.1.2.2.2.1 (hC.1.2.2.2.2 _ qX7_92) dX7_readNumber_31 ?_
      refine zgoi hZ hA (zrunS (As := [.long ((mch rw0 x0 zn y_4.2.1).toInt64), .long 48, .long 57]) (rest := []) hC hZ (c_X7_in l D cy n ad F_1 H.size (mch rw0 x0 zn y_4.2.1) 48 57 48 57 (by decide) (by decide)) mX7_in sX7_in kX7_63 (zRj_of rfl) rfl hl.1 rfl (Nat.le_of_ble_eq_true rfl) dX7_readNumber_34 ⟨Nat.le_refl _, Nat.le_refl _⟩) (fun r_11 F_10 hp_12 H locs hZ => ?_)
      obtain ⟨hp_12, rfl⟩ := hp_12
      by_cases b_13 : bIn (mch rw0 x0 zn y_4.2.1) 48 57
      · rw [if_pos b_13] at hp_12
        subst hp_12
        refine lv_if_eq (tgt := 69) hx hb dX7_readNumber_37 (by decide) (fun h => absurd (show (1 : Int32) = 0 from h) (by decide)) (fun _ => ?_)
        refine lv_bipush (v := 10) hx hb dX7_readNumber_40 (by decide) ?_
        refine lv_iload_n hx hb dX7_readNumber_42 rfl (lv_at hl 1 rfl) ?_
        refine lv_imul hx hb dX7_readNumber_43 ?_
        refine lv_aload_n hx hb dX7_readNumber_44 rfl (lv_at hl 2 rfl) ?_
        refine zgoi hZ hA (zrunV (As := []) (rest := [.int (10 * y_4.1)]) (k := 56) hC hZ (c_X7_here l D cy n ad F_1 H.size b ln tc co th bs en y_4.2 st kk dw ho sv pic ia tk hn h_6 rw0 (zne hp_5 (by decide) h66) x0 zn hx0 hzn hbs hen hu_y_4) mX7_here vX7_here kX7_86 (zRj_of rfl) (zlt hn rfl) h_6 rfl rfl hl.1 rfl (Nat.le_of_ble_eq_true rfl) dX7_readNumber_45 ⟨Nat.le_refl _, Nat.le_refl _⟩) (fun r_15 F_14 hp_16 H locs hZ => ?_)
        obtain ⟨rfl, rfl⟩ := hp_16
        refine lv_iadd hx hb dX7_readNumber_48 ?_
        refine lv_bipush (v := 48) hx hb dX7_readNumber_49 (by decide) ?_
        refine lv_isub hx hb dX7_readNumber_51 ?_
        refine lv_istore_n (lv' := [(1, .int (((10 * y_4.1) + (mch rw0 x0 zn y_4.2.1)) - 48)), (2, .int 1), (0, .ref (ad 56))]) hx hb dX7_readNumber_52 rfl hl (by decide) rfl (fun ls hl => ?_)
        refine lv_aload_n hx hb dX7_readNumber_53 rfl (lv_at hl 2 rfl) ?_
        refine lv_dup hx hb dX7_readNumber_54 rfl ?_
        refine zget hC hZ fX7_73 (zlt hn rfl) h_6 rfl dX7_readNumber_55 ?_
        refine lv_iconst (v := 1) hx hb dX7_readNumber_58 (by decide) ?_
        refine lv_iadd hx hb dX7_readNumber_59 ?_
        refine zput (E := oModel ad b ln tc co th bs en ((y_4.2.1 + 1), y_4.2.2) st kk dw ho sv pic ia tk) hC hZ pX7_73 (zlt hn rfl) h_6 rfl rfl rfl (Nat.le_of_ble_eq_true rfl) dX7_readNumber_60 (fun F_17 hF_18 H locs hZ => ?_)
        have h_19 := zeq hF_18
        have hu_20 : Gq (zn : Int) ((y_4.2.1 + 1), y_4.2.2) := (adv_dig (q := (y_4.2.1, y_4.2.2)) (mch_PR hzn) b_13).1
        refine lv_iinc (v := 2) (lv' := [(2, .int 2), (1, .int (((10 * y_4.1) + (mch rw0 x0 zn y_4.2.1)) - 48)), (0, .ref (ad 56))]) hx hb dX7_readNumber_63 hl (k := 1) rfl (by decide) (by decide) rfl (fun ls hl => ?_)
        refine lv_goto (tgt := 7) hx hb dX7_readNumber_66 (by decide) ?_
        refine lv_iload_n hx hb dX7_readNumber_7 rfl (lv_at hl 0 rfl) ?_
        refine lv_iconst (v := 3) hx hb dX7_readNumber_8 (by decide) ?_
        refine lv_icmp_ge (tgt := 69) hx hb dX7_readNumber_9 (by decide) (fun h => absurd (show (3 : Int32) ≤ 2 from h) (by decide)) (fun _ => ?_)
        refine lv_iload_n hx hb dX7_readNumber_12 rfl (lv_at hl 1 rfl) ?_
        refine lv_if_le (tgt := 69) hx hb dX7_readNumber_13 (by decide) (fun c_13_21 => ?_) (fun c_13_21 => ?_)
        · refine lv_iload_n hx hb dX7_readNumber_69 rfl (lv_at hl 1 rfl) ?_
          have e0 : sMore (mch rw0 x0 zn) y_4 = (10 * y_4.1 + (mch rw0 x0 zn) y_4.2.1 - 48, y_4.2.1 + 1, y_4.2.2) := by
            rw [sMore_pos (u := y_4) c_20 (Int32.not_le.mp c_13) b_13, sDig_pos (q := (y_4).2) c_20 b_13]
            show (10 * y_4.1 + ((mch rw0 x0 zn) y_4.2.1 - 48), y_4.2.1 + 1, y_4.2.2) = _
            rw [zadd_sub]
          have e1 : sMore (mch rw0 x0 zn) (10 * y_4.1 + (mch rw0 x0 zn) y_4.2.1 - 48, y_4.2.1 + 1, y_4.2.2) = (10 * y_4.1 + (mch rw0 x0 zn) y_4.2.1 - 48, y_4.2.1 + 1, y_4.2.2) := sMore_neg (fun h => absurd c_13_21 (Int32.not_le.mpr h.2.1))
          have hq9 : sNum (mch rw0 x0 zn) u = ((((10 * y_4.1) + (mch rw0 x0 zn y_4.2.1)) - 48), (y_4.2.1 + 1), y_4.2.2) := by unfold sNum; rw [← hy_4, e0, e1]
          have hq0 : (((10 * y_4.1) + (mch rw0 x0 zn y_4.2.1)) - 48) = (sNum (mch rw0 x0 zn) u).1 := by rw [hq9]
          have hq : F_17 = va_up F 56 (oModel ad b ln tc co th bs en ((sNum (mch rw0 x0 zn) u).2) st kk dw ho sv pic ia tk) := by
            rw [hq9, hF_18, hp_5]; simp only [bx_uu]
          exact zireti hC hZ hr hlocks ⟨hq0, hq⟩ dX7_readNumber_70
        · refine lv_aload_n hx hb dX7_readNumber_16 rfl (lv_at hl 2 rfl) ?_
          refine zget hC hZ fX7_82 (zlt hn rfl) h_19 rfl dX7_readNumber_17 ?_
          refine lv_if_ne (tgt := 69) hx hb dX7_readNumber_20 (by decide) (fun c_20_22 => ?_) (fun c_20_22 => ?_)
          · refine lv_iload_n hx hb dX7_readNumber_69 rfl (lv_at hl 1 rfl) ?_
            have e0 : sMore (mch rw0 x0 zn) y_4 = (10 * y_4.1 + (mch rw0 x0 zn) y_4.2.1 - 48, y_4.2.1 + 1, y_4.2.2) := by
              rw [sMore_pos (u := y_4) c_20 (Int32.not_le.mp c_13) b_13, sDig_pos (q := (y_4).2) c_20 b_13]
              show (10 * y_4.1 + ((mch rw0 x0 zn) y_4.2.1 - 48), y_4.2.1 + 1, y_4.2.2) = _
              rw [zadd_sub]
            have e1 : sMore (mch rw0 x0 zn) (10 * y_4.1 + (mch rw0 x0 zn) y_4.2.1 - 48, y_4.2.1 + 1, y_4.2.2) = (10 * y_4.1 + (mch rw0 x0 zn) y_4.2.1 - 48, y_4.2.1 + 1, y_4.2.2) := sMore_neg (fun h => c_20_22 h.1)
            have hq9 : sNum (mch rw0 x0 zn) u = ((((10 * y_4.1) + (mch rw0 x0 zn y_4.2.1)) - 48), (y_4.2.1 + 1), y_4.2.2) := by unfold sNum; rw [← hy_4, e0, e1]
            have hq0 : (((10 * y_4.1) + (mch rw0 x0 zn y_4.2.1)) - 48) = (sNum (mch rw0 x0 zn) u).1 := by rw [hq9]
            have hq : F_17 = va_up F 56 (oModel ad b ln tc co th bs en ((sNum (mch rw0 x0 zn) u).2) st kk dw ho sv pic ia tk) := by
              rw [hq9, hF_18, hp_5]; simp only [bx_uu]
            exact zireti hC hZ hr hlocks ⟨hq0, hq⟩ dX7_readNumber_70
          · refine lv_aload_n hx hb dX7_readNumber_23 rfl (lv_at hl 2 rfl) ?_
            refine zgoi hZ hA (zrunV (As := []) (rest := []) (k := 56) hC hZ (c_X7_here l D cy n ad F_17 H.size b ln tc co th bs en ((y_4.2.1 + 1), y_4.2.2) st kk dw ho sv pic ia tk hn h_19 rw0 (zne hF_18 (by decide) (zne hp_5 (by decide) h66)) x0 zn hx0 hzn hbs hen hu_20) mX7_here vX7_here kX7_86 (zRj_of rfl) (zlt hn rfl) h_19 rfl rfl hl.1 rfl (Nat.le_of_ble_eq_true rfl) dX7_readNumber_24 ⟨Nat.le_refl _, Nat.le_refl _⟩) (fun r_24 F_23 hp_25 H locs hZ => ?_)
            obtain ⟨rfl, rfl⟩ := hp_25
            refine lv_i2l (v := (mch rw0 x0 zn (y_4.2.1 + 1)).toInt64) hx hb dX7_readNumber_27 (by rfl) ?_
            refine lv_ldc2 (v := 48) hx hb hC.1.2.2.2.1 (hC.1.2.2.2.2 _ qX7_90) dX7_readNumber_28 ?_
            refine lv_ldc2 (v := 57) hx hb hC.1.2.2.2.1 (hC.1.2.2.2.2 _ qX7_92) dX7_readNumber_31 ?_
            refine zgoi hZ hA (zrunS (As := [.long ((mch rw0 x0 zn (y_4.2.1 + 1)).toInt64), .long 48, .long 57]) (rest := []) hC hZ (c_X7_in l D cy n ad F_17 H.size (mch rw0 x0 zn (y_4.2.1 + 1)) 48 57 48 57 (by decide) (by decide)) mX7_in sX7_in kX7_63 (zRj_of rfl) rfl hl.1 rfl (Nat.le_of_ble_eq_true rfl) dX7_readNumber_34 ⟨Nat.le_refl _, Nat.le_refl _⟩) (fun r_27 F_26 hp_28 H locs hZ => ?_)
            obtain ⟨hp_28, rfl⟩ := hp_28
            by_cases b_29 : bIn (mch rw0 x0 zn (y_4.2.1 + 1)) 48 57
            · rw [if_pos b_29] at hp_28
              subst hp_28
              refine lv_if_eq (tgt := 69) hx hb dX7_readNumber_37 (by decide) (fun h => absurd (show (1 : Int32) = 0 from h) (by decide)) (fun _ => ?_)
              refine lv_bipush (v := 10) hx hb dX7_readNumber_40 (by decide) ?_
              refine lv_iload_n hx hb dX7_readNumber_42 rfl (lv_at hl 1 rfl) ?_
              refine lv_imul hx hb dX7_readNumber_43 ?_
              refine lv_aload_n hx hb dX7_readNumber_44 rfl (lv_at hl 2 rfl) ?_
              refine zgoi hZ hA (zrunV (As := []) (rest := [.int (10 * (((10 * y_4.1) + (mch rw0 x0 zn y_4.2.1)) - 48))]) (k := 56) hC hZ (c_X7_here l D cy n ad F_17 H.size b ln tc co th bs en ((y_4.2.1 + 1), y_4.2.2) st kk dw ho sv pic ia tk hn h_19 rw0 (zne hF_18 (by decide) (zne hp_5 (by decide) h66)) x0 zn hx0 hzn hbs hen hu_20) mX7_here vX7_here kX7_86 (zRj_of rfl) (zlt hn rfl) h_19 rfl rfl hl.1 rfl (Nat.le_of_ble_eq_true rfl) dX7_readNumber_45 ⟨Nat.le_refl _, Nat.le_refl _⟩) (fun r_31 F_30 hp_32 H locs hZ => ?_)
              obtain ⟨rfl, rfl⟩ := hp_32
              refine lv_iadd hx hb dX7_readNumber_48 ?_
              refine lv_bipush (v := 48) hx hb dX7_readNumber_49 (by decide) ?_
              refine lv_isub hx hb dX7_readNumber_51 ?_
              refine lv_istore_n (lv' := [(1, .int (((10 * (((10 * y_4.1) + (mch rw0 x0 zn y_4.2.1)) - 48)) + (mch rw0 x0 zn (y_4.2.1 + 1))) - 48)), (2, .int 2), (0, .ref (ad 56))]) hx hb dX7_readNumber_52 rfl hl (by decide) rfl (fun ls hl => ?_)
              refine lv_aload_n hx hb dX7_readNumber_53 rfl (lv_at hl 2 rfl) ?_
              refine lv_dup hx hb dX7_readNumber_54 rfl ?_
              refine zget hC hZ fX7_73 (zlt hn rfl) h_19 rfl dX7_readNumber_55 ?_
              refine lv_iconst (v := 1) hx hb dX7_readNumber_58 (by decide) ?_
              refine lv_iadd hx hb dX7_readNumber_59 ?_
              refine zput (E := oModel ad b ln tc co th bs en (((y_4.2.1 + 1) + 1), y_4.2.2) st kk dw ho sv pic ia tk) hC hZ pX7_73 (zlt hn rfl) h_19 rfl rfl rfl (Nat.le_of_ble_eq_true rfl) dX7_readNumber_60 (fun F_33 hF_34 H locs hZ => ?_)
              have h_35 := zeq hF_34
              have hu_36 : Gq (zn : Int) (((y_4.2.1 + 1) + 1), y_4.2.2) := (adv_dig (q := ((y_4.2.1 + 1), y_4.2.2)) (mch_PR hzn) b_29).1
              refine lv_iinc (v := 3) (lv' := [(2, .int 3), (1, .int (((10 * (((10 * y_4.1) + (mch rw0 x0 zn y_4.2.1)) - 48)) + (mch rw0 x0 zn (y_4.2.1 + 1))) - 48)), (0, .ref (ad 56))]) hx hb dX7_readNumber_63 hl (k := 1) rfl (by decide) (by decide) rfl (fun ls hl => ?_)
              refine lv_goto (tgt := 7) hx hb dX7_readNumber_66 (by decide) ?_
              refine lv_iload_n hx hb dX7_readNumber_7 rfl (lv_at hl 0 rfl) ?_
              refine lv_iconst (v := 3) hx hb dX7_readNumber_8 (by decide) ?_
              refine lv_icmp_ge (tgt := 69) hx hb dX7_readNumber_9 (by decide) (fun _ => ?_) (fun h => absurd (show (3 : Int32) ≤ 3 by decide) h)
              refine lv_iload_n hx hb dX7_readNumber_69 rfl (lv_at hl 1 rfl) ?_
              have e0 : sMore (mch rw0 x0 zn) y_4 = (10 * y_4.1 + (mch rw0 x0 zn) y_4.2.1 - 48, y_4.2.1 + 1, y_4.2.2) := by
                rw [sMore_pos (u := y_4) c_20 (Int32.not_le.mp c_13) b_13, sDig_pos (q := (y_4).2) c_20 b_13]
                show (10 * y_4.1 + ((mch rw0 x0 zn) y_4.2.1 - 48), y_4.2.1 + 1, y_4.2.2) = _
                rw [zadd_sub]
              have e1 : sMore (mch rw0 x0 zn) (10 * y_4.1 + (mch rw0 x0 zn) y_4.2.1 - 48, y_4.2.1 + 1, y_4.2.2) = (10 * (10 * y_4.1 + (mch rw0 x0 zn) y_4.2.1 - 48) + (mch rw0 x0 zn) (y_4.2.1 + 1) - 48, (y_4.2.1 + 1) + 1, y_4.2.2) := by
                rw [sMore_pos (u := (10 * y_4.1 + (mch rw0 x0 zn) y_4.2.1 - 48, y_4.2.1 + 1, y_4.2.2)) c_20_22 (Int32.not_le.mp c_13_21) b_29, sDig_pos (q := ((10 * y_4.1 + (mch rw0 x0 zn) y_4.2.1 - 48, y_4.2.1 + 1, y_4.2.2)).2) c_20_22 b_29]
                show (10 * (10 * y_4.1 + (mch rw0 x0 zn) y_4.2.1 - 48) + ((mch rw0 x0 zn) (y_4.2.1 + 1) - 48), (y_4.2.1 + 1) + 1, y_4.2.2) = _
                rw [zadd_sub]
              have hq9 : sNum (mch rw0 x0 zn) u = ((((10 * (((10 * y_4.1) + (mch rw0 x0 zn y_4.2.1)) - 48)) + (mch rw0 x0 zn (y_4.2.1 + 1))) - 48), ((y_4.2.1 + 1) + 1), y_4.2.2) := by unfold sNum; rw [← hy_4, e0, e1]
              have hq0 : (((10 * (((10 * y_4.1) + (mch rw0 x0 zn y_4.2.1)) - 48)) + (mch rw0 x0 zn (y_4.2.1 + 1))) - 48) = (sNum (mch rw0 x0 zn) u).1 := by rw [hq9]
              have hq : F_33 = va_up F 56 (oModel ad b ln tc co th bs en ((sNum (mch rw0 x0 zn) u).2) st kk dw ho sv pic ia tk) := by
                rw [hq9, hF_34, hF_18, hp_5]; simp only [bx_uu]
              exact zireti hC hZ hr hlocks ⟨hq0, hq⟩ dX7_readNumber_70
            · rw [if_neg b_29] at hp_28
              subst hp_28
              refine lv_if_eq (tgt := 69) hx hb dX7_readNumber_37 (by decide) (fun _ => ?_) (fun h => absurd (show (0 : Int32) = 0 by decide) h)
              refine lv_iload_n hx hb dX7_readNumber_69 rfl (lv_at hl 1 rfl) ?_
              have e0 : sMore (mch rw0 x0 zn) y_4 = (10 * y_4.1 + (mch rw0 x0 zn) y_4.2.1 - 48, y_4.2.1 + 1, y_4.2.2) := by
                rw [sMore_pos (u := y_4) c_20 (Int32.not_le.mp c_13) b_13, sDig_pos (q := (y_4).2) c_20 b_13]
                show (10 * y_4.1 + ((mch rw0 x0 zn) y_4.2.1 - 48), y_4.2.1 + 1, y_4.2.2) = _
                rw [zadd_sub]
              have e1 : sMore (mch rw0 x0 zn) (10 * y_4.1 + (mch rw0 x0 zn) y_4.2.1 - 48, y_4.2.1 + 1, y_4.2.2) = (10 * y_4.1 + (mch rw0 x0 zn) y_4.2.1 - 48, y_4.2.1 + 1, y_4.2.2) := sMore_neg (fun h => b_29 h.2.2)
              have hq9 : sNum (mch rw0 x0 zn) u = ((((10 * y_4.1) + (mch rw0 x0 zn y_4.2.1)) - 48), (y_4.2.1 + 1), y_4.2.2) := by unfold sNum; rw [← hy_4, e0, e1]
              have hq0 : (((10 * y_4.1) + (mch rw0 x0 zn y_4.2.1)) - 48) = (sNum (mch rw0 x0 zn) u).1 := by rw [hq9]
              have hq : F_17 = va_up F 56 (oModel ad b ln tc co th bs en ((sNum (mch rw0 x0 zn) u).2) st kk dw ho sv pic ia tk) := by
                rw [hq9, hF_18, hp_5]; simp only [bx_uu]
              exact zireti hC hZ hr hlocks ⟨hq0, hq⟩ dX7_readNumber_70
      · rw [if_neg b_13] at hp_12
        subst hp_12
        refine lv_if_eq (tgt := 69) hx hb dX7_readNumber_37 (by decide) (fun _ => ?_) (fun h => absurd (show (0 : Int32) = 0 by decide) h)
        refine lv_iload_n hx hb dX7_readNumber_69 rfl (lv_at hl 1 rfl) ?_
        have e0 : sMore (mch rw0 x0 zn) y_4 = y_4 := sMore_neg (fun h => b_13 h.2.2)
        have e1 : sMore (mch rw0 x0 zn) y_4 = y_4 := sMore_neg (fun h => b_13 h.2.2)
        have hq9 : sNum (mch rw0 x0 zn) u = (y_4.1, y_4.2.1, y_4.2.2) := by unfold sNum; rw [← hy_4, e0, e1]
        have hq0 : y_4.1 = (sNum (mch rw0 x0 zn) u).1 := by rw [hq9]
        have hq : F_1 = va_up F 56 (oModel ad b ln tc co th bs en ((sNum (mch rw0 x0 zn) u).2) st kk dw ho sv pic ia tk) := by
          rw [hq9, hp_5]
        exact zireti hC hZ hr hlocks ⟨hq0, hq⟩ dX7_readNumber_70
