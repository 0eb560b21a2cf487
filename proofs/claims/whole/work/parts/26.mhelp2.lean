def mFilmR (hw mn : Nat → Int32) (tc d : Int32) : Int32 := if mRowR hw d < 0 then mRowR hw d else if mn (iN d) = tc then 0 else -13
theorem mRowR_ge {hw : Nat → Int32} {d : Int32} (h : ¬ mRowR hw d < 0) : bSh d ∧ hw (iN d) = 2 := by
  unfold mRowR at h
  by_cases c : bSh d
  · rw [if_pos c] at h
    by_cases c0 : hw (iN d) = 0
    · rw [if_pos c0] at h; exact absurd (by decide) h
    · rw [if_neg c0] at h
      by_cases c2 : hw (iN d) = 2
      · exact ⟨c, c2⟩
      · rw [if_neg c2] at h; exact absurd (by decide) h
  · rw [if_neg c] at h; exact absurd (by decide) h
theorem mX7_wrongFilms : zMd yX7_wrongFilms cX7_wrongFilms 2 (some .int) 1 := ⟨by decide +kernel, gt_of 1012 (by decide +kernel) rfl, gt_of 52 (by decide +kernel) rfl, by decide⟩
theorem dX7_wrongFilms_0 : decode cX7_wrongFilms 0 = .ok (.aload_n 0, 1) := by decide +kernel
theorem dX7_wrongFilms_1 : decode cX7_wrongFilms 1 = .ok (.iload_n 1, 1) := by decide +kernel
theorem dX7_wrongFilms_2 : decode cX7_wrongFilms 2 = .ok (.invokevirtual 111, 3) := by decide +kernel
theorem kX7_111 : zLk RX7 111 yX7_wrongRow := Or.inl (gt_of 893 (by decide +kernel) rfl)
theorem vX7_wrongRow : zMi yX7_wrongRow := ⟨gt_of 895 (by decide +kernel) rfl, gt_of 19 (by decide +kernel) rfl⟩
theorem dX7_wrongFilms_5 : decode cX7_wrongFilms 5 = .ok (.ifCond .ge 11, 3) := by decide +kernel
theorem dX7_wrongFilms_16 : decode cX7_wrongFilms 16 = .ok (.aload_n 0, 1) := by decide +kernel
theorem dX7_wrongFilms_17 : decode cX7_wrongFilms 17 = .ok (.getfield 47, 3) := by decide +kernel
theorem fX7_47 : zFld RX7 47 7 36 := ⟨RX7, TX7, 39, rfl, inX7, by decide, rfl, Or.inl (gt_of 794 (by decide +kernel) rfl)⟩
theorem dX7_wrongFilms_20 : decode cX7_wrongFilms 20 = .ok (.iload_n 1, 1) := by decide +kernel
theorem dX7_wrongFilms_21 : decode cX7_wrongFilms 21 = .ok (.iaload, 1) := by decide +kernel
theorem dX7_wrongFilms_22 : decode cX7_wrongFilms 22 = .ok (.aload_n 0, 1) := by decide +kernel
theorem dX7_wrongFilms_23 : decode cX7_wrongFilms 23 = .ok (.getfield 120, 3) := by decide +kernel
theorem fX7_120 : zFld RX7 120 7 5 := ⟨RX7, TX7, 39, rfl, inX7, by decide, rfl, Or.inl (gt_of 763 (by decide +kernel) rfl)⟩
theorem dX7_wrongFilms_26 : decode cX7_wrongFilms 26 = .ok (.if_icmp .eq 8, 3) := by decide +kernel
theorem dX7_wrongFilms_34 : decode cX7_wrongFilms 34 = .ok (.iconst 0, 1) := by decide +kernel
theorem dX7_wrongFilms_35 : decode cX7_wrongFilms 35 = .ok (.ireturn, 1) := by decide +kernel
theorem dX7_wrongFilms_29 : decode cX7_wrongFilms 29 = .ok (.bipush (-13), 2) := by decide +kernel
theorem dX7_wrongFilms_31 : decode cX7_wrongFilms 31 = .ok (.goto 4, 3) := by decide +kernel
theorem dX7_wrongFilms_8 : decode cX7_wrongFilms 8 = .ok (.aload_n 0, 1) := by decide +kernel
theorem dX7_wrongFilms_9 : decode cX7_wrongFilms 9 = .ok (.iload_n 1, 1) := by decide +kernel
theorem dX7_wrongFilms_10 : decode cX7_wrongFilms 10 = .ok (.invokevirtual 111, 3) := by decide +kernel
theorem dX7_wrongFilms_13 : decode cX7_wrongFilms 13 = .ok (.goto 22, 3) := by decide +kernel
set_option maxRecDepth 100000 in
theorem c_X7_wrongFilms (l : Launch) (D : va_G) (cy : Nat → Nat) (n : Nat) (ad : Nat → Nat) (F : Nat → va_E) (sz : Nat) (b : Stg) (ln tc : Int32) (co : Crs) (th bs en : Int32) (u : Int32 × Int32) (st kk dw ho : Int32) (sv : Crs) (pic ia tk : Int32) (hn : 68 ≤ n) (hM : F 56 = oModel ad b ln tc co th bs en u st kk dw ho sv pic ia tk) (hw : Nat → Int32) (h61 : F 61 = oInts cy 8 hw) (mn : Nat → Int32) (h65 : F 65 = oInts cy 8 mn) (d : Int32) : Met l yX7_wrongFilms (zw yX7_wrongFilms cX7_wrongFilms 2 (some .int)) (rmL 2) (zPc D cy n ad F sz [.ref (ad 56), .int d]) (va_Qi (fun r F1 => r = mFilmR hw mn tc d ∧ F = F1) (zB D n ad) (zA n ad sz)) 0 0 (zA n ad sz) := by
  refine zmet (by decide +kernel) (Nat.le_of_ble_eq_true rfl) (fun p e s m args below meth c ls hC hsz hZ hA hr hlocks hnm hl => ?_)
  have hC : zC p m c cX7_wrongFilms 2 s args RX7 D cy := hC
  have hx := hC.1.1
  have hb := hC.1.2.1
  have hl : lv_has ls 2 [(0, .ref (ad 56)), (1, .int d)] := hl
  refine lv_aload_n hx hb dX7_wrongFilms_0 rfl (lv_at hl 0 rfl) ?_
  refine lv_iload_n hx hb dX7_wrongFilms_1 rfl (lv_at hl 1 rfl) ?_
  refine zgoi hZ hA (zrunV (As := [.int d]) (rest := []) (k := 56) hC hZ (c_X7_wrongRow l D cy n ad F s.heap.size b ln tc co th bs en u st kk dw ho sv pic ia tk hn hM hw h61 d) mX7_wrongRow vX7_wrongRow kX7_111 (zRj_of rfl) (zlt hn rfl) hM rfl rfl hl.1 rfl (Nat.le_of_ble_eq_true rfl) dX7_wrongFilms_2 ⟨Nat.le_refl _, Nat.le_refl _⟩) (fun r_2 F_1 hp_3 H locs hZ => ?_)
  obtain ⟨rfl, rfl⟩ := hp_3
  refine lv_if_ge (tgt := 16) hx hb dX7_wrongFilms_5 (by decide) (fun c_5 => ?_) (fun c_5 => ?_)
  · refine lv_aload_n hx hb dX7_wrongFilms_16 rfl (lv_at hl 0 rfl) ?_
    refine zget hC hZ fX7_47 (zlt hn rfl) hM rfl dX7_wrongFilms_17 ?_
    refine lv_iload_n hx hb dX7_wrongFilms_20 rfl (lv_at hl 1 rfl) ?_
    have hd9 := bSh_i (mRowR_ge (Int32.not_lt.mpr c_5)).1
    refine ziald hC hZ (zlt hn rfl) h65 hd9.1 hd9.2 (by decide) dX7_wrongFilms_21 ?_
    refine lv_aload_n hx hb dX7_wrongFilms_22 rfl (lv_at hl 0 rfl) ?_
    refine zget hC hZ fX7_120 (zlt hn rfl) hM rfl dX7_wrongFilms_23 ?_
    refine lv_icmp_eq (tgt := 34) hx hb dX7_wrongFilms_26 (by decide) (fun c_26 => ?_) (fun c_26 => ?_)
    · refine lv_iconst (v := 0) hx hb dX7_wrongFilms_34 (by decide) ?_
      have hq : (0 : Int32) = mFilmR hw mn tc d := by unfold mFilmR; rw [if_neg (Int32.not_lt.mpr c_5), if_pos c_26]
      exact zireti hC hZ hr hlocks ⟨hq, rfl⟩ dX7_wrongFilms_35
    · refine lv_bipush (v := (-13)) hx hb dX7_wrongFilms_29 (by decide) ?_
      refine lv_goto (tgt := 35) hx hb dX7_wrongFilms_31 (by decide) ?_
      have hq : (-13 : Int32) = mFilmR hw mn tc d := by unfold mFilmR; rw [if_neg (Int32.not_lt.mpr c_5), if_neg c_26]
      exact zireti hC hZ hr hlocks ⟨hq, rfl⟩ dX7_wrongFilms_35
  · refine lv_aload_n hx hb dX7_wrongFilms_8 rfl (lv_at hl 0 rfl) ?_
    refine lv_iload_n hx hb dX7_wrongFilms_9 rfl (lv_at hl 1 rfl) ?_
    refine zgoi hZ hA (zrunV (As := [.int d]) (rest := []) (k := 56) hC hZ (c_X7_wrongRow l D cy n ad F H.size b ln tc co th bs en u st kk dw ho sv pic ia tk hn hM hw h61 d) mX7_wrongRow vX7_wrongRow kX7_111 (zRj_of rfl) (zlt hn rfl) hM rfl rfl hl.1 rfl (Nat.le_of_ble_eq_true rfl) dX7_wrongFilms_10 ⟨Nat.le_refl _, Nat.le_refl _⟩) (fun r_5 F_4 hp_6 H locs hZ => ?_)
    obtain ⟨rfl, rfl⟩ := hp_6
    refine lv_goto (tgt := 35) hx hb dX7_wrongFilms_13 (by decide) ?_
    have hq : (mRowR hw d) = mFilmR hw mn tc d := (if_pos (Int32.not_le.mp c_5)).symm
    exact zireti hC hZ hr hlocks ⟨hq, rfl⟩ dX7_wrongFilms_35

theorem mX7_divisor : zMd yX7_divisor cX7_divisor 5 (some .int) 2 := ⟨by decide +kernel, gt_of 982 (by decide +kernel) rfl, gt_of 52 (by decide +kernel) rfl, by decide⟩
theorem dX7_divisor_0 : decode cX7_divisor 0 = .ok (.iload_n 0, 1) := by decide +kernel
theorem dX7_divisor_1 : decode cX7_divisor 1 = .ok (.istore_n 2, 1) := by decide +kernel
theorem dX7_divisor_2 : decode cX7_divisor 2 = .ok (.iload_n 1, 1) := by decide +kernel
theorem dX7_divisor_3 : decode cX7_divisor 3 = .ok (.istore_n 3, 1) := by decide +kernel
theorem dX7_divisor_4 : decode cX7_divisor 4 = .ok (.iload_n 3, 1) := by decide +kernel
theorem dX7_divisor_5 : decode cX7_divisor 5 = .ok (.ifCond .eq 16, 3) := by decide +kernel
theorem dX7_divisor_21 : decode cX7_divisor 21 = .ok (.iload_n 2, 1) := by decide +kernel
theorem dX7_divisor_22 : decode cX7_divisor 22 = .ok (.ireturn, 1) := by decide +kernel
theorem dX7_divisor_8 : decode cX7_divisor 8 = .ok (.iload_n 2, 1) := by decide +kernel
theorem dX7_divisor_9 : decode cX7_divisor 9 = .ok (.iload_n 3, 1) := by decide +kernel
theorem dX7_divisor_10 : decode cX7_divisor 10 = .ok (.irem, 1) := by decide +kernel
theorem dX7_divisor_11 : decode cX7_divisor 11 = .ok (.istore 4, 2) := by decide +kernel
theorem dX7_divisor_13 : decode cX7_divisor 13 = .ok (.iload_n 3, 1) := by decide +kernel
theorem dX7_divisor_14 : decode cX7_divisor 14 = .ok (.istore_n 2, 1) := by decide +kernel
theorem dX7_divisor_15 : decode cX7_divisor 15 = .ok (.iload 4, 2) := by decide +kernel
theorem dX7_divisor_17 : decode cX7_divisor 17 = .ok (.istore_n 3, 1) := by decide +kernel
theorem dX7_divisor_18 : decode cX7_divisor 18 = .ok (.goto (-14), 3) := by decide +kernel
set_option maxRecDepth 100000 in
theorem c_X7_divisor (l : Launch) (D : va_G) (cy : Nat → Nat) (n : Nat) (ad : Nat → Nat) (F : Nat → va_E) (sz : Nat) (a0 c0 : Nat) (ha0 : a0 < 2 ^ 31) (hc0 : c0 < 2 ^ 31) : Met l yX7_divisor (zw yX7_divisor cX7_divisor 5 (some .int)) (rmL 0) (zPc D cy n ad F sz [.int (nI a0), .int (nI c0)]) (va_Qi (fun r F1 => r = nI (Nat.gcd a0 c0) ∧ F = F1) (zB D n ad) (zA n ad sz)) 0 0 (zA n ad sz) := by
  refine zmet (by decide +kernel) (Nat.le_of_ble_eq_true rfl) (fun p e s m args below meth c ls hC hsz hZ hA hr hlocks hnm hl => ?_)
  have hC : zC p m c cX7_divisor 5 s args RX7 D cy := hC
  have hx := hC.1.1
  have hb := hC.1.2.1
  have hl : lv_has ls 5 [(0, .int (nI a0)), (1, .int (nI c0))] := hl
  refine lv_iload_n hx hb dX7_divisor_0 rfl (lv_at hl 0 rfl) ?_
  refine lv_istore_n (lv' := [(2, .int (nI a0)), (0, .int (nI a0)), (1, .int (nI c0))]) hx hb dX7_divisor_1 rfl hl (by decide) rfl (fun ls hl => ?_)
  refine lv_iload_n hx hb dX7_divisor_2 rfl (lv_at hl 2 rfl) ?_
  refine lv_istore_n (lv' := [(3, .int (nI c0)), (2, .int (nI a0)), (0, .int (nI a0)), (1, .int (nI c0))]) hx hb dX7_divisor_3 rfl hl (by decide) rfl (fun ls hl => ?_)
  refine zlp (X := Nat × Nat) 4 (fun _ => []) (fun x ls F1 => lv_has ls 5 [(2, .int (nI x.1)), (3, .int (nI x.2))] ∧ F = F1 ∧ x.1 < 2 ^ 31 ∧ x.2 < 2 ^ 31 ∧ Nat.gcd x.1 x.2 = Nat.gcd a0 c0) (fun x => x.2) ?_ (a0, c0) hZ ⟨(lv_sub hl [1, 0] rfl), rfl, ha0, hc0, rfl⟩
  intro x ih ls F3 H locs hZ hφ
  obtain ⟨a, c⟩ := x
  obtain ⟨hl, rfl, ha, hc, hg⟩ := hφ
  have hl : lv_has ls 5 [(2, .int (nI a)), (3, .int (nI c))] := hl
  have ha : a < 2 ^ 31 := ha
  have hc : c < 2 ^ 31 := hc
  have hg : Nat.gcd a c = Nat.gcd a0 c0 := hg
  refine lv_iload_n hx hb dX7_divisor_4 rfl (lv_at hl 1 rfl) ?_
  refine lv_if_eq (tgt := 21) hx hb dX7_divisor_5 (by decide) (fun c_5 => ?_) (fun c_5 => ?_)
  · refine lv_iload_n hx hb dX7_divisor_21 rfl (lv_at hl 0 rfl) ?_
    have hcz : c = 0 := (nI_eq hc (by omega)).mp c_5
    subst hcz
    have hq : nI a = nI (Nat.gcd a0 c0) := by rw [← hg, Nat.gcd_zero_right]
    exact zireti hC hZ hr hlocks ⟨hq, rfl⟩ dX7_divisor_22
  · refine lv_iload_n hx hb dX7_divisor_8 rfl (lv_at hl 0 rfl) ?_
    refine lv_iload_n hx hb dX7_divisor_9 rfl (lv_at hl 1 rfl) ?_
    refine lv_irem hx hb dX7_divisor_10 c_5 ?_
    refine lv_istore (lv' := [(4, .int (nI a - nI a / nI c * nI c)), (2, .int (nI a)), (3, .int (nI c))]) hx hb dX7_divisor_11 hl (by decide) rfl (fun ls hl => ?_)
    refine lv_iload_n hx hb dX7_divisor_13 rfl (lv_at hl 2 rfl) ?_
    refine lv_istore_n (lv' := [(2, .int (nI c)), (4, .int (nI a - nI a / nI c * nI c)), (3, .int (nI c))]) hx hb dX7_divisor_14 rfl hl (by decide) rfl (fun ls hl => ?_)
    refine lv_iload hx hb dX7_divisor_15 (lv_at hl 1 rfl) ?_
    refine lv_istore_n (lv' := [(3, .int (nI a - nI a / nI c * nI c)), (2, .int (nI c)), (4, .int (nI a - nI a / nI c * nI c))]) hx hb dX7_divisor_17 rfl hl (by decide) rfl (fun ls hl => ?_)
    refine lv_goto (tgt := 4) hx hb dX7_divisor_18 (by decide) ?_
    have hc0 : 0 < c := Nat.pos_of_ne_zero (fun h => c_5 (by rw [h]; rfl))
    exact ih (c, a % c) ls _ H locs (Nat.mod_lt _ hc0) hZ ⟨(by rw [← nI_rem ha hc0 hc]; exact (lv_sub hl [1, 0] rfl)), rfl, hc, (by show a % c < 2 ^ 31; have := Nat.mod_lt a hc0; omega), (by show Nat.gcd c (a % c) = _; rw [gcd_st]; exact hg)⟩

theorem mX7_sharedOf : zMd yX7_sharedOf cX7_sharedOf 2 (some .int) 1 := ⟨by decide +kernel, gt_of 994 (by decide +kernel) rfl, gt_of 52 (by decide +kernel) rfl, by decide⟩
theorem dX7_sharedOf_0 : decode cX7_sharedOf 0 = .ok (.aload_n 0, 1) := by decide +kernel
theorem dX7_sharedOf_1 : decode cX7_sharedOf 1 = .ok (.getfield 125, 3) := by decide +kernel
theorem dX7_sharedOf_4 : decode cX7_sharedOf 4 = .ok (.ifCond .ne 7, 3) := by decide +kernel
theorem dX7_sharedOf_11 : decode cX7_sharedOf 11 = .ok (.aload_n 0, 1) := by decide +kernel
theorem dX7_sharedOf_12 : decode cX7_sharedOf 12 = .ok (.invokevirtual 157, 3) := by decide +kernel
theorem dX7_sharedOf_15 : decode cX7_sharedOf 15 = .ok (.ifCond .gt 8, 3) := by decide +kernel
theorem dX7_sharedOf_23 : decode cX7_sharedOf 23 = .ok (.aload_n 0, 1) := by decide +kernel
theorem dX7_sharedOf_24 : decode cX7_sharedOf 24 = .ok (.getfield 125, 3) := by decide +kernel
theorem dX7_sharedOf_27 : decode cX7_sharedOf 27 = .ok (.iload_n 1, 1) := by decide +kernel
theorem dX7_sharedOf_28 : decode cX7_sharedOf 28 = .ok (.imul, 1) := by decide +kernel
theorem dX7_sharedOf_29 : decode cX7_sharedOf 29 = .ok (.aload_n 0, 1) := by decide +kernel
theorem dX7_sharedOf_30 : decode cX7_sharedOf 30 = .ok (.invokevirtual 157, 3) := by decide +kernel
theorem dX7_sharedOf_33 : decode cX7_sharedOf 33 = .ok (.idiv, 1) := by decide +kernel
theorem dX7_sharedOf_34 : decode cX7_sharedOf 34 = .ok (.ireturn, 1) := by decide +kernel
theorem dX7_sharedOf_18 : decode cX7_sharedOf 18 = .ok (.bipush (-4), 2) := by decide +kernel
theorem dX7_sharedOf_20 : decode cX7_sharedOf 20 = .ok (.goto 14, 3) := by decide +kernel
theorem dX7_sharedOf_7 : decode cX7_sharedOf 7 = .ok (.iconst 0, 1) := by decide +kernel
theorem dX7_sharedOf_8 : decode cX7_sharedOf 8 = .ok (.goto 26, 3) := by decide +kernel
set_option maxRecDepth 100000 in
theorem c_X7_sharedOf (l : Launch) (D : va_G) (cy : Nat → Nat) (n : Nat) (ad : Nat → Nat) (F : Nat → va_E) (sz : Nat) (b : Stg) (ln tc : Int32) (co : Crs) (th bs en : Int32) (u : Int32 × Int32) (st kk dw ho : Int32) (sv : Crs) (pic ia tk : Int32) (hn : 68 ≤ n) (hM : F 56 = oModel ad b ln tc co th bs en u st kk dw ho sv pic ia tk) (q : Int32) : Met l yX7_sharedOf (zw yX7_sharedOf cX7_sharedOf 2 (some .int)) (rmL 1) (zPc D cy n ad F sz [.ref (ad 56), .int q]) (va_Qi (fun r F1 => r = (if kk = 0 then (0 : Int32) else if (100 - kk - dw + ho) ≤ 0 then -4 else kk * q / (100 - kk - dw + ho)) ∧ F = F1) (zB D n ad) (zA n ad sz)) 0 0 (zA n ad sz) := by
  refine zmet (by decide +kernel) (Nat.le_of_ble_eq_true rfl) (fun p e s m args below meth c ls hC hsz hZ hA hr hlocks hnm hl => ?_)
  have hC : zC p m c cX7_sharedOf 2 s args RX7 D cy := hC
  have hx := hC.1.1
  have hb := hC.1.2.1
  have hl : lv_has ls 2 [(0, .ref (ad 56)), (1, .int q)] := hl
  refine lv_aload_n hx hb dX7_sharedOf_0 rfl (lv_at hl 0 rfl) ?_
  refine zget hC hZ fX7_125 (zlt hn rfl) hM rfl dX7_sharedOf_1 ?_
  refine lv_if_ne (tgt := 11) hx hb dX7_sharedOf_4 (by decide) (fun c_4 => ?_) (fun c_4 => ?_)
  · refine lv_aload_n hx hb dX7_sharedOf_11 rfl (lv_at hl 0 rfl) ?_
    refine zgoi hZ hA (zrunV (As := []) (rest := []) (k := 56) hC hZ (c_X7_less l D cy n ad F s.heap.size b ln tc co th bs en u st kk dw ho sv pic ia tk hn hM) mX7_less vX7_less kX7_157 (zRj_of rfl) (zlt hn rfl) hM rfl rfl hl.1 rfl (Nat.le_of_ble_eq_true rfl) dX7_sharedOf_12 ⟨Nat.le_refl _, Nat.le_refl _⟩) (fun r_2 F_1 hp_3 H locs hZ => ?_)
    obtain ⟨rfl, rfl⟩ := hp_3
    refine lv_if_gt (tgt := 23) hx hb dX7_sharedOf_15 (by decide) (fun c_15 => ?_) (fun c_15 => ?_)
    · refine lv_aload_n hx hb dX7_sharedOf_23 rfl (lv_at hl 0 rfl) ?_
      refine zget hC hZ fX7_125 (zlt hn rfl) hM rfl dX7_sharedOf_24 ?_
      refine lv_iload_n hx hb dX7_sharedOf_27 rfl (lv_at hl 1 rfl) ?_
      refine lv_imul hx hb dX7_sharedOf_28 ?_
      refine lv_aload_n hx hb dX7_sharedOf_29 rfl (lv_at hl 0 rfl) ?_
      refine zgoi hZ hA (zrunV (As := []) (rest := [.int (kk * q)]) (k := 56) hC hZ (c_X7_less l D cy n ad F H.size b ln tc co th bs en u st kk dw ho sv pic ia tk hn hM) mX7_less vX7_less kX7_157 (zRj_of rfl) (zlt hn rfl) hM rfl rfl hl.1 rfl (Nat.le_of_ble_eq_true rfl) dX7_sharedOf_30 ⟨Nat.le_refl _, Nat.le_refl _⟩) (fun r_5 F_4 hp_6 H locs hZ => ?_)
      obtain ⟨rfl, rfl⟩ := hp_6
      refine lv_idiv hx hb dX7_sharedOf_33 (fun h => absurd c_15 (by rw [h]; decide)) ?_
      have hq : (((kk * q) / (100 - kk - dw + ho)) : Int32) = (if kk = 0 then (0 : Int32) else if (100 - kk - dw + ho) ≤ 0 then -4 else kk * q / (100 - kk - dw + ho)) := ((if_neg c_4).trans (if_neg (Int32.not_le.mpr c_15))).symm
      exact zireti hC hZ hr hlocks ⟨hq, rfl⟩ dX7_sharedOf_34
    · refine lv_bipush (v := (-4)) hx hb dX7_sharedOf_18 (by decide) ?_
      refine lv_goto (tgt := 34) hx hb dX7_sharedOf_20 (by decide) ?_
      have hq : (-4 : Int32) = (if kk = 0 then (0 : Int32) else if (100 - kk - dw + ho) ≤ 0 then -4 else kk * q / (100 - kk - dw + ho)) := ((if_neg c_4).trans (if_pos (Int32.not_lt.mp c_15))).symm
      exact zireti hC hZ hr hlocks ⟨hq, rfl⟩ dX7_sharedOf_34
  · refine lv_iconst (v := 0) hx hb dX7_sharedOf_7 (by decide) ?_
    refine lv_goto (tgt := 34) hx hb dX7_sharedOf_8 (by decide) ?_
    have hq : (0 : Int32) = (if kk = 0 then (0 : Int32) else if (100 - kk - dw + ho) ≤ 0 then -4 else kk * q / (100 - kk - dw + ho)) := (if_pos c_4).symm
    exact zireti hC hZ hr hlocks ⟨hq, rfl⟩ dX7_sharedOf_34

theorem mX7_aheadOf : zMd yX7_aheadOf cX7_aheadOf 4 (some .int) 3 := ⟨by decide +kernel, gt_of 990 (by decide +kernel) rfl, gt_of 52 (by decide +kernel) rfl, by decide⟩
theorem dX7_aheadOf_0 : decode cX7_aheadOf 0 = .ok (.aload_n 0, 1) := by decide +kernel
theorem dX7_aheadOf_1 : decode cX7_aheadOf 1 = .ok (.iload_n 1, 1) := by decide +kernel
theorem dX7_aheadOf_2 : decode cX7_aheadOf 2 = .ok (.iload_n 2, 1) := by decide +kernel
theorem dX7_aheadOf_3 : decode cX7_aheadOf 3 = .ok (.aload_n 0, 1) := by decide +kernel
theorem dX7_aheadOf_4 : decode cX7_aheadOf 4 = .ok (.getfield 22, 3) := by decide +kernel
theorem fX7_22 : zFld RX7 22 7 6 := ⟨RX7, TX7, 39, rfl, inX7, by decide, rfl, Or.inl (gt_of 764 (by decide +kernel) rfl)⟩
theorem dX7_aheadOf_7 : decode cX7_aheadOf 7 = .ok (.iconst 4, 1) := by decide +kernel
theorem dX7_aheadOf_8 : decode cX7_aheadOf 8 = .ok (.iload_n 3, 1) := by decide +kernel
theorem dX7_aheadOf_9 : decode cX7_aheadOf 9 = .ok (.imul, 1) := by decide +kernel
theorem dX7_aheadOf_10 : decode cX7_aheadOf 10 = .ok (.iaload, 1) := by decide +kernel
theorem dX7_aheadOf_11 : decode cX7_aheadOf 11 = .ok (.aload_n 0, 1) := by decide +kernel
theorem dX7_aheadOf_12 : decode cX7_aheadOf 12 = .ok (.getfield 22, 3) := by decide +kernel
theorem dX7_aheadOf_15 : decode cX7_aheadOf 15 = .ok (.iconst 4, 1) := by decide +kernel
theorem dX7_aheadOf_16 : decode cX7_aheadOf 16 = .ok (.iload_n 3, 1) := by decide +kernel
theorem dX7_aheadOf_17 : decode cX7_aheadOf 17 = .ok (.imul, 1) := by decide +kernel
theorem dX7_aheadOf_18 : decode cX7_aheadOf 18 = .ok (.iconst 1, 1) := by decide +kernel
theorem dX7_aheadOf_19 : decode cX7_aheadOf 19 = .ok (.iadd, 1) := by decide +kernel
theorem dX7_aheadOf_20 : decode cX7_aheadOf 20 = .ok (.iaload, 1) := by decide +kernel
theorem dX7_aheadOf_21 : decode cX7_aheadOf 21 = .ok (.aload_n 0, 1) := by decide +kernel
theorem dX7_aheadOf_22 : decode cX7_aheadOf 22 = .ok (.getfield 22, 3) := by decide +kernel
theorem dX7_aheadOf_25 : decode cX7_aheadOf 25 = .ok (.iconst 4, 1) := by decide +kernel
theorem dX7_aheadOf_26 : decode cX7_aheadOf 26 = .ok (.iload_n 3, 1) := by decide +kernel
theorem dX7_aheadOf_27 : decode cX7_aheadOf 27 = .ok (.imul, 1) := by decide +kernel
theorem dX7_aheadOf_28 : decode cX7_aheadOf 28 = .ok (.iconst 2, 1) := by decide +kernel
theorem dX7_aheadOf_29 : decode cX7_aheadOf 29 = .ok (.iadd, 1) := by decide +kernel
theorem dX7_aheadOf_30 : decode cX7_aheadOf 30 = .ok (.iaload, 1) := by decide +kernel
theorem dX7_aheadOf_31 : decode cX7_aheadOf 31 = .ok (.invokevirtual 134, 3) := by decide +kernel
theorem dX7_aheadOf_34 : decode cX7_aheadOf 34 = .ok (.aload_n 0, 1) := by decide +kernel
theorem dX7_aheadOf_35 : decode cX7_aheadOf 35 = .ok (.aload_n 0, 1) := by decide +kernel
theorem dX7_aheadOf_36 : decode cX7_aheadOf 36 = .ok (.getfield 22, 3) := by decide +kernel
theorem dX7_aheadOf_39 : decode cX7_aheadOf 39 = .ok (.iconst 4, 1) := by decide +kernel
theorem dX7_aheadOf_40 : decode cX7_aheadOf 40 = .ok (.iload_n 3, 1) := by decide +kernel
theorem dX7_aheadOf_41 : decode cX7_aheadOf 41 = .ok (.imul, 1) := by decide +kernel
theorem dX7_aheadOf_42 : decode cX7_aheadOf 42 = .ok (.iconst 3, 1) := by decide +kernel
theorem dX7_aheadOf_43 : decode cX7_aheadOf 43 = .ok (.iadd, 1) := by decide +kernel
theorem dX7_aheadOf_44 : decode cX7_aheadOf 44 = .ok (.iaload, 1) := by decide +kernel
theorem dX7_aheadOf_45 : decode cX7_aheadOf 45 = .ok (.invokevirtual 190, 3) := by decide +kernel
theorem kX7_190 : zLk RX7 190 yX7_sharedOf := Or.inl (gt_of 991 (by decide +kernel) rfl)
theorem vX7_sharedOf : zMi yX7_sharedOf := ⟨gt_of 993 (by decide +kernel) rfl, gt_of 33 (by decide +kernel) rfl⟩
theorem dX7_aheadOf_48 : decode cX7_aheadOf 48 = .ok (.ireturn, 1) := by decide +kernel
set_option maxRecDepth 100000 in
theorem c_X7_aheadOf (l : Launch) (D : va_G) (cy : Nat → Nat) (n : Nat) (ad : Nat → Nat) (F : Nat → va_E) (sz : Nat) (b : Stg) (ln tc : Int32) (co : Crs) (th bs en : Int32) (u : Int32 × Int32) (st kk dw ho : Int32) (sv : Crs) (pic ia tk : Int32) (hn : 68 ≤ n) (hM : F 56 = oModel ad b ln tc co th bs en u st kk dw ho sv pic ia tk) (told : Nat → Int32) (h57 : F 57 = oInts cy 32 told) (t : Tal) (i0 : Nat) (s1 : Stg) (hi0 : i0 < 8) (hT : rT told i0 s1) (ht : gT t) (hs : gS s1) : Met l yX7_aheadOf (zw yX7_aheadOf cX7_aheadOf 4 (some .int)) (rmL 2) (zPc D cy n ad F sz [.ref (ad 56), .int t.1, .int t.2, .int (nI i0)]) (va_Qi (fun r F1 => r = sArchAt t s1 0 ∧ F1 = va_up F 56 (oModel ad b ln tc co th bs en u st (sKick t s1) (sDraw t) (sHold t) sv pic ia tk)) (zB D n ad) (zA n ad sz)) 0 0 (zA n ad sz) := by
  refine zmet (by decide +kernel) (Nat.le_of_ble_eq_true rfl) (fun p e s m args below meth c ls hC hsz hZ hA hr hlocks hnm hl => ?_)
  have hC : zC p m c cX7_aheadOf 4 s args RX7 D cy := hC
  have hx := hC.1.1
  have hb := hC.1.2.1
  have hl : lv_has ls 4 [(0, .ref (ad 56)), (1, .int t.1), (2, .int t.2), (3, .int (nI i0))] := hl
  refine lv_aload_n hx hb dX7_aheadOf_0 rfl (lv_at hl 0 rfl) ?_
  refine lv_iload_n hx hb dX7_aheadOf_1 rfl (lv_at hl 1 rfl) ?_
  refine lv_iload_n hx hb dX7_aheadOf_2 rfl (lv_at hl 2 rfl) ?_
  refine lv_aload_n hx hb dX7_aheadOf_3 rfl (lv_at hl 0 rfl) ?_
  refine zget hC hZ fX7_22 (zlt hn rfl) hM rfl dX7_aheadOf_4 ?_
  refine lv_iconst (v := 4) hx hb dX7_aheadOf_7 (by decide) ?_
  refine lv_iload_n hx hb dX7_aheadOf_8 rfl (lv_at hl 3 rfl) ?_
  refine lv_imul hx hb dX7_aheadOf_9 ?_
  have h4 := nI_4 i0
  refine ziald hC hZ (zlt hn rfl) h57 h4 (by omega) (by decide) dX7_aheadOf_10 ?_
  refine lv_aload_n hx hb dX7_aheadOf_11 rfl (lv_at hl 0 rfl) ?_
  refine zget hC hZ fX7_22 (zlt hn rfl) hM rfl dX7_aheadOf_12 ?_
  refine lv_iconst (v := 4) hx hb dX7_aheadOf_15 (by decide) ?_
  refine lv_iload_n hx hb dX7_aheadOf_16 rfl (lv_at hl 3 rfl) ?_
  refine lv_imul hx hb dX7_aheadOf_17 ?_
  refine lv_iconst (v := 1) hx hb dX7_aheadOf_18 (by decide) ?_
  refine lv_iadd hx hb dX7_aheadOf_19 ?_
  refine ziald hC hZ (zlt hn rfl) h57 (by rw [h4]; exact nI_c _ 1 _ rfl) (by omega) (by decide) dX7_aheadOf_20 ?_
  refine lv_aload_n hx hb dX7_aheadOf_21 rfl (lv_at hl 0 rfl) ?_
  refine zget hC hZ fX7_22 (zlt hn rfl) hM rfl dX7_aheadOf_22 ?_
  refine lv_iconst (v := 4) hx hb dX7_aheadOf_25 (by decide) ?_
  refine lv_iload_n hx hb dX7_aheadOf_26 rfl (lv_at hl 3 rfl) ?_
  refine lv_imul hx hb dX7_aheadOf_27 ?_
  refine lv_iconst (v := 2) hx hb dX7_aheadOf_28 (by decide) ?_
  refine lv_iadd hx hb dX7_aheadOf_29 ?_
  refine ziald hC hZ (zlt hn rfl) h57 (by rw [h4]; exact nI_c _ 2 _ rfl) (by omega) (by decide) dX7_aheadOf_30 ?_
  refine zgov hZ hA (zrunV (As := [.int t.1, .int t.2, .int (told (4 * i0)), .int (told (4 * i0 + 1)), .int (told (4 * i0 + 2))]) (rest := []) (k := 56) hC hZ (c_X7_tell l D cy n ad F s.heap.size b ln tc co th bs en u st kk dw ho sv pic ia tk hn hM t ((told (4 * i0)), (told (4 * i0 + 1)), (told (4 * i0 + 2)), 0)) mX7_tell vX7_tell kX7_134 (zRj_of rfl) (zlt hn rfl) hM rfl rfl hl.1 rfl (Nat.le_of_ble_eq_true rfl) dX7_aheadOf_31 ⟨Nat.le_refl _, Nat.le_refl _⟩) (fun F_1 hp_3 H locs hZ => ?_)
  have h_4 := zeq hp_3
  refine lv_aload_n hx hb dX7_aheadOf_34 rfl (lv_at hl 0 rfl) ?_
  refine lv_aload_n hx hb dX7_aheadOf_35 rfl (lv_at hl 0 rfl) ?_
  refine zget hC hZ fX7_22 (zlt hn rfl) h_4 rfl dX7_aheadOf_36 ?_
  refine lv_iconst (v := 4) hx hb dX7_aheadOf_39 (by decide) ?_
  refine lv_iload_n hx hb dX7_aheadOf_40 rfl (lv_at hl 3 rfl) ?_
  refine lv_imul hx hb dX7_aheadOf_41 ?_
  refine lv_iconst (v := 3) hx hb dX7_aheadOf_42 (by decide) ?_
  refine lv_iadd hx hb dX7_aheadOf_43 ?_
  refine ziald hC hZ (zlt hn rfl) (zne hp_3 (by decide) h57) (by rw [h4]; exact nI_c _ 3 _ rfl) (by omega) (by decide) dX7_aheadOf_44 ?_
  refine zgoi hZ hA (zrunV (As := [.int (told (4 * i0 + 3))]) (rest := []) (k := 56) hC hZ (c_X7_sharedOf l D cy n ad F_1 H.size b ln tc co th bs en u st (sKick t ((told (4 * i0)), (told (4 * i0 + 1)), (told (4 * i0 + 2)), 0)) (sDraw t) (sHold t) sv pic ia tk hn h_4 (told (4 * i0 + 3))) mX7_sharedOf vX7_sharedOf kX7_190 (zRj_of rfl) (zlt hn rfl) h_4 rfl rfl hl.1 rfl (Nat.le_of_ble_eq_true rfl) dX7_aheadOf_45 ⟨Nat.le_refl _, Nat.le_refl _⟩) (fun r_6 F_5 hp_7 H locs hZ => ?_)
  have hs9 : (told (4 * i0), told (4 * i0 + 1), told (4 * i0 + 2), told (4 * i0 + 3)) = s1 := by obtain ⟨e1, e2, e3, e4⟩ := hT; rw [e1, e2, e3, e4]
  have hv9 := mAhead (t := t) hs9 ht hs 0
  rw [hv9] at hp_7
  obtain ⟨rfl, rfl⟩ := hp_7
  have hk9 : sKick t (told (4 * i0), told (4 * i0 + 1), told (4 * i0 + 2), 0) = sKick t s1 := by obtain ⟨e1, e2, e3, e4⟩ := hT; unfold sKick sKK sKT; rw [e1, e2, e3]
  have hq : F_1 = va_up F 56 (oModel ad b ln tc co th bs en u st (sKick t s1) (sDraw t) (sHold t) sv pic ia tk) := by rw [← hk9]; exact hp_3
  exact zireti hC hZ hr hlocks ⟨rfl, hq⟩ dX7_aheadOf_48

theorem mX7_skippedIn : zMd yX7_skippedIn cX7_skippedIn 2 (some .long) 1 := ⟨by decide +kernel, gt_of 1020 (by decide +kernel) rfl, gt_of 52 (by decide +kernel) rfl, by decide⟩
theorem dX7_skippedIn_0 : decode cX7_skippedIn 0 = .ok (.aload_n 0, 1) := by decide +kernel
theorem dX7_skippedIn_1 : decode cX7_skippedIn 1 = .ok (.getfield 44, 3) := by decide +kernel
theorem fX7_44 : zFld RX7 44 7 35 := ⟨RX7, TX7, 39, rfl, inX7, by decide, rfl, Or.inl (gt_of 793 (by decide +kernel) rfl)⟩
theorem dX7_skippedIn_4 : decode cX7_skippedIn 4 = .ok (.iload_n 1, 1) := by decide +kernel
theorem dX7_skippedIn_5 : decode cX7_skippedIn 5 = .ok (.iaload, 1) := by decide +kernel
theorem dX7_skippedIn_6 : decode cX7_skippedIn 6 = .ok (.ifCond .ne 9, 3) := by decide +kernel
theorem dX7_skippedIn_15 : decode cX7_skippedIn 15 = .ok (.aload_n 0, 1) := by decide +kernel
theorem dX7_skippedIn_16 : decode cX7_skippedIn 16 = .ok (.getfield 44, 3) := by decide +kernel
theorem dX7_skippedIn_19 : decode cX7_skippedIn 19 = .ok (.iload_n 1, 1) := by decide +kernel
theorem dX7_skippedIn_20 : decode cX7_skippedIn 20 = .ok (.iaload, 1) := by decide +kernel
theorem dX7_skippedIn_21 : decode cX7_skippedIn 21 = .ok (.iconst 1, 1) := by decide +kernel
theorem dX7_skippedIn_22 : decode cX7_skippedIn 22 = .ok (.if_icmp .ne 9, 3) := by decide +kernel
theorem dX7_skippedIn_31 : decode cX7_skippedIn 31 = .ok (.ldc2_w 204, 3) := by decide +kernel
theorem qX7_204 : Cond.constantLong RX7 204 (-2147483648) ∈ gtbl := gt_of 1023 (by decide +kernel) rfl
theorem dX7_skippedIn_34 : decode cX7_skippedIn 34 = .ok (.lreturn, 1) := by decide +kernel
theorem dX7_skippedIn_25 : decode cX7_skippedIn 25 = .ok (.ldc2_w 202, 3) := by decide +kernel
theorem qX7_202 : Cond.constantLong RX7 202 (-32768) ∈ gtbl := gt_of 1022 (by decide +kernel) rfl
theorem dX7_skippedIn_28 : decode cX7_skippedIn 28 = .ok (.goto 6, 3) := by decide +kernel
theorem dX7_skippedIn_9 : decode cX7_skippedIn 9 = .ok (.ldc2_w 200, 3) := by decide +kernel
theorem qX7_200 : Cond.constantLong RX7 200 (-128) ∈ gtbl := gt_of 1021 (by decide +kernel) rfl
theorem dX7_skippedIn_12 : decode cX7_skippedIn 12 = .ok (.goto 22, 3) := by decide +kernel
set_option maxRecDepth 100000 in
theorem c_X7_skippedIn (l : Launch) (D : va_G) (cy : Nat → Nat) (n : Nat) (ad : Nat → Nat) (F : Nat → va_E) (sz : Nat) (b : Stg) (ln tc : Int32) (co : Crs) (th bs en : Int32) (u : Int32 × Int32) (st kk dw ho : Int32) (sv : Crs) (pic ia tk : Int32) (hn : 68 ≤ n) (hM : F 56 = oModel ad b ln tc co th bs en u st kk dw ho sv pic ia tk) (so : Nat → Int32) (h64 : F 64 = oInts cy 8 so) (d : Int32) (hd : d = nI (iN d) ∧ iN d < 8) : Met l yX7_skippedIn (zw yX7_skippedIn cX7_skippedIn 2 (some .long)) (rmL 0) (zPc D cy n ad F sz [.ref (ad 56), .int d]) (va_Ql (fun r F1 => r = (sLow (so (iN d))).toInt64 ∧ F = F1) (zB D n ad) (zA n ad sz)) 0 0 (zA n ad sz) := by
  refine zmet (by decide +kernel) (Nat.le_of_ble_eq_true rfl) (fun p e s m args below meth c ls hC hsz hZ hA hr hlocks hnm hl => ?_)
  have hC : zC p m c cX7_skippedIn 2 s args RX7 D cy := hC
  have hx := hC.1.1
  have hb := hC.1.2.1
  have hl : lv_has ls 2 [(0, .ref (ad 56)), (1, .int d)] := hl
  refine lv_aload_n hx hb dX7_skippedIn_0 rfl (lv_at hl 0 rfl) ?_
  refine zget hC hZ fX7_44 (zlt hn rfl) hM rfl dX7_skippedIn_1 ?_
  refine lv_iload_n hx hb dX7_skippedIn_4 rfl (lv_at hl 1 rfl) ?_
  refine ziald hC hZ (zlt hn rfl) h64 hd.1 hd.2 (by decide) dX7_skippedIn_5 ?_
  refine lv_if_ne (tgt := 15) hx hb dX7_skippedIn_6 (by decide) (fun c_6 => ?_) (fun c_6 => ?_)
  · refine lv_aload_n hx hb dX7_skippedIn_15 rfl (lv_at hl 0 rfl) ?_
    refine zget hC hZ fX7_44 (zlt hn rfl) hM rfl dX7_skippedIn_16 ?_
    refine lv_iload_n hx hb dX7_skippedIn_19 rfl (lv_at hl 1 rfl) ?_
    refine ziald hC hZ (zlt hn rfl) h64 hd.1 hd.2 (by decide) dX7_skippedIn_20 ?_
    refine lv_iconst (v := 1) hx hb dX7_skippedIn_21 (by decide) ?_
    refine lv_icmp_ne (tgt := 31) hx hb dX7_skippedIn_22 (by decide) (fun c_22 => ?_) (fun c_22 => ?_)
    · refine lv_ldc2 (v := (-2147483648)) hx hb hC.1.2.2.2.1 (hC.1.2.2.2.2 _ qX7_204) dX7_skippedIn_31 ?_
      have hq : (-2147483648 : Int64) = (sLow (so (iN d))).toInt64 := (sLow_n _).2.2 c_6 c_22
      exact zlret hC hZ hr hlocks ⟨hq, rfl⟩ dX7_skippedIn_34
    · refine lv_ldc2 (v := (-32768)) hx hb hC.1.2.2.2.1 (hC.1.2.2.2.2 _ qX7_202) dX7_skippedIn_25 ?_
      refine lv_goto (tgt := 34) hx hb dX7_skippedIn_28 (by decide) ?_
      have hq : (-32768 : Int64) = (sLow (so (iN d))).toInt64 := (sLow_n _).2.1 c_6 c_22
      exact zlret hC hZ hr hlocks ⟨hq, rfl⟩ dX7_skippedIn_34
  · refine lv_ldc2 (v := (-128)) hx hb hC.1.2.2.2.1 (hC.1.2.2.2.2 _ qX7_200) dX7_skippedIn_9 ?_
    refine lv_goto (tgt := 34) hx hb dX7_skippedIn_12 (by decide) ?_
    have hq : (-128 : Int64) = (sLow (so (iN d))).toInt64 := (sLow_n _).1 c_6
    exact zlret hC hZ hr hlocks ⟨hq, rfl⟩ dX7_skippedIn_34

theorem mX7_narrowed : zMd yX7_narrowed cX7_narrowed 2 (some .long) 2 := ⟨by decide +kernel, gt_of 1115 (by decide +kernel) rfl, gt_of 52 (by decide +kernel) rfl, by decide⟩
theorem dX7_narrowed_0 : decode cX7_narrowed 0 = .ok (.iload_n 1, 1) := by decide +kernel
theorem dX7_narrowed_1 : decode cX7_narrowed 1 = .ok (.ifCond .ne 9, 3) := by decide +kernel
theorem dX7_narrowed_10 : decode cX7_narrowed 10 = .ok (.iload_n 1, 1) := by decide +kernel
theorem dX7_narrowed_11 : decode cX7_narrowed 11 = .ok (.iconst 1, 1) := by decide +kernel
theorem dX7_narrowed_12 : decode cX7_narrowed 12 = .ok (.if_icmp .ne 9, 3) := by decide +kernel
theorem dX7_narrowed_21 : decode cX7_narrowed 21 = .ok (.iload_n 0, 1) := by decide +kernel
theorem dX7_narrowed_22 : decode cX7_narrowed 22 = .ok (.i2l, 1) := by decide +kernel
theorem dX7_narrowed_23 : decode cX7_narrowed 23 = .ok (.lreturn, 1) := by decide +kernel
theorem dX7_narrowed_15 : decode cX7_narrowed 15 = .ok (.iload_n 0, 1) := by decide +kernel
theorem dX7_narrowed_16 : decode cX7_narrowed 16 = .ok (.i2s, 1) := by decide +kernel
theorem dX7_narrowed_17 : decode cX7_narrowed 17 = .ok (.i2l, 1) := by decide +kernel
theorem dX7_narrowed_18 : decode cX7_narrowed 18 = .ok (.goto 5, 3) := by decide +kernel
theorem dX7_narrowed_4 : decode cX7_narrowed 4 = .ok (.iload_n 0, 1) := by decide +kernel
theorem dX7_narrowed_5 : decode cX7_narrowed 5 = .ok (.i2b, 1) := by decide +kernel
theorem dX7_narrowed_6 : decode cX7_narrowed 6 = .ok (.i2l, 1) := by decide +kernel
theorem dX7_narrowed_7 : decode cX7_narrowed 7 = .ok (.goto 16, 3) := by decide +kernel
set_option maxRecDepth 100000 in
theorem c_X7_narrowed (l : Launch) (D : va_G) (cy : Nat → Nat) (n : Nat) (ad : Nat → Nat) (F : Nat → va_E) (sz : Nat) (v s0 : Int32) : Met l yX7_narrowed (zw yX7_narrowed cX7_narrowed 2 (some .long)) (rmL 0) (zPc D cy n ad F sz [.int v, .int s0]) (va_Ql (fun r F1 => r = (sNar s0 v).toInt64 ∧ F = F1) (zB D n ad) (zA n ad sz)) 0 0 (zA n ad sz) := by
  refine zmet (by decide +kernel) (Nat.le_of_ble_eq_true rfl) (fun p e s m args below meth c ls hC hsz hZ hA hr hlocks hnm hl => ?_)
  have hC : zC p m c cX7_narrowed 2 s args RX7 D cy := hC
  have hx := hC.1.1
  have hb := hC.1.2.1
  have hl : lv_has ls 2 [(0, .int v), (1, .int s0)] := hl
  refine lv_iload_n hx hb dX7_narrowed_0 rfl (lv_at hl 1 rfl) ?_
  refine lv_if_ne (tgt := 10) hx hb dX7_narrowed_1 (by decide) (fun c_1 => ?_) (fun c_1 => ?_)
  · refine lv_iload_n hx hb dX7_narrowed_10 rfl (lv_at hl 1 rfl) ?_
    refine lv_iconst (v := 1) hx hb dX7_narrowed_11 (by decide) ?_
    refine lv_icmp_ne (tgt := 21) hx hb dX7_narrowed_12 (by decide) (fun c_12 => ?_) (fun c_12 => ?_)
    · refine lv_iload_n hx hb dX7_narrowed_21 rfl (lv_at hl 0 rfl) ?_
      refine lv_i2l (v := (v).toInt64) hx hb dX7_narrowed_22 (by rfl) ?_
      have hq : (v).toInt64 = (sNar s0 v).toInt64 := (sNar_n _ _).2.2 c_1 c_12
      exact zlret hC hZ hr hlocks ⟨hq, rfl⟩ dX7_narrowed_23
    · refine lv_iload_n hx hb dX7_narrowed_15 rfl (lv_at hl 0 rfl) ?_
      refine lv_i2s (v := v.toInt16.toInt32) hx hb dX7_narrowed_16 rfl ?_
      refine lv_i2l (v := (v.toInt16.toInt32).toInt64) hx hb dX7_narrowed_17 (by rfl) ?_
      refine lv_goto (tgt := 23) hx hb dX7_narrowed_18 (by decide) ?_
      have hq : (v.toInt16.toInt32).toInt64 = (sNar s0 v).toInt64 := (sNar_n _ _).2.1 c_1 c_12
      exact zlret hC hZ hr hlocks ⟨hq, rfl⟩ dX7_narrowed_23
  · refine lv_iload_n hx hb dX7_narrowed_4 rfl (lv_at hl 0 rfl) ?_
    refine lv_i2b (v := v.toInt8.toInt32) hx hb dX7_narrowed_5 rfl ?_
    refine lv_i2l (v := (v.toInt8.toInt32).toInt64) hx hb dX7_narrowed_6 (by rfl) ?_
    refine lv_goto (tgt := 23) hx hb dX7_narrowed_7 (by decide) ?_
    have hq : (v.toInt8.toInt32).toInt64 = (sNar s0 v).toInt64 := (sNar_n _ _).1 c_1
    exact zlret hC hZ hr hlocks ⟨hq, rfl⟩ dX7_narrowed_23

theorem five (f : Int32) : 5 - f = 4 - f + 1 := by
  rw [show (5 : Int32) = 4 + 1 from rfl, Int32.sub_eq_add_neg, Int32.sub_eq_add_neg, Int32.add_assoc, Int32.add_comm 1, ← Int32.add_assoc]
theorem kind7 {x : Int32} (h0 : 0 ≤ x.toInt) (h7 : x.toInt ≤ 7) (n0 : ¬ x = 0) (n1 : ¬ x = 1) (n2 : ¬ x = 2) (n3 : ¬ x = 3) (n4 : ¬ x = 4) (n5 : ¬ x = 5) (n6 : ¬ x = 6) : x = 7 := by
  have e0 : ¬ x.toInt = 0 := lv_neT (k := 0) n0 rfl
  have e1 : ¬ x.toInt = 1 := lv_neT (k := 1) n1 rfl
  have e2 : ¬ x.toInt = 2 := lv_neT (k := 2) n2 rfl
  have e3 : ¬ x.toInt = 3 := lv_neT (k := 3) n3 rfl
  have e4 : ¬ x.toInt = 4 := lv_neT (k := 4) n4 rfl
  have e5 : ¬ x.toInt = 5 := lv_neT (k := 5) n5 rfl
  have e6 : ¬ x.toInt = 6 := lv_neT (k := 6) n6 rfl
  exact Int32.toInt_inj.mp (by have e7 : (7 : Int32).toInt = 7 := rfl; omega)
theorem mX7_waitOf : zMd yX7_waitOf cX7_waitOf 4 (some .int) 1 := ⟨by decide +kernel, gt_of 1131 (by decide +kernel) rfl, gt_of 52 (by decide +kernel) rfl, by decide⟩
theorem dX7_waitOf_0 : decode cX7_waitOf 0 = .ok (.aload_n 0, 1) := by decide +kernel
theorem dX7_waitOf_1 : decode cX7_waitOf 1 = .ok (.getfield 41, 3) := by decide +kernel
theorem dX7_waitOf_4 : decode cX7_waitOf 4 = .ok (.iload_n 1, 1) := by decide +kernel
theorem dX7_waitOf_5 : decode cX7_waitOf 5 = .ok (.iaload, 1) := by decide +kernel
theorem dX7_waitOf_6 : decode cX7_waitOf 6 = .ok (.istore_n 2, 1) := by decide +kernel
theorem dX7_waitOf_7 : decode cX7_waitOf 7 = .ok (.iconst 4, 1) := by decide +kernel
theorem dX7_waitOf_8 : decode cX7_waitOf 8 = .ok (.iload_n 2, 1) := by decide +kernel
theorem dX7_waitOf_9 : decode cX7_waitOf 9 = .ok (.iadd, 1) := by decide +kernel
theorem dX7_waitOf_10 : decode cX7_waitOf 10 = .ok (.istore_n 3, 1) := by decide +kernel
theorem dX7_waitOf_11 : decode cX7_waitOf 11 = .ok (.aload_n 0, 1) := by decide +kernel
theorem dX7_waitOf_12 : decode cX7_waitOf 12 = .ok (.getfield 38, 3) := by decide +kernel
theorem dX7_waitOf_15 : decode cX7_waitOf 15 = .ok (.iload_n 1, 1) := by decide +kernel
theorem dX7_waitOf_16 : decode cX7_waitOf 16 = .ok (.iaload, 1) := by decide +kernel
theorem dX7_waitOf_17 : decode cX7_waitOf 17 = .ok (.tableswitch 68 0 6 #[43, 45, 47, 51, 55, 60, 64], 43) := by decide +kernel
theorem dX7_waitOf_60 : decode cX7_waitOf 60 = .ok (.iconst 4, 1) := by decide +kernel
theorem dX7_waitOf_61 : decode cX7_waitOf 61 = .ok (.ireturn, 1) := by decide +kernel
theorem dX7_waitOf_62 : decode cX7_waitOf 62 = .ok (.iload_n 3, 1) := by decide +kernel
theorem dX7_waitOf_63 : decode cX7_waitOf 63 = .ok (.ireturn, 1) := by decide +kernel
theorem dX7_waitOf_64 : decode cX7_waitOf 64 = .ok (.iconst 2, 1) := by decide +kernel
theorem dX7_waitOf_65 : decode cX7_waitOf 65 = .ok (.iload_n 3, 1) := by decide +kernel
theorem dX7_waitOf_66 : decode cX7_waitOf 66 = .ok (.imul, 1) := by decide +kernel
theorem dX7_waitOf_67 : decode cX7_waitOf 67 = .ok (.ireturn, 1) := by decide +kernel
theorem dX7_waitOf_68 : decode cX7_waitOf 68 = .ok (.iconst 4, 1) := by decide +kernel
theorem dX7_waitOf_69 : decode cX7_waitOf 69 = .ok (.iload_n 2, 1) := by decide +kernel
theorem dX7_waitOf_70 : decode cX7_waitOf 70 = .ok (.isub, 1) := by decide +kernel
theorem dX7_waitOf_71 : decode cX7_waitOf 71 = .ok (.ireturn, 1) := by decide +kernel
theorem dX7_waitOf_72 : decode cX7_waitOf 72 = .ok (.iload_n 3, 1) := by decide +kernel
theorem dX7_waitOf_73 : decode cX7_waitOf 73 = .ok (.bipush 9, 2) := by decide +kernel
theorem dX7_waitOf_75 : decode cX7_waitOf 75 = .ok (.iadd, 1) := by decide +kernel
theorem dX7_waitOf_76 : decode cX7_waitOf 76 = .ok (.ireturn, 1) := by decide +kernel
theorem dX7_waitOf_77 : decode cX7_waitOf 77 = .ok (.iconst 4, 1) := by decide +kernel
theorem dX7_waitOf_78 : decode cX7_waitOf 78 = .ok (.iload_n 2, 1) := by decide +kernel
theorem dX7_waitOf_79 : decode cX7_waitOf 79 = .ok (.imul, 1) := by decide +kernel
theorem dX7_waitOf_80 : decode cX7_waitOf 80 = .ok (.ireturn, 1) := by decide +kernel
theorem dX7_waitOf_81 : decode cX7_waitOf 81 = .ok (.iload_n 3, 1) := by decide +kernel
theorem dX7_waitOf_82 : decode cX7_waitOf 82 = .ok (.iconst 2, 1) := by decide +kernel
theorem dX7_waitOf_83 : decode cX7_waitOf 83 = .ok (.idiv, 1) := by decide +kernel
theorem dX7_waitOf_84 : decode cX7_waitOf 84 = .ok (.ireturn, 1) := by decide +kernel
theorem dX7_waitOf_85 : decode cX7_waitOf 85 = .ok (.iconst 5, 1) := by decide +kernel
theorem dX7_waitOf_86 : decode cX7_waitOf 86 = .ok (.iload_n 2, 1) := by decide +kernel
theorem dX7_waitOf_87 : decode cX7_waitOf 87 = .ok (.isub, 1) := by decide +kernel
theorem dX7_waitOf_88 : decode cX7_waitOf 88 = .ok (.ireturn, 1) := by decide +kernel
set_option maxRecDepth 100000 in
theorem c_X7_waitOf (l : Launch) (D : va_G) (cy : Nat → Nat) (n : Nat) (ad : Nat → Nat) (F : Nat → va_E) (sz : Nat) (b : Stg) (ln tc : Int32) (co : Crs) (th bs en : Int32) (u : Int32 × Int32) (st kk dw ho : Int32) (sv : Crs) (pic ia tk : Int32) (hn : 68 ≤ n) (hM : F 56 = oModel ad b ln tc co th bs en u st kk dw ho sv pic ia tk) (kd : Nat → Int32) (h62 : F 62 = oInts cy 8 kd) (fg : Nat → Int32) (h63 : F 63 = oInts cy 8 fg) (d : Int32) (hd : d = nI (iN d) ∧ iN d < 8) (hk7 : gT (kd (iN d), fg (iN d))) : Met l yX7_waitOf (zw yX7_waitOf cX7_waitOf 4 (some .int)) (rmL 0) (zPc D cy n ad F sz [.ref (ad 56), .int d]) (va_Qi (fun r F1 => r = sWait (kd (iN d), fg (iN d)) ∧ F = F1) (zB D n ad) (zA n ad sz)) 0 0 (zA n ad sz) := by
  refine zmet (by decide +kernel) (Nat.le_of_ble_eq_true rfl) (fun p e s m args below meth c ls hC hsz hZ hA hr hlocks hnm hl => ?_)
  have hC : zC p m c cX7_waitOf 4 s args RX7 D cy := hC
  have hx := hC.1.1
  have hb := hC.1.2.1
  have hl : lv_has ls 4 [(0, .ref (ad 56)), (1, .int d)] := hl
  refine lv_aload_n hx hb dX7_waitOf_0 rfl (lv_at hl 0 rfl) ?_
  refine zget hC hZ fX7_41 (zlt hn rfl) hM rfl dX7_waitOf_1 ?_
  refine lv_iload_n hx hb dX7_waitOf_4 rfl (lv_at hl 1 rfl) ?_
  refine ziald hC hZ (zlt hn rfl) h63 hd.1 hd.2 (by decide) dX7_waitOf_5 ?_
  refine lv_istore_n (lv' := [(2, .int (fg (iN d))), (0, .ref (ad 56)), (1, .int d)]) hx hb dX7_waitOf_6 rfl hl (by decide) rfl (fun ls hl => ?_)
  refine lv_iconst (v := 4) hx hb dX7_waitOf_7 (by decide) ?_
  refine lv_iload_n hx hb dX7_waitOf_8 rfl (lv_at hl 0 rfl) ?_
  refine lv_iadd hx hb dX7_waitOf_9 ?_
  refine lv_istore_n (lv' := [(3, .int (4 + (fg (iN d)))), (2, .int (fg (iN d))), (0, .ref (ad 56)), (1, .int d)]) hx hb dX7_waitOf_10 rfl hl (by decide) rfl (fun ls hl => ?_)
  refine lv_aload_n hx hb dX7_waitOf_11 rfl (lv_at hl 2 rfl) ?_
  refine zget hC hZ fX7_38 (zlt hn rfl) hM rfl dX7_waitOf_12 ?_
  refine lv_iload_n hx hb dX7_waitOf_15 rfl (lv_at hl 3 rfl) ?_
  refine ziald hC hZ (zlt hn rfl) h62 hd.1 hd.2 (by decide) dX7_waitOf_16 ?_
  by_cases c_17_0 : (kd (iN d)) = 0
  · refine lv_tableIn (off := 43) (tgt := 60) hx hb dX7_waitOf_17 (by rw [c_17_0]; decide) (by rw [c_17_0]; decide) (by rw [c_17_0]; rfl) (by decide) ?_
    refine lv_iconst (v := 4) hx hb dX7_waitOf_60 (by decide) ?_
    have hq : (4 : Int32) = sWait (kd (iN d), fg (iN d)) := by simp [sWait, sWK, sWT, c_17_0]
    exact zireti hC hZ hr hlocks ⟨hq, rfl⟩ dX7_waitOf_61
  · by_cases c_17_1 : (kd (iN d)) = 1
    · refine lv_tableIn (off := 45) (tgt := 62) hx hb dX7_waitOf_17 (by rw [c_17_1]; decide) (by rw [c_17_1]; decide) (by rw [c_17_1]; rfl) (by decide) ?_
      refine lv_iload_n hx hb dX7_waitOf_62 rfl (lv_at hl 0 rfl) ?_
      have hq : ((4 + (fg (iN d))) : Int32) = sWait (kd (iN d), fg (iN d)) := by simp [sWait, sWK, sWT, c_17_0, c_17_1]
      exact zireti hC hZ hr hlocks ⟨hq, rfl⟩ dX7_waitOf_63
    · by_cases c_17_2 : (kd (iN d)) = 2
      · refine lv_tableIn (off := 47) (tgt := 64) hx hb dX7_waitOf_17 (by rw [c_17_2]; decide) (by rw [c_17_2]; decide) (by rw [c_17_2]; rfl) (by decide) ?_
        refine lv_iconst (v := 2) hx hb dX7_waitOf_64 (by decide) ?_
        refine lv_iload_n hx hb dX7_waitOf_65 rfl (lv_at hl 0 rfl) ?_
        refine lv_imul hx hb dX7_waitOf_66 ?_
        have hq : ((2 * (4 + (fg (iN d)))) : Int32) = sWait (kd (iN d), fg (iN d)) := by simp [sWait, sWK, sWT, c_17_0, c_17_1, c_17_2]
        exact zireti hC hZ hr hlocks ⟨hq, rfl⟩ dX7_waitOf_67
      · by_cases c_17_3 : (kd (iN d)) = 3
        · refine lv_tableIn (off := 51) (tgt := 68) hx hb dX7_waitOf_17 (by rw [c_17_3]; decide) (by rw [c_17_3]; decide) (by rw [c_17_3]; rfl) (by decide) ?_
          refine lv_iconst (v := 4) hx hb dX7_waitOf_68 (by decide) ?_
          refine lv_iload_n hx hb dX7_waitOf_69 rfl (lv_at hl 1 rfl) ?_
          refine lv_isub hx hb dX7_waitOf_70 ?_
          have hq : ((4 - (fg (iN d))) : Int32) = sWait (kd (iN d), fg (iN d)) := by simp [sWait, sWK, sWT, c_17_0, c_17_1, c_17_2, c_17_3]
          exact zireti hC hZ hr hlocks ⟨hq, rfl⟩ dX7_waitOf_71
        · by_cases c_17_4 : (kd (iN d)) = 4
          · refine lv_tableIn (off := 55) (tgt := 72) hx hb dX7_waitOf_17 (by rw [c_17_4]; decide) (by rw [c_17_4]; decide) (by rw [c_17_4]; rfl) (by decide) ?_
            refine lv_iload_n hx hb dX7_waitOf_72 rfl (lv_at hl 0 rfl) ?_
            refine lv_bipush (v := 9) hx hb dX7_waitOf_73 (by decide) ?_
            refine lv_iadd hx hb dX7_waitOf_75 ?_
            have hq : (((4 + (fg (iN d))) + 9) : Int32) = sWait (kd (iN d), fg (iN d)) := by simp [sWait, sWK, sWT, c_17_0, c_17_1, c_17_2, c_17_3, c_17_4]
            exact zireti hC hZ hr hlocks ⟨hq, rfl⟩ dX7_waitOf_76
          · by_cases c_17_5 : (kd (iN d)) = 5
            · refine lv_tableIn (off := 60) (tgt := 77) hx hb dX7_waitOf_17 (by rw [c_17_5]; decide) (by rw [c_17_5]; decide) (by rw [c_17_5]; rfl) (by decide) ?_
              refine lv_iconst (v := 4) hx hb dX7_waitOf_77 (by decide) ?_
              refine lv_iload_n hx hb dX7_waitOf_78 rfl (lv_at hl 1 rfl) ?_
              refine lv_imul hx hb dX7_waitOf_79 ?_
              have hq : ((4 * (fg (iN d))) : Int32) = sWait (kd (iN d), fg (iN d)) := by simp [sWait, sWK, sWT, c_17_0, c_17_1, c_17_2, c_17_3, c_17_4, c_17_5]
              exact zireti hC hZ hr hlocks ⟨hq, rfl⟩ dX7_waitOf_80
            · by_cases c_17_6 : (kd (iN d)) = 6
              · refine lv_tableIn (off := 64) (tgt := 81) hx hb dX7_waitOf_17 (by rw [c_17_6]; decide) (by rw [c_17_6]; decide) (by rw [c_17_6]; rfl) (by decide) ?_
                refine lv_iload_n hx hb dX7_waitOf_81 rfl (lv_at hl 0 rfl) ?_
                refine lv_iconst (v := 2) hx hb dX7_waitOf_82 (by decide) ?_
                refine lv_idiv hx hb dX7_waitOf_83 (by decide) ?_
                have hq : (((4 + (fg (iN d))) / 2) : Int32) = sWait (kd (iN d), fg (iN d)) := by simp [sWait, sWK, sWT, c_17_0, c_17_1, c_17_2, c_17_3, c_17_4, c_17_5, c_17_6]
                exact zireti hC hZ hr hlocks ⟨hq, rfl⟩ dX7_waitOf_84
              · refine lv_tableOut (tgt := 85) hx hb dX7_waitOf_17 (by have e0 : ¬ (kd (iN d)).toInt = 0 := lv_neT (k := 0) c_17_0 rfl; have e1 : ¬ (kd (iN d)).toInt = 1 := lv_neT (k := 1) c_17_1 rfl; have e2 : ¬ (kd (iN d)).toInt = 2 := lv_neT (k := 2) c_17_2 rfl; have e3 : ¬ (kd (iN d)).toInt = 3 := lv_neT (k := 3) c_17_3 rfl; have e4 : ¬ (kd (iN d)).toInt = 4 := lv_neT (k := 4) c_17_4 rfl; have e5 : ¬ (kd (iN d)).toInt = 5 := lv_neT (k := 5) c_17_5 rfl; have e6 : ¬ (kd (iN d)).toInt = 6 := lv_neT (k := 6) c_17_6 rfl; omega) (by decide) ?_
                refine lv_iconst (v := 5) hx hb dX7_waitOf_85 (by decide) ?_
                refine lv_iload_n hx hb dX7_waitOf_86 rfl (lv_at hl 1 rfl) ?_
                refine lv_isub hx hb dX7_waitOf_87 ?_
                have h7 : kd (iN d) = 7 := kind7 hk7.1 hk7.2.1 c_17_0 c_17_1 c_17_2 c_17_3 c_17_4 c_17_5 c_17_6
                have hq : (5 - (fg (iN d))) = sWait (kd (iN d), fg (iN d)) := by rw [five]; simp [sWait, sWK, sWT, h7]
                exact zireti hC hZ hr hlocks ⟨hq, rfl⟩ dX7_waitOf_88
