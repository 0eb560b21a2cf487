theorem zmin_zn {zn : Nat} (h : zn ≤ 100) : (if (100 : Int32) < nI zn then (100 : Int32) else nI zn) = nI zn := by
  rw [if_neg]
  rw [i32lt, nI_toInt (by omega)]
  have : (100 : Int32).toInt = 100 := rfl
  omega

theorem mX1_open : zMd yX1_open cX1_open 3 none 1 := ⟨by decide +kernel, gt_of 292 (by decide +kernel) rfl, gt_of 51 (by decide +kernel) rfl, by decide⟩
theorem dX1_open_0 : decode cX1_open 0 = .ok (.aload_n 0, 1) := by decide +kernel
theorem dX1_open_1 : decode cX1_open 1 = .ok (.aload_n 1, 1) := by decide +kernel
theorem dX1_open_2 : decode cX1_open 2 = .ok (.getfield 26, 3) := by decide +kernel
theorem fX1_26 : zFld RX1 26 4 3 := ⟨RX4, TX4, 5, rfl, inX4, by decide, rfl, Or.inr ⟨"ChainLeap", List.mem_of_getElem? (i := 185) (by decide +kernel)⟩⟩
theorem dX1_open_5 : decode cX1_open 5 = .ok (.bipush 100, 2) := by decide +kernel
theorem dX1_open_7 : decode cX1_open 7 = .ok (.invokestatic 29, 3) := by decide +kernel
theorem kX1_29 : zMath RX1 29 Lib.Math.min.name Lib.Math.min.code 2 (some .int) := ⟨gt_of 293 (by decide +kernel) rfl, gt_of 294 (by decide +kernel) rfl, gt_of 53 (by decide +kernel) rfl, gt_of 295 (by decide +kernel) rfl⟩
theorem dX1_open_10 : decode cX1_open 10 = .ok (.putfield 15, 3) := by decide +kernel
theorem pX1_15 : zFldP RX1 15 1 1 false .int := ⟨RX1, TX1, 4, tyX1, rfl, inX1, by decide, rfl, Or.inl (gt_of 208 (by decide +kernel) rfl), tyX1_ok, nmX1, rfl, by decide +kernel, fun h => by cases h⟩
theorem dX1_open_13 : decode cX1_open 13 = .ok (.iconst 0, 1) := by decide +kernel
theorem dX1_open_14 : decode cX1_open 14 = .ok (.istore_n 2, 1) := by decide +kernel
theorem dX1_open_15 : decode cX1_open 15 = .ok (.iload_n 2, 1) := by decide +kernel
theorem dX1_open_16 : decode cX1_open 16 = .ok (.aload_n 0, 1) := by decide +kernel
theorem dX1_open_17 : decode cX1_open 17 = .ok (.getfield 15, 3) := by decide +kernel
theorem fX1_15 : zFld RX1 15 1 1 := ⟨RX1, TX1, 4, rfl, inX1, by decide, rfl, Or.inl (gt_of 208 (by decide +kernel) rfl)⟩
theorem dX1_open_20 : decode cX1_open 20 = .ok (.if_icmp .ge 20, 3) := by decide +kernel
theorem dX1_open_40 : decode cX1_open 40 = .ok (.aload_n 0, 1) := by decide +kernel
theorem dX1_open_41 : decode cX1_open 41 = .ok (.iconst 0, 1) := by decide +kernel
theorem dX1_open_42 : decode cX1_open 42 = .ok (.putfield 19, 3) := by decide +kernel
theorem pX1_19 : zFldP RX1 19 1 2 false .int := ⟨RX1, TX1, 4, tyX1, rfl, inX1, by decide, rfl, Or.inl (gt_of 209 (by decide +kernel) rfl), tyX1_ok, nmX1, rfl, by decide +kernel, fun h => by cases h⟩
theorem dX1_open_45 : decode cX1_open 45 = .ok (.aload_n 0, 1) := by decide +kernel
theorem dX1_open_46 : decode cX1_open 46 = .ok (.iconst 0, 1) := by decide +kernel
theorem dX1_open_47 : decode cX1_open 47 = .ok (.putfield 22, 3) := by decide +kernel
theorem pX1_22 : zFldP RX1 22 1 3 false .boolean := ⟨RX1, TX1, 4, tyX1, rfl, inX1, by decide, rfl, Or.inl (gt_of 211 (by decide +kernel) rfl), tyX1_ok, nmX1, rfl, by decide +kernel, fun h => by cases h⟩
theorem dX1_open_50 : decode cX1_open 50 = .ok (.return_, 1) := by decide +kernel
theorem dX1_open_23 : decode cX1_open 23 = .ok (.aload_n 0, 1) := by decide +kernel
theorem dX1_open_24 : decode cX1_open 24 = .ok (.getfield 9, 3) := by decide +kernel
theorem fX1_9 : zFld RX1 9 1 0 := ⟨RX1, TX1, 4, rfl, inX1, by decide, rfl, Or.inl (gt_of 207 (by decide +kernel) rfl)⟩
theorem dX1_open_27 : decode cX1_open 27 = .ok (.iload_n 2, 1) := by decide +kernel
theorem dX1_open_28 : decode cX1_open 28 = .ok (.aload_n 1, 1) := by decide +kernel
theorem dX1_open_29 : decode cX1_open 29 = .ok (.iload_n 2, 1) := by decide +kernel
theorem dX1_open_30 : decode cX1_open 30 = .ok (.invokevirtual 35, 3) := by decide +kernel
theorem kX1_35 : zLk RX1 35 yX4_at := Or.inl (gt_of 296 (by decide +kernel) rfl)
theorem dX1_open_33 : decode cX1_open 33 = .ok (.iastore, 1) := by decide +kernel
theorem dX1_open_34 : decode cX1_open 34 = .ok (.iinc 2 1, 3) := by decide +kernel
theorem dX1_open_37 : decode cX1_open 37 = .ok (.goto (-22), 3) := by decide +kernel
set_option maxRecDepth 100000 in
theorem c_X1_open (l : Launch) (D : va_G) (cy : Nat → Nat) (n : Nat) (ad : Nat → Nat) (F : Nat → va_E) (sz : Nat) (k : Nat) (f : Nat → Int32) (z : Int32) (u : Int32 × Int32) (hk : k + 2 ≤ n) (hFk : F k = oReader ad k z u.1 u.2) (hFt : F (k + 1) = oInts cy 100 f) (j : Nat) (sf : Shf) (hj : j + 3 ≤ n) (hJ : RSh ad cy j F sf) (hkj : k + 2 ≤ j ∨ j + 3 ≤ k) (zn : Nat) (hzn : zn ≤ 100) (hz : sf.2.2.2.1 = nI zn) : Met l yX1_open (zw yX1_open cX1_open 3 none) (rmL 2) (zPc D cy n ad F sz [.ref (ad k), .ref (ad j)]) (va_Qv (fun F1 => F1 k = oReader ad k (nI zn) 0 0 ∧ F1 (k + 1) = oInts cy 100 (zcop sf.2.2.2.2 f zn) ∧ ∀ q, ¬ (k ≤ q ∧ q < k + 2) → F1 q = F q) (zB D n ad) (zA n ad sz)) 0 0 (zA n ad sz) := by
  refine zmet (by decide +kernel) (Nat.le_of_ble_eq_true rfl) (fun p e s m args below meth c ls hC hsz hZ hA hr hlocks hnm hl => ?_)
  have hC : zC p m c cX1_open 3 s args RX1 D cy := hC
  have hx := hC.1.1
  have hb := hC.1.2.1
  have hl : lv_has ls 3 [(0, .ref (ad k)), (1, .ref (ad j))] := hl
  refine lv_aload_n hx hb dX1_open_0 rfl (lv_at hl 0 rfl) ?_
  refine lv_aload_n hx hb dX1_open_1 rfl (lv_at hl 1 rfl) ?_
  refine zget hC hZ fX1_26 (by omega) hJ.1 rfl dX1_open_2 ?_
  refine lv_bipush (v := 100) hx hb dX1_open_5 (by decide) ?_
  refine zmin hC kX1_29 hl.1 (zRj_of rfl) (Nat.le_of_ble_eq_true rfl) ⟨Nat.le_refl _, Nat.le_refl _⟩ dX1_open_7 ?_
  refine zput (E := oReader ad k (if 100 < sf.2.2.2.1 then 100 else sf.2.2.2.1) u.1 u.2) hC hZ pX1_15 (by omega) hFk rfl rfl rfl (Nat.le_of_ble_eq_true rfl) dX1_open_10 (fun F_1 hF_2 H locs hZ => ?_)
  have h_3 := zeq hF_2
  refine lv_iconst (v := 0) hx hb dX1_open_13 (by decide) ?_
  refine lv_istore_n (lv' := [(2, .int 0), (0, .ref (ad k)), (1, .ref (ad j))]) hx hb dX1_open_14 rfl hl (by decide) rfl (fun ls hl => ?_)
  refine zlp (X := Nat) 15 (fun _ => []) (fun i ls F1 => i ≤ zn ∧ lv_has ls 3 [(2, .int (nI i)), (0, .ref (ad k)), (1, .ref (ad j))] ∧ F1 k = oReader ad k (nI zn) u.1 u.2 ∧ F1 (k + 1) = oInts cy 100 (zcop sf.2.2.2.2 f i) ∧ RSh ad cy j F1 sf ∧ ∀ q, ¬ (k ≤ q ∧ q < k + 2) → F1 q = F q) (fun i => zn - i) ?_ 0 hZ ⟨by omega, hl, (zeq hF_2).trans ?_, ?_, ?_, fr_up hF_2 (by omega) (by omega)⟩
  · intro i ih ls F3 H locs hZ hφ
    obtain ⟨hi, hl, hK3, hT3, hJ3, hfr⟩ := hφ
    refine lv_iload_n hx hb dX1_open_15 rfl (lv_at hl 0 rfl) ?_
    refine lv_aload_n hx hb dX1_open_16 rfl (lv_at hl 1 rfl) ?_
    refine zget hC hZ fX1_15 (by omega) hK3 rfl dX1_open_17 ?_
    refine lv_icmp_ge (tgt := 40) hx hb dX1_open_20 (by decide) (fun c_20 => ?_) (fun c_20 => ?_)
    · refine lv_aload_n hx hb dX1_open_40 rfl (lv_at hl 1 rfl) ?_
      refine lv_iconst (v := 0) hx hb dX1_open_41 (by decide) ?_
      refine zput (E := oReader ad k (nI zn) 0 u.2) hC hZ pX1_19 (by omega) hK3 rfl rfl rfl (Nat.le_of_ble_eq_true rfl) dX1_open_42 (fun F_4 hF_5 H locs hZ => ?_)
      have h_6 := zeq hF_5
      refine lv_aload_n hx hb dX1_open_45 rfl (lv_at hl 1 rfl) ?_
      refine lv_iconst (v := 0) hx hb dX1_open_46 (by decide) ?_
      refine zput (E := oReader ad k (nI zn) 0 0) hC hZ pX1_22 (by omega) h_6 rfl rfl rfl (Nat.le_of_ble_eq_true rfl) dX1_open_47 (fun F_7 hF_8 H locs hZ => ?_)
      have h_9 := zeq hF_8
      have hi8 : i = zn := by rcases Nat.lt_or_ge i zn with h | h; exact absurd c_20 (by rw [Int32.not_le]; exact nI_lt h (by omega)); omega
      subst hi8
      exact zvret hC hZ hr hlocks ⟨zeq hF_8, zne hF_8 (by omega) (zne hF_5 (by omega) hT3), fr_tr hfr (fr_tr (fr_up hF_5 (by omega) (by omega)) (fr_up hF_8 (by omega) (by omega)))⟩ dX1_open_50
    · refine lv_aload_n hx hb dX1_open_23 rfl (lv_at hl 1 rfl) ?_
      refine zget hC hZ fX1_9 (by omega) hK3 rfl dX1_open_24 ?_
      refine lv_iload_n hx hb dX1_open_27 rfl (lv_at hl 0 rfl) ?_
      refine lv_aload_n hx hb dX1_open_28 rfl (lv_at hl 2 rfl) ?_
      refine lv_iload_n hx hb dX1_open_29 rfl (lv_at hl 0 rfl) ?_
      refine zgoi hZ hA (zrunV (As := [.int (nI i)]) (rest := [.int (nI i), .ref (ad (k + 1))]) (k := j) hC hZ (c_X4_at l D cy n ad F3 H.size j sf hj hJ3 (nI i)) mX4_at vX4_at kX1_35 (zRj_of rfl) (by omega) hJ3.1 rfl rfl hl.1 rfl (Nat.le_of_ble_eq_true rfl) dX1_open_30 ⟨Nat.le_refl _, Nat.le_refl _⟩) (fun r_11 F_10 hp_12 H locs hZ => ?_)
      obtain ⟨rfl, rfl⟩ := hp_12
      have hlt0 : i < 100 := by have := c_20; rcases Nat.lt_or_ge i zn with h | h; omega; exact absurd (nI_le h (by omega)) this
      refine ziast hC hZ (by omega) hT3 rfl hlt0 (by decide) dX1_open_33 (fun F_13 hF_14 H locs hZ => ?_)
      have h_15 := zeq hF_14
      refine lv_iinc (v := nI (i + 1)) (lv' := [(2, .int (nI (i + 1))), (0, .ref (ad k)), (1, .ref (ad j))]) hx hb dX1_open_34 hl (k := 0) rfl (nI_1 i) (by decide) rfl (fun ls hl => ?_)
      refine lv_goto (tgt := 15) hx hb dX1_open_37 (by decide) ?_
      have hlt : i < zn := by have := c_20; rcases Nat.lt_or_ge i zn with h | h; exact h; exact absurd (nI_le h (by omega)) this
      refine ih (i + 1) ls _ H locs (by show zn - (i + 1) < zn - i; omega) hZ ⟨by omega, hl, zne hF_14 (by omega) hK3, (zeq hF_14).trans ?_, ?_, fr_tr hfr (fr_up hF_14 (by omega) (by omega))⟩
      · rw [hz, sAt_nI (by omega) hlt, zcop_s]
      · refine ⟨(zne hF_14 (by omega) hJ3.1), (zne hF_14 (by omega) hJ3.2.1), (zne hF_14 (by omega) hJ3.2.2)⟩
  · rw [hz, zmin_zn hzn]
  · rw [zcop_0]
    exact zne hF_2 (by omega) hFt
  · refine ⟨(zne hF_2 (by omega) hJ.1), (zne hF_2 (by omega) hJ.2.1), (zne hF_2 (by omega) hJ.2.2)⟩

theorem mX1_isAtEnd : zMd yX1_isAtEnd cX1_isAtEnd 1 (some .boolean) 0 := ⟨by decide +kernel, gt_of 348 (by decide +kernel) rfl, gt_of 51 (by decide +kernel) rfl, by decide⟩
theorem dX1_isAtEnd_0 : decode cX1_isAtEnd 0 = .ok (.aload_n 0, 1) := by decide +kernel
theorem dX1_isAtEnd_1 : decode cX1_isAtEnd 1 = .ok (.getfield 19, 3) := by decide +kernel
theorem fX1_19 : zFld RX1 19 1 2 := ⟨RX1, TX1, 4, rfl, inX1, by decide, rfl, Or.inl (gt_of 209 (by decide +kernel) rfl)⟩
theorem dX1_isAtEnd_4 : decode cX1_isAtEnd 4 = .ok (.aload_n 0, 1) := by decide +kernel
theorem dX1_isAtEnd_5 : decode cX1_isAtEnd 5 = .ok (.getfield 15, 3) := by decide +kernel
theorem dX1_isAtEnd_8 : decode cX1_isAtEnd 8 = .ok (.if_icmp .lt 7, 3) := by decide +kernel
theorem dX1_isAtEnd_15 : decode cX1_isAtEnd 15 = .ok (.iconst 0, 1) := by decide +kernel
theorem dX1_isAtEnd_16 : decode cX1_isAtEnd 16 = .ok (.ireturn, 1) := by decide +kernel
theorem dX1_isAtEnd_11 : decode cX1_isAtEnd 11 = .ok (.iconst 1, 1) := by decide +kernel
theorem dX1_isAtEnd_12 : decode cX1_isAtEnd 12 = .ok (.goto 4, 3) := by decide +kernel
set_option maxRecDepth 100000 in
theorem c_X1_isAtEnd (l : Launch) (D : va_G) (cy : Nat → Nat) (n : Nat) (ad : Nat → Nat) (F : Nat → va_E) (sz : Nat) (k : Nat) (f : Nat → Int32) (z : Int32) (u : Int32 × Int32) (hk : k + 2 ≤ n) (hFk : F k = oReader ad k z u.1 u.2) (hFt : F (k + 1) = oInts cy 100 f) : Met l yX1_isAtEnd (zw yX1_isAtEnd cX1_isAtEnd 1 (some .boolean)) (rmL 0) (zPc D cy n ad F sz [.ref (ad k)]) (va_Qi (fun r F1 => r = (if z ≤ u.1 then 1 else 0) ∧ F = F1) (zB D n ad) (zA n ad sz)) 0 0 (zA n ad sz) := by
  refine zmet (by decide +kernel) (Nat.le_of_ble_eq_true rfl) (fun p e s m args below meth c ls hC hsz hZ hA hr hlocks hnm hl => ?_)
  have hC : zC p m c cX1_isAtEnd 1 s args RX1 D cy := hC
  have hx := hC.1.1
  have hb := hC.1.2.1
  have hl : lv_has ls 1 [(0, .ref (ad k))] := hl
  refine lv_aload_n hx hb dX1_isAtEnd_0 rfl (lv_at hl 0 rfl) ?_
  refine zget hC hZ fX1_19 (by omega) hFk rfl dX1_isAtEnd_1 ?_
  refine lv_aload_n hx hb dX1_isAtEnd_4 rfl (lv_at hl 0 rfl) ?_
  refine zget hC hZ fX1_15 (by omega) hFk rfl dX1_isAtEnd_5 ?_
  refine lv_icmp_lt (tgt := 15) hx hb dX1_isAtEnd_8 (by decide) (fun c_8 => ?_) (fun c_8 => ?_)
  · refine lv_iconst (v := 0) hx hb dX1_isAtEnd_15 (by decide) ?_
    have hq_1 : (0 : Int32) = if z ≤ u.1 then 1 else 0 := by simp [c_8, Int32.not_le.mpr c_8]
    exact zbreti hC hZ hr hlocks rfl ⟨hq_1, rfl⟩ dX1_isAtEnd_16
  · refine lv_iconst (v := 1) hx hb dX1_isAtEnd_11 (by decide) ?_
    refine lv_goto (tgt := 16) hx hb dX1_isAtEnd_12 (by decide) ?_
    have hq_2 : (1 : Int32) = if z ≤ u.1 then 1 else 0 := by simp [c_8, Int32.not_lt.mp c_8]
    exact zbreti hC hZ hr hlocks rfl ⟨hq_2, rfl⟩ dX1_isAtEnd_16

theorem mX1_next : zMd yX1_next cX1_next 1 (some .int) 0 := ⟨by decide +kernel, gt_of 319 (by decide +kernel) rfl, gt_of 51 (by decide +kernel) rfl, by decide⟩
theorem dX1_next_0 : decode cX1_next 0 = .ok (.aload_n 0, 1) := by decide +kernel
theorem dX1_next_1 : decode cX1_next 1 = .ok (.getfield 19, 3) := by decide +kernel
theorem dX1_next_4 : decode cX1_next 4 = .ok (.ifCond .lt 35, 3) := by decide +kernel
theorem dX1_next_39 : decode cX1_next 39 = .ok (.sipush (-1000), 3) := by decide +kernel
theorem dX1_next_42 : decode cX1_next 42 = .ok (.ireturn, 1) := by decide +kernel
theorem dX1_next_7 : decode cX1_next 7 = .ok (.aload_n 0, 1) := by decide +kernel
theorem dX1_next_8 : decode cX1_next 8 = .ok (.getfield 19, 3) := by decide +kernel
theorem dX1_next_11 : decode cX1_next 11 = .ok (.aload_n 0, 1) := by decide +kernel
theorem dX1_next_12 : decode cX1_next 12 = .ok (.getfield 15, 3) := by decide +kernel
theorem dX1_next_15 : decode cX1_next 15 = .ok (.if_icmp .ge 24, 3) := by decide +kernel
theorem dX1_next_18 : decode cX1_next 18 = .ok (.aload_n 0, 1) := by decide +kernel
theorem dX1_next_19 : decode cX1_next 19 = .ok (.getfield 19, 3) := by decide +kernel
theorem dX1_next_22 : decode cX1_next 22 = .ok (.bipush 100, 2) := by decide +kernel
theorem dX1_next_24 : decode cX1_next 24 = .ok (.if_icmp .ge 15, 3) := by decide +kernel
theorem dX1_next_27 : decode cX1_next 27 = .ok (.aload_n 0, 1) := by decide +kernel
theorem dX1_next_28 : decode cX1_next 28 = .ok (.getfield 9, 3) := by decide +kernel
theorem dX1_next_31 : decode cX1_next 31 = .ok (.aload_n 0, 1) := by decide +kernel
theorem dX1_next_32 : decode cX1_next 32 = .ok (.getfield 19, 3) := by decide +kernel
theorem dX1_next_35 : decode cX1_next 35 = .ok (.iaload, 1) := by decide +kernel
theorem dX1_next_36 : decode cX1_next 36 = .ok (.goto 6, 3) := by decide +kernel
set_option maxRecDepth 100000 in
theorem c_X1_next (l : Launch) (D : va_G) (cy : Nat → Nat) (n : Nat) (ad : Nat → Nat) (F : Nat → va_E) (sz : Nat) (k : Nat) (f : Nat → Int32) (z : Int32) (u : Int32 × Int32) (hk : k + 2 ≤ n) (hFk : F k = oReader ad k z u.1 u.2) (hFt : F (k + 1) = oInts cy 100 f) : Met l yX1_next (zw yX1_next cX1_next 1 (some .int)) (rmL 0) (zPc D cy n ad F sz [.ref (ad k)]) (va_Qi (fun r F1 => r = sNext f z u.1 ∧ F = F1) (zB D n ad) (zA n ad sz)) 0 0 (zA n ad sz) := by
  refine zmet (by decide +kernel) (Nat.le_of_ble_eq_true rfl) (fun p e s m args below meth c ls hC hsz hZ hA hr hlocks hnm hl => ?_)
  have hC : zC p m c cX1_next 1 s args RX1 D cy := hC
  have hx := hC.1.1
  have hb := hC.1.2.1
  have hl : lv_has ls 1 [(0, .ref (ad k))] := hl
  refine lv_aload_n hx hb dX1_next_0 rfl (lv_at hl 0 rfl) ?_
  refine zget hC hZ fX1_19 (by omega) hFk rfl dX1_next_1 ?_
  refine lv_if_lt (tgt := 39) hx hb dX1_next_4 (by decide) (fun c_4 => ?_) (fun c_4 => ?_)
  · refine lv_sipush (v := (-1000)) hx hb dX1_next_39 (by decide) ?_
    have hq_1 : (-1000 : Int32) = sNext f z u.1 := by first | rfl | simp [sNext, c_4, Int32.not_le.mpr c_4] | (simp only [sNext]; simp [c_4, Int32.not_le.mpr c_4])
    exact zireti hC hZ hr hlocks ⟨hq_1, rfl⟩ dX1_next_42
  · refine lv_aload_n hx hb dX1_next_7 rfl (lv_at hl 0 rfl) ?_
    refine zget hC hZ fX1_19 (by omega) hFk rfl dX1_next_8 ?_
    refine lv_aload_n hx hb dX1_next_11 rfl (lv_at hl 0 rfl) ?_
    refine zget hC hZ fX1_15 (by omega) hFk rfl dX1_next_12 ?_
    refine lv_icmp_ge (tgt := 39) hx hb dX1_next_15 (by decide) (fun c_15 => ?_) (fun c_15 => ?_)
    · refine lv_sipush (v := (-1000)) hx hb dX1_next_39 (by decide) ?_
      have hq_2 : (-1000 : Int32) = sNext f z u.1 := by first | rfl | simp [sNext, c_4, Int32.not_lt.mp c_4, c_15, Int32.not_lt.mpr c_15] | (simp only [sNext]; simp [c_4, Int32.not_lt.mp c_4, c_15, Int32.not_lt.mpr c_15])
      exact zireti hC hZ hr hlocks ⟨hq_2, rfl⟩ dX1_next_42
    · refine lv_aload_n hx hb dX1_next_18 rfl (lv_at hl 0 rfl) ?_
      refine zget hC hZ fX1_19 (by omega) hFk rfl dX1_next_19 ?_
      refine lv_bipush (v := 100) hx hb dX1_next_22 (by decide) ?_
      refine lv_icmp_ge (tgt := 39) hx hb dX1_next_24 (by decide) (fun c_24 => ?_) (fun c_24 => ?_)
      · refine lv_sipush (v := (-1000)) hx hb dX1_next_39 (by decide) ?_
        have hq_3 : (-1000 : Int32) = sNext f z u.1 := by first | rfl | simp [sNext, c_4, Int32.not_lt.mp c_4, c_15, Int32.not_le.mp c_15, c_24, Int32.not_lt.mpr c_24] | (simp only [sNext]; simp [c_4, Int32.not_lt.mp c_4, c_15, Int32.not_le.mp c_15, c_24, Int32.not_lt.mpr c_24])
        exact zireti hC hZ hr hlocks ⟨hq_3, rfl⟩ dX1_next_42
      · refine lv_aload_n hx hb dX1_next_27 rfl (lv_at hl 0 rfl) ?_
        refine zget hC hZ fX1_9 (by omega) hFk rfl dX1_next_28 ?_
        refine lv_aload_n hx hb dX1_next_31 rfl (lv_at hl 0 rfl) ?_
        refine zget hC hZ fX1_19 (by omega) hFk rfl dX1_next_32 ?_
        refine ziald hC hZ (by omega) hFt (iN_at (N := 100) (Int32.not_lt.mp c_4) (Int32.not_le.mp c_24) rfl).1 (iN_at (N := 100) (Int32.not_lt.mp c_4) (Int32.not_le.mp c_24) rfl).2 (by decide) dX1_next_35 ?_
        refine lv_goto (tgt := 42) hx hb dX1_next_36 (by decide) ?_
        have hq_4 : (f (iN u.1)) = sNext f z u.1 := by first | rfl | simp [sNext, c_4, Int32.not_lt.mp c_4, c_15, Int32.not_le.mp c_15, c_24, Int32.not_le.mp c_24] | (simp only [sNext]; simp [c_4, Int32.not_lt.mp c_4, c_15, Int32.not_le.mp c_15, c_24, Int32.not_le.mp c_24])
        exact zireti hC hZ hr hlocks ⟨hq_4, rfl⟩ dX1_next_42

theorem mX1_isAtDigit : zMd yX1_isAtDigit cX1_isAtDigit 1 (some .boolean) 0 := ⟨by decide +kernel, gt_of 331 (by decide +kernel) rfl, gt_of 51 (by decide +kernel) rfl, by decide⟩
theorem dX1_isAtDigit_0 : decode cX1_isAtDigit 0 = .ok (.aload_n 0, 1) := by decide +kernel
theorem dX1_isAtDigit_1 : decode cX1_isAtDigit 1 = .ok (.invokevirtual 67, 3) := by decide +kernel
theorem kX1_67 : zLk RX1 67 yX1_next := Or.inl (gt_of 316 (by decide +kernel) rfl)
theorem vX1_next : zMi yX1_next := ⟨gt_of 318 (by decide +kernel) rfl, gt_of 6 (by decide +kernel) rfl⟩
theorem dX1_isAtDigit_4 : decode cX1_isAtDigit 4 = .ok (.bipush 48, 2) := by decide +kernel
theorem dX1_isAtDigit_6 : decode cX1_isAtDigit 6 = .ok (.if_icmp .lt 16, 3) := by decide +kernel
theorem dX1_isAtDigit_22 : decode cX1_isAtDigit 22 = .ok (.iconst 0, 1) := by decide +kernel
theorem dX1_isAtDigit_23 : decode cX1_isAtDigit 23 = .ok (.ireturn, 1) := by decide +kernel
theorem dX1_isAtDigit_9 : decode cX1_isAtDigit 9 = .ok (.aload_n 0, 1) := by decide +kernel
theorem dX1_isAtDigit_10 : decode cX1_isAtDigit 10 = .ok (.invokevirtual 67, 3) := by decide +kernel
theorem dX1_isAtDigit_13 : decode cX1_isAtDigit 13 = .ok (.bipush 57, 2) := by decide +kernel
theorem dX1_isAtDigit_15 : decode cX1_isAtDigit 15 = .ok (.if_icmp .gt 7, 3) := by decide +kernel
theorem dX1_isAtDigit_18 : decode cX1_isAtDigit 18 = .ok (.iconst 1, 1) := by decide +kernel
theorem dX1_isAtDigit_19 : decode cX1_isAtDigit 19 = .ok (.goto 4, 3) := by decide +kernel
set_option maxRecDepth 100000 in
theorem c_X1_isAtDigit (l : Launch) (D : va_G) (cy : Nat → Nat) (n : Nat) (ad : Nat → Nat) (F : Nat → va_E) (sz : Nat) (k : Nat) (f : Nat → Int32) (z : Int32) (u : Int32 × Int32) (hk : k + 2 ≤ n) (hFk : F k = oReader ad k z u.1 u.2) (hFt : F (k + 1) = oInts cy 100 f) : Met l yX1_isAtDigit (zw yX1_isAtDigit cX1_isAtDigit 1 (some .boolean)) (rmL 1) (zPc D cy n ad F sz [.ref (ad k)]) (va_Qi (fun r F1 => r = (if bDig (sNext f z) u.1 then 1 else 0) ∧ F = F1) (zB D n ad) (zA n ad sz)) 0 0 (zA n ad sz) := by
  refine zmet (by decide +kernel) (Nat.le_of_ble_eq_true rfl) (fun p e s m args below meth c ls hC hsz hZ hA hr hlocks hnm hl => ?_)
  have hC : zC p m c cX1_isAtDigit 1 s args RX1 D cy := hC
  have hx := hC.1.1
  have hb := hC.1.2.1
  have hl : lv_has ls 1 [(0, .ref (ad k))] := hl
  refine lv_aload_n hx hb dX1_isAtDigit_0 rfl (lv_at hl 0 rfl) ?_
  refine zgoi hZ hA (zrunV (As := []) (rest := []) (k := k) hC hZ (c_X1_next l D cy n ad F s.heap.size k f z u hk hFk hFt) mX1_next vX1_next kX1_67 (zRj_of rfl) (by omega) hFk rfl rfl hl.1 rfl (Nat.le_of_ble_eq_true rfl) dX1_isAtDigit_1 ⟨Nat.le_refl _, Nat.le_refl _⟩) (fun r_2 F_1 hp_3 H locs hZ => ?_)
  obtain ⟨rfl, rfl⟩ := hp_3
  refine lv_bipush (v := 48) hx hb dX1_isAtDigit_4 (by decide) ?_
  refine lv_icmp_lt (tgt := 22) hx hb dX1_isAtDigit_6 (by decide) (fun c_6 => ?_) (fun c_6 => ?_)
  · refine lv_iconst (v := 0) hx hb dX1_isAtDigit_22 (by decide) ?_
    have hq_4 : (0 : Int32) = if bDig (sNext f z) u.1 then 1 else 0 := by simp [c_6, Int32.not_le.mpr c_6]
    exact zbreti hC hZ hr hlocks rfl ⟨hq_4, rfl⟩ dX1_isAtDigit_23
  · refine lv_aload_n hx hb dX1_isAtDigit_9 rfl (lv_at hl 0 rfl) ?_
    refine zgoi hZ hA (zrunV (As := []) (rest := []) (k := k) hC hZ (c_X1_next l D cy n ad F H.size k f z u hk hFk hFt) mX1_next vX1_next kX1_67 (zRj_of rfl) (by omega) hFk rfl rfl hl.1 rfl (Nat.le_of_ble_eq_true rfl) dX1_isAtDigit_10 ⟨Nat.le_refl _, Nat.le_refl _⟩) (fun r_6 F_5 hp_7 H locs hZ => ?_)
    obtain ⟨rfl, rfl⟩ := hp_7
    refine lv_bipush (v := 57) hx hb dX1_isAtDigit_13 (by decide) ?_
    refine lv_icmp_gt (tgt := 22) hx hb dX1_isAtDigit_15 (by decide) (fun c_15 => ?_) (fun c_15 => ?_)
    · refine lv_iconst (v := 0) hx hb dX1_isAtDigit_22 (by decide) ?_
      have hq_8 : (0 : Int32) = if bDig (sNext f z) u.1 then 1 else 0 := by simp [c_6, Int32.not_lt.mp c_6, c_15, Int32.not_le.mpr c_15]
      exact zbreti hC hZ hr hlocks rfl ⟨hq_8, rfl⟩ dX1_isAtDigit_23
    · refine lv_iconst (v := 1) hx hb dX1_isAtDigit_18 (by decide) ?_
      refine lv_goto (tgt := 23) hx hb dX1_isAtDigit_19 (by decide) ?_
      have hq_9 : (1 : Int32) = if bDig (sNext f z) u.1 then 1 else 0 := by simp [c_6, Int32.not_lt.mp c_6, c_15, Int32.not_lt.mp c_15]
      exact zbreti hC hZ hr hlocks rfl ⟨hq_9, rfl⟩ dX1_isAtDigit_23

theorem mX1_accepts : zMd yX1_accepts cX1_accepts 2 (some .boolean) 1 := ⟨by decide +kernel, gt_of 315 (by decide +kernel) rfl, gt_of 51 (by decide +kernel) rfl, by decide⟩
theorem dX1_accepts_0 : decode cX1_accepts 0 = .ok (.aload_n 0, 1) := by decide +kernel
theorem dX1_accepts_1 : decode cX1_accepts 1 = .ok (.getfield 22, 3) := by decide +kernel
theorem fX1_22 : zFld RX1 22 1 3 := ⟨RX1, TX1, 4, rfl, inX1, by decide, rfl, Or.inl (gt_of 211 (by decide +kernel) rfl)⟩
theorem dX1_accepts_4 : decode cX1_accepts 4 = .ok (.ifCond .ne 11, 3) := by decide +kernel
theorem dX1_accepts_15 : decode cX1_accepts 15 = .ok (.iconst 0, 1) := by decide +kernel
theorem dX1_accepts_16 : decode cX1_accepts 16 = .ok (.ireturn, 1) := by decide +kernel
theorem dX1_accepts_7 : decode cX1_accepts 7 = .ok (.aload_n 0, 1) := by decide +kernel
theorem dX1_accepts_8 : decode cX1_accepts 8 = .ok (.invokevirtual 67, 3) := by decide +kernel
theorem dX1_accepts_11 : decode cX1_accepts 11 = .ok (.iload_n 1, 1) := by decide +kernel
theorem dX1_accepts_12 : decode cX1_accepts 12 = .ok (.if_icmp .eq 5, 3) := by decide +kernel
theorem dX1_accepts_17 : decode cX1_accepts 17 = .ok (.aload_n 0, 1) := by decide +kernel
theorem dX1_accepts_18 : decode cX1_accepts 18 = .ok (.dup, 1) := by decide +kernel
theorem dX1_accepts_19 : decode cX1_accepts 19 = .ok (.getfield 19, 3) := by decide +kernel
theorem dX1_accepts_22 : decode cX1_accepts 22 = .ok (.iconst 1, 1) := by decide +kernel
theorem dX1_accepts_23 : decode cX1_accepts 23 = .ok (.iadd, 1) := by decide +kernel
theorem dX1_accepts_24 : decode cX1_accepts 24 = .ok (.putfield 19, 3) := by decide +kernel
theorem dX1_accepts_27 : decode cX1_accepts 27 = .ok (.iconst 1, 1) := by decide +kernel
theorem dX1_accepts_28 : decode cX1_accepts 28 = .ok (.ireturn, 1) := by decide +kernel
set_option maxRecDepth 100000 in
theorem c_X1_accepts (l : Launch) (D : va_G) (cy : Nat → Nat) (n : Nat) (ad : Nat → Nat) (F : Nat → va_E) (sz : Nat) (k : Nat) (f : Nat → Int32) (z : Int32) (u : Int32 × Int32) (hk : k + 2 ≤ n) (hFk : F k = oReader ad k z u.1 u.2) (hFt : F (k + 1) = oInts cy 100 f) (g : Int32) : Met l yX1_accepts (zw yX1_accepts cX1_accepts 2 (some .boolean)) (rmL 1) (zPc D cy n ad F sz [.ref (ad k), .int g]) (va_Qi (fun r F1 => r = (if bAcc (sNext f z) g u then 1 else 0) ∧ F1 = va_up F k (oReader ad k z (sAcc (sNext f z) g u).1 (sAcc (sNext f z) g u).2)) (zB D n ad) (zA n ad sz)) 0 0 (zA n ad sz) := by
  refine zmet (by decide +kernel) (Nat.le_of_ble_eq_true rfl) (fun p e s m args below meth c ls hC hsz hZ hA hr hlocks hnm hl => ?_)
  have hC : zC p m c cX1_accepts 2 s args RX1 D cy := hC
  have hx := hC.1.1
  have hb := hC.1.2.1
  have hl : lv_has ls 2 [(0, .ref (ad k)), (1, .int g)] := hl
  refine lv_aload_n hx hb dX1_accepts_0 rfl (lv_at hl 0 rfl) ?_
  refine zget hC hZ fX1_22 (by omega) hFk rfl dX1_accepts_1 ?_
  refine lv_if_ne (tgt := 15) hx hb dX1_accepts_4 (by decide) (fun c_4 => ?_) (fun c_4 => ?_)
  · refine lv_iconst (v := 0) hx hb dX1_accepts_15 (by decide) ?_
    have hq_1 : F = va_up F k (oReader ad k z (sAcc (sNext f z) g u).1 (sAcc (sNext f z) g u).2) := zself (by rw [hFk]; simp [sAcc, bAcc, c_4])
    have hq_2 : (0 : Int32) = (if bAcc (sNext f z) g u then 1 else 0) := by simp [sAcc, bAcc, c_4]
    exact zbreti hC hZ hr hlocks rfl ⟨hq_2, hq_1⟩ dX1_accepts_16
  · refine lv_aload_n hx hb dX1_accepts_7 rfl (lv_at hl 0 rfl) ?_
    refine zgoi hZ hA (zrunV (As := []) (rest := []) (k := k) hC hZ (c_X1_next l D cy n ad F s.heap.size k f z u hk hFk hFt) mX1_next vX1_next kX1_67 (zRj_of rfl) (by omega) hFk rfl rfl hl.1 rfl (Nat.le_of_ble_eq_true rfl) dX1_accepts_8 ⟨Nat.le_refl _, Nat.le_refl _⟩) (fun r_4 F_3 hp_5 H locs hZ => ?_)
    obtain ⟨rfl, rfl⟩ := hp_5
    refine lv_iload_n hx hb dX1_accepts_11 rfl (lv_at hl 1 rfl) ?_
    refine lv_icmp_eq (tgt := 17) hx hb dX1_accepts_12 (by decide) (fun c_12 => ?_) (fun c_12 => ?_)
    · refine lv_aload_n hx hb dX1_accepts_17 rfl (lv_at hl 0 rfl) ?_
      refine lv_dup hx hb dX1_accepts_18 rfl ?_
      refine zget hC hZ fX1_19 (by omega) hFk rfl dX1_accepts_19 ?_
      refine lv_iconst (v := 1) hx hb dX1_accepts_22 (by decide) ?_
      refine lv_iadd hx hb dX1_accepts_23 ?_
      refine zput (E := oReader ad k z (u.1 + 1) u.2) hC hZ pX1_19 (by omega) hFk rfl rfl rfl (Nat.le_of_ble_eq_true rfl) dX1_accepts_24 (fun F_6 hF_7 H locs hZ => ?_)
      have h_8 := zeq hF_7
      refine lv_iconst (v := 1) hx hb dX1_accepts_27 (by decide) ?_
      have hq_9 : F_6 = va_up F k (oReader ad k z (sAcc (sNext f z) g u).1 (sAcc (sNext f z) g u).2) := by rw [hF_7]; simp [bx_uu, sAcc, bAcc, c_4, c_12]
      have hq_10 : (1 : Int32) = (if bAcc (sNext f z) g u then 1 else 0) := by simp [sAcc, bAcc, c_4, c_12]
      exact zbreti hC hZ hr hlocks rfl ⟨hq_10, hq_9⟩ dX1_accepts_28
    · refine lv_iconst (v := 0) hx hb dX1_accepts_15 (by decide) ?_
      have hq_11 : F = va_up F k (oReader ad k z (sAcc (sNext f z) g u).1 (sAcc (sNext f z) g u).2) := zself (by rw [hFk]; simp [sAcc, bAcc, c_4, c_12])
      have hq_12 : (0 : Int32) = (if bAcc (sNext f z) g u then 1 else 0) := by simp [sAcc, bAcc, c_4, c_12]
      exact zbreti hC hZ hr hlocks rfl ⟨hq_12, hq_11⟩ dX1_accepts_16

theorem mX1_need : zMd yX1_need cX1_need 2 none 1 := ⟨by decide +kernel, gt_of 311 (by decide +kernel) rfl, gt_of 51 (by decide +kernel) rfl, by decide⟩
theorem dX1_need_0 : decode cX1_need 0 = .ok (.aload_n 0, 1) := by decide +kernel
theorem dX1_need_1 : decode cX1_need 1 = .ok (.iload_n 1, 1) := by decide +kernel
theorem dX1_need_2 : decode cX1_need 2 = .ok (.invokevirtual 51, 3) := by decide +kernel
theorem kX1_51 : zLk RX1 51 yX1_accepts := Or.inl (gt_of 312 (by decide +kernel) rfl)
theorem vX1_accepts : zMi yX1_accepts := ⟨gt_of 314 (by decide +kernel) rfl, gt_of 5 (by decide +kernel) rfl⟩
theorem dX1_need_5 : decode cX1_need 5 = .ok (.ifCond .ne 8, 3) := by decide +kernel
theorem dX1_need_13 : decode cX1_need 13 = .ok (.return_, 1) := by decide +kernel
theorem dX1_need_8 : decode cX1_need 8 = .ok (.aload_n 0, 1) := by decide +kernel
theorem dX1_need_9 : decode cX1_need 9 = .ok (.iconst 1, 1) := by decide +kernel
theorem dX1_need_10 : decode cX1_need 10 = .ok (.putfield 22, 3) := by decide +kernel
set_option maxRecDepth 100000 in
theorem c_X1_need (l : Launch) (D : va_G) (cy : Nat → Nat) (n : Nat) (ad : Nat → Nat) (F : Nat → va_E) (sz : Nat) (k : Nat) (f : Nat → Int32) (z : Int32) (u : Int32 × Int32) (hk : k + 2 ≤ n) (hFk : F k = oReader ad k z u.1 u.2) (hFt : F (k + 1) = oInts cy 100 f) (g : Int32) : Met l yX1_need (zw yX1_need cX1_need 2 none) (rmL 2) (zPc D cy n ad F sz [.ref (ad k), .int g]) (va_Qv (fun F1 => F1 = va_up F k (oReader ad k z (sNeed (sNext f z) g u).1 (sNeed (sNext f z) g u).2)) (zB D n ad) (zA n ad sz)) 0 0 (zA n ad sz) := by
  refine zmet (by decide +kernel) (Nat.le_of_ble_eq_true rfl) (fun p e s m args below meth c ls hC hsz hZ hA hr hlocks hnm hl => ?_)
  have hC : zC p m c cX1_need 2 s args RX1 D cy := hC
  have hx := hC.1.1
  have hb := hC.1.2.1
  have hl : lv_has ls 2 [(0, .ref (ad k)), (1, .int g)] := hl
  refine lv_aload_n hx hb dX1_need_0 rfl (lv_at hl 0 rfl) ?_
  refine lv_iload_n hx hb dX1_need_1 rfl (lv_at hl 1 rfl) ?_
  refine zgoi hZ hA (zrunV (As := [.int g]) (rest := []) (k := k) hC hZ (c_X1_accepts l D cy n ad F s.heap.size k f z u hk hFk hFt g) mX1_accepts vX1_accepts kX1_51 (zRj_of rfl) (by omega) hFk rfl rfl hl.1 rfl (Nat.le_of_ble_eq_true rfl) dX1_need_2 ⟨Nat.le_refl _, Nat.le_refl _⟩) (fun r_2 F_1 hp_3 H locs hZ => ?_)
  obtain ⟨y_4, hy_4⟩ : ∃ y, y = (sAcc (sNext f z) g u) := ⟨_, rfl⟩
  rw [← hy_4] at hp_3
  obtain ⟨h_5, h_6⟩ := hp_3
  have h_7 := zeq h_6
  by_cases b_8 : bAcc (sNext f z) g u
  · rw [if_pos b_8] at h_5
    subst h_5
    refine lv_if_ne (tgt := 13) hx hb dX1_need_5 (by decide) (fun _ => ?_) (fun h => absurd (show (1 : Int32) = 0 from h) (by decide))
    have hq_9 : F_1 = va_up F k (oReader ad k z (sNeed (sNext f z) g u).1 (sNeed (sNext f z) g u).2) := by rw [sNeed_pos b_8, ← hy_4]; exact h_6
    exact zvret hC hZ hr hlocks hq_9 dX1_need_13
  · rw [if_neg b_8] at h_5
    subst h_5
    refine lv_if_ne (tgt := 13) hx hb dX1_need_5 (by decide) (fun h => absurd (show (0 : Int32) = 0 by decide) h) (fun _ => ?_)
    refine lv_aload_n hx hb dX1_need_8 rfl (lv_at hl 0 rfl) ?_
    refine lv_iconst (v := 1) hx hb dX1_need_9 (by decide) ?_
    refine zput (E := oReader ad k z y_4.1 1) hC hZ pX1_22 (by omega) h_7 rfl rfl rfl (Nat.le_of_ble_eq_true rfl) dX1_need_10 (fun F_10 hF_11 H locs hZ => ?_)
    have h_12 := zeq hF_11
    have hq_13 : F_10 = va_up F k (oReader ad k z (sNeed (sNext f z) g u).1 (sNeed (sNext f z) g u).2) := by rw [sNeed_neg b_8, hF_11, h_6, hy_4, sAcc_neg b_8]; simp only [bx_uu]
    exact zvret hC hZ hr hlocks hq_13 dX1_need_13

theorem mX1_digit : zMd yX1_digit cX1_digit 2 (some .int) 0 := ⟨by decide +kernel, gt_of 327 (by decide +kernel) rfl, gt_of 51 (by decide +kernel) rfl, by decide⟩
theorem dX1_digit_0 : decode cX1_digit 0 = .ok (.aload_n 0, 1) := by decide +kernel
theorem dX1_digit_1 : decode cX1_digit 1 = .ok (.getfield 22, 3) := by decide +kernel
theorem dX1_digit_4 : decode cX1_digit 4 = .ok (.ifCond .ne 10, 3) := by decide +kernel
theorem dX1_digit_14 : decode cX1_digit 14 = .ok (.aload_n 0, 1) := by decide +kernel
theorem dX1_digit_15 : decode cX1_digit 15 = .ok (.iconst 1, 1) := by decide +kernel
theorem dX1_digit_16 : decode cX1_digit 16 = .ok (.putfield 22, 3) := by decide +kernel
theorem dX1_digit_19 : decode cX1_digit 19 = .ok (.iconst 0, 1) := by decide +kernel
theorem dX1_digit_20 : decode cX1_digit 20 = .ok (.ireturn, 1) := by decide +kernel
theorem dX1_digit_7 : decode cX1_digit 7 = .ok (.aload_n 0, 1) := by decide +kernel
theorem dX1_digit_8 : decode cX1_digit 8 = .ok (.invokevirtual 70, 3) := by decide +kernel
theorem kX1_70 : zLk RX1 70 yX1_isAtDigit := Or.inl (gt_of 328 (by decide +kernel) rfl)
theorem vX1_isAtDigit : zMi yX1_isAtDigit := ⟨gt_of 330 (by decide +kernel) rfl, gt_of 9 (by decide +kernel) rfl⟩
theorem dX1_digit_11 : decode cX1_digit 11 = .ok (.ifCond .ne 10, 3) := by decide +kernel
theorem dX1_digit_21 : decode cX1_digit 21 = .ok (.aload_n 0, 1) := by decide +kernel
theorem dX1_digit_22 : decode cX1_digit 22 = .ok (.invokevirtual 67, 3) := by decide +kernel
theorem dX1_digit_25 : decode cX1_digit 25 = .ok (.bipush 48, 2) := by decide +kernel
theorem dX1_digit_27 : decode cX1_digit 27 = .ok (.isub, 1) := by decide +kernel
theorem dX1_digit_28 : decode cX1_digit 28 = .ok (.istore_n 1, 1) := by decide +kernel
theorem dX1_digit_29 : decode cX1_digit 29 = .ok (.aload_n 0, 1) := by decide +kernel
theorem dX1_digit_30 : decode cX1_digit 30 = .ok (.dup, 1) := by decide +kernel
theorem dX1_digit_31 : decode cX1_digit 31 = .ok (.getfield 19, 3) := by decide +kernel
theorem dX1_digit_34 : decode cX1_digit 34 = .ok (.iconst 1, 1) := by decide +kernel
theorem dX1_digit_35 : decode cX1_digit 35 = .ok (.iadd, 1) := by decide +kernel
theorem dX1_digit_36 : decode cX1_digit 36 = .ok (.putfield 19, 3) := by decide +kernel
theorem dX1_digit_39 : decode cX1_digit 39 = .ok (.iload_n 1, 1) := by decide +kernel
theorem dX1_digit_40 : decode cX1_digit 40 = .ok (.ireturn, 1) := by decide +kernel
set_option maxRecDepth 100000 in
theorem c_X1_digit (l : Launch) (D : va_G) (cy : Nat → Nat) (n : Nat) (ad : Nat → Nat) (F : Nat → va_E) (sz : Nat) (k : Nat) (f : Nat → Int32) (z : Int32) (u : Int32 × Int32) (hk : k + 2 ≤ n) (hFk : F k = oReader ad k z u.1 u.2) (hFt : F (k + 1) = oInts cy 100 f) : Met l yX1_digit (zw yX1_digit cX1_digit 2 (some .int)) (rmL 2) (zPc D cy n ad F sz [.ref (ad k)]) (va_Qi (fun r F1 => r = (sDig (sNext f z) u).1 ∧ F1 = va_up F k (oReader ad k z (sDig (sNext f z) u).2.1 (sDig (sNext f z) u).2.2)) (zB D n ad) (zA n ad sz)) 0 0 (zA n ad sz) := by
  refine zmet (by decide +kernel) (Nat.le_of_ble_eq_true rfl) (fun p e s m args below meth c ls hC hsz hZ hA hr hlocks hnm hl => ?_)
  have hC : zC p m c cX1_digit 2 s args RX1 D cy := hC
  have hx := hC.1.1
  have hb := hC.1.2.1
  have hl : lv_has ls 2 [(0, .ref (ad k))] := hl
  refine lv_aload_n hx hb dX1_digit_0 rfl (lv_at hl 0 rfl) ?_
  refine zget hC hZ fX1_22 (by omega) hFk rfl dX1_digit_1 ?_
  refine lv_if_ne (tgt := 14) hx hb dX1_digit_4 (by decide) (fun c_4 => ?_) (fun c_4 => ?_)
  · refine lv_aload_n hx hb dX1_digit_14 rfl (lv_at hl 0 rfl) ?_
    refine lv_iconst (v := 1) hx hb dX1_digit_15 (by decide) ?_
    refine zput (E := oReader ad k z u.1 1) hC hZ pX1_22 (by omega) hFk rfl rfl rfl (Nat.le_of_ble_eq_true rfl) dX1_digit_16 (fun F_1 hF_2 H locs hZ => ?_)
    have h_3 := zeq hF_2
    refine lv_iconst (v := 0) hx hb dX1_digit_19 (by decide) ?_
    have hq_5 : sDig (sNext f z) u = (0, u.1, 1) := sDig_neg (q := u) (fun h => c_4 h.1)
    have hq_4 : F_1 = va_up F k (oReader ad k z (sDig (sNext f z) u).2.1 (sDig (sNext f z) u).2.2) := by rw [hq_5]; exact hF_2
    exact zireti hC hZ hr hlocks ⟨by rw [hq_5], hq_4⟩ dX1_digit_20
  · refine lv_aload_n hx hb dX1_digit_7 rfl (lv_at hl 0 rfl) ?_
    refine zgoi hZ hA (zrunV (As := []) (rest := []) (k := k) hC hZ (c_X1_isAtDigit l D cy n ad F s.heap.size k f z u hk hFk hFt) mX1_isAtDigit vX1_isAtDigit kX1_70 (zRj_of rfl) (by omega) hFk rfl rfl hl.1 rfl (Nat.le_of_ble_eq_true rfl) dX1_digit_8 ⟨Nat.le_refl _, Nat.le_refl _⟩) (fun r_7 F_6 hp_8 H locs hZ => ?_)
    obtain ⟨hp_8, rfl⟩ := hp_8
    by_cases b_9 : bDig (sNext f z) u.1
    · rw [if_pos b_9] at hp_8
      subst hp_8
      refine lv_if_ne (tgt := 21) hx hb dX1_digit_11 (by decide) (fun _ => ?_) (fun h => absurd (show (1 : Int32) = 0 from h) (by decide))
      refine lv_aload_n hx hb dX1_digit_21 rfl (lv_at hl 0 rfl) ?_
      refine zgoi hZ hA (zrunV (As := []) (rest := []) (k := k) hC hZ (c_X1_next l D cy n ad F H.size k f z u hk hFk hFt) mX1_next vX1_next kX1_67 (zRj_of rfl) (by omega) hFk rfl rfl hl.1 rfl (Nat.le_of_ble_eq_true rfl) dX1_digit_22 ⟨Nat.le_refl _, Nat.le_refl _⟩) (fun r_11 F_10 hp_12 H locs hZ => ?_)
      obtain ⟨rfl, rfl⟩ := hp_12
      refine lv_bipush (v := 48) hx hb dX1_digit_25 (by decide) ?_
      refine lv_isub hx hb dX1_digit_27 ?_
      refine lv_istore_n (lv' := [(1, .int ((sNext f z u.1) - 48)), (0, .ref (ad k))]) hx hb dX1_digit_28 rfl hl (by decide) rfl (fun ls hl => ?_)
      refine lv_aload_n hx hb dX1_digit_29 rfl (lv_at hl 1 rfl) ?_
      refine lv_dup hx hb dX1_digit_30 rfl ?_
      refine zget hC hZ fX1_19 (by omega) hFk rfl dX1_digit_31 ?_
      refine lv_iconst (v := 1) hx hb dX1_digit_34 (by decide) ?_
      refine lv_iadd hx hb dX1_digit_35 ?_
      refine zput (E := oReader ad k z (u.1 + 1) u.2) hC hZ pX1_19 (by omega) hFk rfl rfl rfl (Nat.le_of_ble_eq_true rfl) dX1_digit_36 (fun F_13 hF_14 H locs hZ => ?_)
      have h_15 := zeq hF_14
      refine lv_iload_n hx hb dX1_digit_39 rfl (lv_at hl 0 rfl) ?_
      have hq_17 : sDig (sNext f z) u = (((sNext f z u.1) - 48), (u.1 + 1), u.2) := sDig_pos c_4 b_9
      have hq_16 : F_13 = va_up F k (oReader ad k z (sDig (sNext f z) u).2.1 (sDig (sNext f z) u).2.2) := by rw [hq_17]; exact hF_14
      exact zireti hC hZ hr hlocks ⟨by rw [hq_17], hq_16⟩ dX1_digit_40
    · rw [if_neg b_9] at hp_8
      subst hp_8
      refine lv_if_ne (tgt := 21) hx hb dX1_digit_11 (by decide) (fun h => absurd (show (0 : Int32) = 0 by decide) h) (fun _ => ?_)
      refine lv_aload_n hx hb dX1_digit_14 rfl (lv_at hl 0 rfl) ?_
      refine lv_iconst (v := 1) hx hb dX1_digit_15 (by decide) ?_
      refine zput (E := oReader ad k z u.1 1) hC hZ pX1_22 (by omega) hFk rfl rfl rfl (Nat.le_of_ble_eq_true rfl) dX1_digit_16 (fun F_18 hF_19 H locs hZ => ?_)
      have h_20 := zeq hF_19
      refine lv_iconst (v := 0) hx hb dX1_digit_19 (by decide) ?_
      have hq_22 : sDig (sNext f z) u = (0, u.1, 1) := sDig_neg (q := u) (fun h => b_9 h.2)
      have hq_21 : F_18 = va_up F k (oReader ad k z (sDig (sNext f z) u).2.1 (sDig (sNext f z) u).2.2) := by rw [hq_22]; exact hF_19
      exact zireti hC hZ hr hlocks ⟨by rw [hq_22], hq_21⟩ dX1_digit_20

theorem mX1_number : zMd yX1_number cX1_number 3 (some .int) 0 := ⟨by decide +kernel, gt_of 323 (by decide +kernel) rfl, gt_of 51 (by decide +kernel) rfl, by decide⟩
theorem dX1_number_0 : decode cX1_number 0 = .ok (.aload_n 0, 1) := by decide +kernel
theorem dX1_number_1 : decode cX1_number 1 = .ok (.invokevirtual 58, 3) := by decide +kernel
theorem kX1_58 : zLk RX1 58 yX1_digit := Or.inl (gt_of 324 (by decide +kernel) rfl)
theorem vX1_digit : zMi yX1_digit := ⟨gt_of 326 (by decide +kernel) rfl, gt_of 8 (by decide +kernel) rfl⟩
theorem dX1_number_4 : decode cX1_number 4 = .ok (.istore_n 1, 1) := by decide +kernel
theorem dX1_number_5 : decode cX1_number 5 = .ok (.iconst 1, 1) := by decide +kernel
theorem dX1_number_6 : decode cX1_number 6 = .ok (.istore_n 2, 1) := by decide +kernel
theorem dX1_number_7 : decode cX1_number 7 = .ok (.iload_n 2, 1) := by decide +kernel
theorem dX1_number_8 : decode cX1_number 8 = .ok (.iconst 3, 1) := by decide +kernel
theorem dX1_number_9 : decode cX1_number 9 = .ok (.if_icmp .ge 37, 3) := by decide +kernel
theorem dX1_number_12 : decode cX1_number 12 = .ok (.aload_n 0, 1) := by decide +kernel
theorem dX1_number_13 : decode cX1_number 13 = .ok (.getfield 22, 3) := by decide +kernel
theorem dX1_number_16 : decode cX1_number 16 = .ok (.ifCond .ne 30, 3) := by decide +kernel
theorem dX1_number_46 : decode cX1_number 46 = .ok (.iload_n 1, 1) := by decide +kernel
theorem dX1_number_47 : decode cX1_number 47 = .ok (.ireturn, 1) := by decide +kernel
theorem dX1_number_19 : decode cX1_number 19 = .ok (.iload_n 1, 1) := by decide +kernel
theorem dX1_number_20 : decode cX1_number 20 = .ok (.ifCond .le 26, 3) := by decide +kernel
theorem dX1_number_23 : decode cX1_number 23 = .ok (.aload_n 0, 1) := by decide +kernel
theorem dX1_number_24 : decode cX1_number 24 = .ok (.invokevirtual 70, 3) := by decide +kernel
theorem dX1_number_27 : decode cX1_number 27 = .ok (.ifCond .eq 19, 3) := by decide +kernel
theorem dX1_number_30 : decode cX1_number 30 = .ok (.bipush 10, 2) := by decide +kernel
theorem dX1_number_32 : decode cX1_number 32 = .ok (.iload_n 1, 1) := by decide +kernel
theorem dX1_number_33 : decode cX1_number 33 = .ok (.imul, 1) := by decide +kernel
theorem dX1_number_34 : decode cX1_number 34 = .ok (.aload_n 0, 1) := by decide +kernel
theorem dX1_number_35 : decode cX1_number 35 = .ok (.invokevirtual 58, 3) := by decide +kernel
theorem dX1_number_38 : decode cX1_number 38 = .ok (.iadd, 1) := by decide +kernel
theorem dX1_number_39 : decode cX1_number 39 = .ok (.istore_n 1, 1) := by decide +kernel
theorem dX1_number_40 : decode cX1_number 40 = .ok (.iinc 2 1, 3) := by decide +kernel
theorem dX1_number_43 : decode cX1_number 43 = .ok (.goto (-36), 3) := by decide +kernel
set_option maxRecDepth 100000 in
theorem c_X1_number (l : Launch) (D : va_G) (cy : Nat → Nat) (n : Nat) (ad : Nat → Nat) (F : Nat → va_E) (sz : Nat) (k : Nat) (f : Nat → Int32) (z : Int32) (u : Int32 × Int32) (hk : k + 2 ≤ n) (hFk : F k = oReader ad k z u.1 u.2) (hFt : F (k + 1) = oInts cy 100 f) : Met l yX1_number (zw yX1_number cX1_number 3 (some .int)) (rmL 3) (zPc D cy n ad F sz [.ref (ad k)]) (va_Qi (fun r F1 => r = (sNum (sNext f z) u).1 ∧ F1 = va_up F k (oReader ad k z (sNum (sNext f z) u).2.1 (sNum (sNext f z) u).2.2)) (zB D n ad) (zA n ad sz)) 0 0 (zA n ad sz) := by
  refine zmet (by decide +kernel) (Nat.le_of_ble_eq_true rfl) (fun p e s m args below meth c ls hC hsz hZ hA hr hlocks hnm hl => ?_)
  have hC : zC p m c cX1_number 3 s args RX1 D cy := hC
  have hx := hC.1.1
  have hb := hC.1.2.1
  have hl : lv_has ls 3 [(0, .ref (ad k))] := hl
  refine lv_aload_n hx hb dX1_number_0 rfl (lv_at hl 0 rfl) ?_
  refine zgoi hZ hA (zrunV (As := []) (rest := []) (k := k) hC hZ (c_X1_digit l D cy n ad F s.heap.size k f z u hk hFk hFt) mX1_digit vX1_digit kX1_58 (zRj_of rfl) (by omega) hFk rfl rfl hl.1 rfl (Nat.le_of_ble_eq_true rfl) dX1_number_1 ⟨Nat.le_refl _, Nat.le_refl _⟩) (fun r_2 F_1 hp_3 H locs hZ => ?_)
  obtain ⟨y_4, hy_4⟩ : ∃ y, y = (sDig (sNext f z) u) := ⟨_, rfl⟩
  rw [← hy_4] at hp_3
  obtain ⟨rfl, h_5⟩ := hp_3
  have h_6 := zeq h_5
  refine lv_istore_n (lv' := [(1, .int y_4.1), (0, .ref (ad k))]) hx hb dX1_number_4 rfl hl (by decide) rfl (fun ls hl => ?_)
  refine lv_iconst (v := 1) hx hb dX1_number_5 (by decide) ?_
  refine lv_istore_n (lv' := [(2, .int 1), (1, .int y_4.1), (0, .ref (ad k))]) hx hb dX1_number_6 rfl hl (by decide) rfl (fun ls hl => ?_)
  refine lv_iload_n hx hb dX1_number_7 rfl (lv_at hl 0 rfl) ?_
  refine lv_iconst (v := 3) hx hb dX1_number_8 (by decide) ?_
  refine lv_icmp_ge (tgt := 46) hx hb dX1_number_9 (by decide) (fun h => absurd (show (3 : Int32) ≤ 1 from h) (by decide)) (fun _ => ?_)
  refine lv_aload_n hx hb dX1_number_12 rfl (lv_at hl 2 rfl) ?_
  refine zget hC hZ fX1_22 (by omega) h_6 rfl dX1_number_13 ?_
  refine lv_if_ne (tgt := 46) hx hb dX1_number_16 (by decide) (fun c_16 => ?_) (fun c_16 => ?_)
  · refine lv_iload_n hx hb dX1_number_46 rfl (lv_at hl 1 rfl) ?_
    have e0 : sMore (sNext f z) y_4 = y_4 := sMore_neg (fun h => c_16 h.1)
    have e1 : sMore (sNext f z) y_4 = y_4 := sMore_neg (fun h => c_16 h.1)
    have hq_7 : sNum (sNext f z) u = (y_4.1, y_4.2.1, y_4.2.2) := by unfold sNum; rw [← hy_4, e0, e1]
    have hq_8 : F_1 = va_up F k (oReader ad k z (sNum (sNext f z) u).2.1 (sNum (sNext f z) u).2.2) := by rw [hq_7, h_5]
    exact zireti hC hZ hr hlocks ⟨by rw [hq_7], hq_8⟩ dX1_number_47
  · refine lv_iload_n hx hb dX1_number_19 rfl (lv_at hl 1 rfl) ?_
    refine lv_if_le (tgt := 46) hx hb dX1_number_20 (by decide) (fun c_20 => ?_) (fun c_20 => ?_)
    · refine lv_iload_n hx hb dX1_number_46 rfl (lv_at hl 1 rfl) ?_
      have e0 : sMore (sNext f z) y_4 = y_4 := sMore_neg (fun h => absurd c_20 (Int32.not_le.mpr h.2.1))
      have e1 : sMore (sNext f z) y_4 = y_4 := sMore_neg (fun h => absurd c_20 (Int32.not_le.mpr h.2.1))
      have hq_9 : sNum (sNext f z) u = (y_4.1, y_4.2.1, y_4.2.2) := by unfold sNum; rw [← hy_4, e0, e1]
      have hq_10 : F_1 = va_up F k (oReader ad k z (sNum (sNext f z) u).2.1 (sNum (sNext f z) u).2.2) := by rw [hq_9, h_5]
      exact zireti hC hZ hr hlocks ⟨by rw [hq_9], hq_10⟩ dX1_number_47
    · refine lv_aload_n hx hb dX1_number_23 rfl (lv_at hl 2 rfl) ?_
      refine zgoi hZ hA (zrunV (As := []) (rest := []) (k := k) hC hZ (c_X1_isAtDigit l D cy n ad F_1 H.size k f z y_4.2 hk h_6 (zne h_5 (by omega) hFt)) mX1_isAtDigit vX1_isAtDigit kX1_70 (zRj_of rfl) (by omega) h_6 rfl rfl hl.1 rfl (Nat.le_of_ble_eq_true rfl) dX1_number_24 ⟨Nat.le_refl _, Nat.le_refl _⟩) (fun r_12 F_11 hp_13 H locs hZ => ?_)
      obtain ⟨hp_13, rfl⟩ := hp_13
      by_cases b_14 : bDig (sNext f z) y_4.2.1
      · rw [if_pos b_14] at hp_13
        subst hp_13
        refine lv_if_eq (tgt := 46) hx hb dX1_number_27 (by decide) (fun h => absurd (show (1 : Int32) = 0 from h) (by decide)) (fun _ => ?_)
        refine lv_bipush (v := 10) hx hb dX1_number_30 (by decide) ?_
        refine lv_iload_n hx hb dX1_number_32 rfl (lv_at hl 1 rfl) ?_
        refine lv_imul hx hb dX1_number_33 ?_
        refine lv_aload_n hx hb dX1_number_34 rfl (lv_at hl 2 rfl) ?_
        refine zgoi hZ hA (zrunV (As := []) (rest := [.int (10 * y_4.1)]) (k := k) hC hZ (c_X1_digit l D cy n ad F_1 H.size k f z y_4.2 hk h_6 (zne h_5 (by omega) hFt)) mX1_digit vX1_digit kX1_58 (zRj_of rfl) (by omega) h_6 rfl rfl hl.1 rfl (Nat.le_of_ble_eq_true rfl) dX1_number_35 ⟨Nat.le_refl _, Nat.le_refl _⟩) (fun r_16 F_15 hp_17 H locs hZ => ?_)
        obtain ⟨y_18, hy_18⟩ : ∃ y, y = (sDig (sNext f z) y_4.2) := ⟨_, rfl⟩
        rw [← hy_18] at hp_17
        obtain ⟨rfl, h_19⟩ := hp_17
        have h_20 := zeq h_19
        refine lv_iadd hx hb dX1_number_38 ?_
        refine lv_istore_n (lv' := [(1, .int ((10 * y_4.1) + y_18.1)), (2, .int 1), (0, .ref (ad k))]) hx hb dX1_number_39 rfl hl (by decide) rfl (fun ls hl => ?_)
        refine lv_iinc (v := 2) (lv' := [(2, .int 2), (1, .int ((10 * y_4.1) + y_18.1)), (0, .ref (ad k))]) hx hb dX1_number_40 hl (k := 1) rfl (by decide) (by decide) rfl (fun ls hl => ?_)
        refine lv_goto (tgt := 7) hx hb dX1_number_43 (by decide) ?_
        refine lv_iload_n hx hb dX1_number_7 rfl (lv_at hl 0 rfl) ?_
        refine lv_iconst (v := 3) hx hb dX1_number_8 (by decide) ?_
        refine lv_icmp_ge (tgt := 46) hx hb dX1_number_9 (by decide) (fun h => absurd (show (3 : Int32) ≤ 2 from h) (by decide)) (fun _ => ?_)
        refine lv_aload_n hx hb dX1_number_12 rfl (lv_at hl 2 rfl) ?_
        refine zget hC hZ fX1_22 (by omega) h_20 rfl dX1_number_13 ?_
        refine lv_if_ne (tgt := 46) hx hb dX1_number_16 (by decide) (fun c_16_21 => ?_) (fun c_16_21 => ?_)
        · refine lv_iload_n hx hb dX1_number_46 rfl (lv_at hl 1 rfl) ?_
          have e0 : sMore (sNext f z) y_4 = (10 * y_4.1 + y_18.1, y_18.2) := (sMore_pos (u := y_4) c_16 (Int32.not_le.mp c_20) b_14).trans (by rw [← hy_18])
          have e1 : sMore (sNext f z) (10 * y_4.1 + y_18.1, y_18.2) = (10 * y_4.1 + y_18.1, y_18.2) := sMore_neg (fun h => c_16_21 h.1)
          have hq_22 : sNum (sNext f z) u = (((10 * y_4.1) + y_18.1), y_18.2.1, y_18.2.2) := by unfold sNum; rw [← hy_4, e0, e1]
          have hq_23 : F_15 = va_up F k (oReader ad k z (sNum (sNext f z) u).2.1 (sNum (sNext f z) u).2.2) := by rw [hq_22, h_19, h_5]; simp only [bx_uu]
          exact zireti hC hZ hr hlocks ⟨by rw [hq_22], hq_23⟩ dX1_number_47
        · refine lv_iload_n hx hb dX1_number_19 rfl (lv_at hl 1 rfl) ?_
          refine lv_if_le (tgt := 46) hx hb dX1_number_20 (by decide) (fun c_20_24 => ?_) (fun c_20_24 => ?_)
          · refine lv_iload_n hx hb dX1_number_46 rfl (lv_at hl 1 rfl) ?_
            have e0 : sMore (sNext f z) y_4 = (10 * y_4.1 + y_18.1, y_18.2) := (sMore_pos (u := y_4) c_16 (Int32.not_le.mp c_20) b_14).trans (by rw [← hy_18])
            have e1 : sMore (sNext f z) (10 * y_4.1 + y_18.1, y_18.2) = (10 * y_4.1 + y_18.1, y_18.2) := sMore_neg (fun h => absurd c_20_24 (Int32.not_le.mpr h.2.1))
            have hq_25 : sNum (sNext f z) u = (((10 * y_4.1) + y_18.1), y_18.2.1, y_18.2.2) := by unfold sNum; rw [← hy_4, e0, e1]
            have hq_26 : F_15 = va_up F k (oReader ad k z (sNum (sNext f z) u).2.1 (sNum (sNext f z) u).2.2) := by rw [hq_25, h_19, h_5]; simp only [bx_uu]
            exact zireti hC hZ hr hlocks ⟨by rw [hq_25], hq_26⟩ dX1_number_47
          · refine lv_aload_n hx hb dX1_number_23 rfl (lv_at hl 2 rfl) ?_
            refine zgoi hZ hA (zrunV (As := []) (rest := []) (k := k) hC hZ (c_X1_isAtDigit l D cy n ad F_15 H.size k f z y_18.2 hk h_20 (zne h_19 (by omega) (zne h_5 (by omega) hFt))) mX1_isAtDigit vX1_isAtDigit kX1_70 (zRj_of rfl) (by omega) h_20 rfl rfl hl.1 rfl (Nat.le_of_ble_eq_true rfl) dX1_number_24 ⟨Nat.le_refl _, Nat.le_refl _⟩) (fun r_28 F_27 hp_29 H locs hZ => ?_)
            obtain ⟨hp_29, rfl⟩ := hp_29
            by_cases b_30 : bDig (sNext f z) y_18.2.1
            · rw [if_pos b_30] at hp_29
              subst hp_29
              refine lv_if_eq (tgt := 46) hx hb dX1_number_27 (by decide) (fun h => absurd (show (1 : Int32) = 0 from h) (by decide)) (fun _ => ?_)
              refine lv_bipush (v := 10) hx hb dX1_number_30 (by decide) ?_
              refine lv_iload_n hx hb dX1_number_32 rfl (lv_at hl 1 rfl) ?_
              refine lv_imul hx hb dX1_number_33 ?_
              refine lv_aload_n hx hb dX1_number_34 rfl (lv_at hl 2 rfl) ?_
              refine zgoi hZ hA (zrunV (As := []) (rest := [.int (10 * ((10 * y_4.1) + y_18.1))]) (k := k) hC hZ (c_X1_digit l D cy n ad F_15 H.size k f z y_18.2 hk h_20 (zne h_19 (by omega) (zne h_5 (by omega) hFt))) mX1_digit vX1_digit kX1_58 (zRj_of rfl) (by omega) h_20 rfl rfl hl.1 rfl (Nat.le_of_ble_eq_true rfl) dX1_number_35 ⟨Nat.le_refl _, Nat.le_refl _⟩) (fun r_32 F_31 hp_33 H locs hZ => ?_)
              obtain ⟨y_34, hy_34⟩ : ∃ y, y = (sDig (sNext f z) y_18.2) := ⟨_, rfl⟩
              rw [← hy_34] at hp_33
              obtain ⟨rfl, h_35⟩ := hp_33
              have h_36 := zeq h_35
              refine lv_iadd hx hb dX1_number_38 ?_
              refine lv_istore_n (lv' := [(1, .int ((10 * ((10 * y_4.1) + y_18.1)) + y_34.1)), (2, .int 2), (0, .ref (ad k))]) hx hb dX1_number_39 rfl hl (by decide) rfl (fun ls hl => ?_)
              refine lv_iinc (v := 3) (lv' := [(2, .int 3), (1, .int ((10 * ((10 * y_4.1) + y_18.1)) + y_34.1)), (0, .ref (ad k))]) hx hb dX1_number_40 hl (k := 1) rfl (by decide) (by decide) rfl (fun ls hl => ?_)
              refine lv_goto (tgt := 7) hx hb dX1_number_43 (by decide) ?_
              refine lv_iload_n hx hb dX1_number_7 rfl (lv_at hl 0 rfl) ?_
              refine lv_iconst (v := 3) hx hb dX1_number_8 (by decide) ?_
              refine lv_icmp_ge (tgt := 46) hx hb dX1_number_9 (by decide) (fun _ => ?_) (fun h => absurd (show (3 : Int32) ≤ 3 by decide) h)
              refine lv_iload_n hx hb dX1_number_46 rfl (lv_at hl 1 rfl) ?_
              have e0 : sMore (sNext f z) y_4 = (10 * y_4.1 + y_18.1, y_18.2) := (sMore_pos (u := y_4) c_16 (Int32.not_le.mp c_20) b_14).trans (by rw [← hy_18])
              have e1 : sMore (sNext f z) (10 * y_4.1 + y_18.1, y_18.2) = (10 * (10 * y_4.1 + y_18.1) + y_34.1, y_34.2) := (sMore_pos (u := (10 * y_4.1 + y_18.1, y_18.2)) c_16_21 (Int32.not_le.mp c_20_24) b_30).trans (by rw [← hy_34])
              have hq_37 : sNum (sNext f z) u = (((10 * ((10 * y_4.1) + y_18.1)) + y_34.1), y_34.2.1, y_34.2.2) := by unfold sNum; rw [← hy_4, e0, e1]
              have hq_38 : F_31 = va_up F k (oReader ad k z (sNum (sNext f z) u).2.1 (sNum (sNext f z) u).2.2) := by rw [hq_37, h_35, h_19, h_5]; simp only [bx_uu]
              exact zireti hC hZ hr hlocks ⟨by rw [hq_37], hq_38⟩ dX1_number_47
            · rw [if_neg b_30] at hp_29
              subst hp_29
              refine lv_if_eq (tgt := 46) hx hb dX1_number_27 (by decide) (fun _ => ?_) (fun h => absurd (show (0 : Int32) = 0 by decide) h)
              refine lv_iload_n hx hb dX1_number_46 rfl (lv_at hl 1 rfl) ?_
              have e0 : sMore (sNext f z) y_4 = (10 * y_4.1 + y_18.1, y_18.2) := (sMore_pos (u := y_4) c_16 (Int32.not_le.mp c_20) b_14).trans (by rw [← hy_18])
              have e1 : sMore (sNext f z) (10 * y_4.1 + y_18.1, y_18.2) = (10 * y_4.1 + y_18.1, y_18.2) := sMore_neg (fun h => b_30 h.2.2)
              have hq_39 : sNum (sNext f z) u = (((10 * y_4.1) + y_18.1), y_18.2.1, y_18.2.2) := by unfold sNum; rw [← hy_4, e0, e1]
              have hq_40 : F_15 = va_up F k (oReader ad k z (sNum (sNext f z) u).2.1 (sNum (sNext f z) u).2.2) := by rw [hq_39, h_19, h_5]; simp only [bx_uu]
              exact zireti hC hZ hr hlocks ⟨by rw [hq_39], hq_40⟩ dX1_number_47
      · rw [if_neg b_14] at hp_13
        subst hp_13
        refine lv_if_eq (tgt := 46) hx hb dX1_number_27 (by decide) (fun _ => ?_) (fun h => absurd (show (0 : Int32) = 0 by decide) h)
        refine lv_iload_n hx hb dX1_number_46 rfl (lv_at hl 1 rfl) ?_
        have e0 : sMore (sNext f z) y_4 = y_4 := sMore_neg (fun h => b_14 h.2.2)
        have e1 : sMore (sNext f z) y_4 = y_4 := sMore_neg (fun h => b_14 h.2.2)
        have hq_41 : sNum (sNext f z) u = (y_4.1, y_4.2.1, y_4.2.2) := by unfold sNum; rw [← hy_4, e0, e1]
        have hq_42 : F_1 = va_up F k (oReader ad k z (sNum (sNext f z) u).2.1 (sNum (sNext f z) u).2.2) := by rw [hq_41, h_5]
        exact zireti hC hZ hr hlocks ⟨by rw [hq_41], hq_42⟩ dX1_number_47

theorem mX1_readStatement : zMd yX1_readStatement cX1_readStatement 3 none 2 := ⟨by decide +kernel, gt_of 307 (by decide +kernel) rfl, gt_of 51 (by decide +kernel) rfl, by decide⟩
theorem dX1_readStatement_0 : decode cX1_readStatement 0 = .ok (.aload_n 0, 1) := by decide +kernel
theorem dX1_readStatement_1 : decode cX1_readStatement 1 = .ok (.bipush 114, 2) := by decide +kernel
theorem dX1_readStatement_3 : decode cX1_readStatement 3 = .ok (.invokevirtual 38, 3) := by decide +kernel
theorem kX1_38 : zLk RX1 38 yX1_need := Or.inl (gt_of 308 (by decide +kernel) rfl)
theorem vX1_need : zMi yX1_need := ⟨gt_of 310 (by decide +kernel) rfl, gt_of 4 (by decide +kernel) rfl⟩
theorem dX1_readStatement_6 : decode cX1_readStatement 6 = .ok (.aload_n 2, 1) := by decide +kernel
theorem dX1_readStatement_7 : decode cX1_readStatement 7 = .ok (.aload_n 0, 1) := by decide +kernel
theorem dX1_readStatement_8 : decode cX1_readStatement 8 = .ok (.invokevirtual 42, 3) := by decide +kernel
theorem kX1_42 : zLk RX1 42 yX1_number := Or.inl (gt_of 320 (by decide +kernel) rfl)
theorem vX1_number : zMi yX1_number := ⟨gt_of 322 (by decide +kernel) rfl, gt_of 7 (by decide +kernel) rfl⟩
theorem dX1_readStatement_11 : decode cX1_readStatement 11 = .ok (.putfield 46, 3) := by decide +kernel
theorem pX1_46 : zFldP RX1 46 3 0 false .int := ⟨RX3, TX3, 4, tyX3, rfl, inX3, by decide, rfl, Or.inr ⟨rfl, "ChainLeap", List.mem_of_getElem? (i := 83) (by decide +kernel)⟩, tyX3_ok, nmX3, rfl, by decide +kernel, fun h => by cases h⟩
theorem dX1_readStatement_35 : decode cX1_readStatement 35 = .ok (.putfield 55, 3) := by decide +kernel
theorem pX1_55 : zFldP RX1 55 3 1 false .int := ⟨RX3, TX3, 4, tyX3, rfl, inX3, by decide, rfl, Or.inr ⟨rfl, "ChainLeap", List.mem_of_getElem? (i := 87) (by decide +kernel)⟩, tyX3_ok, nmX3, rfl, by decide +kernel, fun h => by cases h⟩
theorem dX1_readStatement_59 : decode cX1_readStatement 59 = .ok (.putfield 61, 3) := by decide +kernel
theorem pX1_61 : zFldP RX1 61 3 2 false .int := ⟨RX3, TX3, 4, tyX3, rfl, inX3, by decide, rfl, Or.inr ⟨rfl, "ChainLeap", List.mem_of_getElem? (i := 90) (by decide +kernel)⟩, tyX3_ok, nmX3, rfl, by decide +kernel, fun h => by cases h⟩
theorem dX1_readStatement_83 : decode cX1_readStatement 83 = .ok (.putfield 64, 3) := by decide +kernel
theorem pX1_64 : zFldP RX1 64 3 3 false .int := ⟨RX3, TX3, 4, tyX3, rfl, inX3, by decide, rfl, Or.inr ⟨rfl, "ChainLeap", List.mem_of_getElem? (i := 94) (by decide +kernel)⟩, tyX3_ok, nmX3, rfl, by decide +kernel, fun h => by cases h⟩
theorem dX1_readStatement_86 : decode cX1_readStatement 86 = .ok (.aload_n 0, 1) := by decide +kernel
theorem dX1_readStatement_87 : decode cX1_readStatement 87 = .ok (.bipush 59, 2) := by decide +kernel
theorem dX1_readStatement_89 : decode cX1_readStatement 89 = .ok (.invokevirtual 38, 3) := by decide +kernel
theorem dX1_readStatement_92 : decode cX1_readStatement 92 = .ok (.return_, 1) := by decide +kernel
theorem dX1_readStatement_62 : decode cX1_readStatement 62 = .ok (.aload_n 2, 1) := by decide +kernel
theorem dX1_readStatement_63 : decode cX1_readStatement 63 = .ok (.aload_n 0, 1) := by decide +kernel
theorem dX1_readStatement_64 : decode cX1_readStatement 64 = .ok (.bipush 100, 2) := by decide +kernel
theorem dX1_readStatement_66 : decode cX1_readStatement 66 = .ok (.invokevirtual 51, 3) := by decide +kernel
theorem dX1_readStatement_69 : decode cX1_readStatement 69 = .ok (.ifCond .eq 10, 3) := by decide +kernel
theorem dX1_readStatement_72 : decode cX1_readStatement 72 = .ok (.aload_n 0, 1) := by decide +kernel
theorem dX1_readStatement_73 : decode cX1_readStatement 73 = .ok (.invokevirtual 42, 3) := by decide +kernel
theorem dX1_readStatement_76 : decode cX1_readStatement 76 = .ok (.goto 7, 3) := by decide +kernel
theorem dX1_readStatement_79 : decode cX1_readStatement 79 = .ok (.aload_n 1, 1) := by decide +kernel
theorem dX1_readStatement_80 : decode cX1_readStatement 80 = .ok (.getfield 64, 3) := by decide +kernel
theorem fX1_64 : zFld RX1 64 3 3 := ⟨RX3, TX3, 4, rfl, inX3, by decide, rfl, Or.inr ⟨"ChainLeap", List.mem_of_getElem? (i := 94) (by decide +kernel)⟩⟩
theorem dX1_readStatement_38 : decode cX1_readStatement 38 = .ok (.aload_n 2, 1) := by decide +kernel
theorem dX1_readStatement_39 : decode cX1_readStatement 39 = .ok (.aload_n 0, 1) := by decide +kernel
theorem dX1_readStatement_40 : decode cX1_readStatement 40 = .ok (.bipush 108, 2) := by decide +kernel
theorem dX1_readStatement_42 : decode cX1_readStatement 42 = .ok (.invokevirtual 51, 3) := by decide +kernel
theorem dX1_readStatement_45 : decode cX1_readStatement 45 = .ok (.ifCond .eq 10, 3) := by decide +kernel
theorem dX1_readStatement_48 : decode cX1_readStatement 48 = .ok (.aload_n 0, 1) := by decide +kernel
theorem dX1_readStatement_49 : decode cX1_readStatement 49 = .ok (.invokevirtual 58, 3) := by decide +kernel
theorem dX1_readStatement_52 : decode cX1_readStatement 52 = .ok (.goto 7, 3) := by decide +kernel
theorem dX1_readStatement_55 : decode cX1_readStatement 55 = .ok (.aload_n 1, 1) := by decide +kernel
theorem dX1_readStatement_56 : decode cX1_readStatement 56 = .ok (.getfield 61, 3) := by decide +kernel
theorem fX1_61 : zFld RX1 61 3 2 := ⟨RX3, TX3, 4, rfl, inX3, by decide, rfl, Or.inr ⟨"ChainLeap", List.mem_of_getElem? (i := 90) (by decide +kernel)⟩⟩
theorem dX1_readStatement_14 : decode cX1_readStatement 14 = .ok (.aload_n 2, 1) := by decide +kernel
theorem dX1_readStatement_15 : decode cX1_readStatement 15 = .ok (.aload_n 0, 1) := by decide +kernel
theorem dX1_readStatement_16 : decode cX1_readStatement 16 = .ok (.bipush 98, 2) := by decide +kernel
theorem dX1_readStatement_18 : decode cX1_readStatement 18 = .ok (.invokevirtual 51, 3) := by decide +kernel
theorem dX1_readStatement_21 : decode cX1_readStatement 21 = .ok (.ifCond .eq 10, 3) := by decide +kernel
theorem dX1_readStatement_24 : decode cX1_readStatement 24 = .ok (.aload_n 0, 1) := by decide +kernel
theorem dX1_readStatement_25 : decode cX1_readStatement 25 = .ok (.invokevirtual 42, 3) := by decide +kernel
theorem dX1_readStatement_28 : decode cX1_readStatement 28 = .ok (.goto 7, 3) := by decide +kernel
theorem dX1_readStatement_31 : decode cX1_readStatement 31 = .ok (.aload_n 1, 1) := by decide +kernel
theorem dX1_readStatement_32 : decode cX1_readStatement 32 = .ok (.getfield 55, 3) := by decide +kernel
theorem fX1_55 : zFld RX1 55 3 1 := ⟨RX3, TX3, 4, rfl, inX3, by decide, rfl, Or.inr ⟨"ChainLeap", List.mem_of_getElem? (i := 87) (by decide +kernel)⟩⟩
set_option maxRecDepth 100000 in
theorem c_X1_readStatement (l : Launch) (D : va_G) (cy : Nat → Nat) (n : Nat) (ad : Nat → Nat) (F : Nat → va_E) (sz : Nat) (k : Nat) (f : Nat → Int32) (z : Int32) (u : Int32 × Int32) (hk : k + 2 ≤ n) (hFk : F k = oReader ad k z u.1 u.2) (hFt : F (k + 1) = oInts cy 100 f) (i : Nat) (t0 : Stg) (hi : i < n) (hFi : F i = oSetting t0) (j : Nat) (t1 : Stg) (hj : j < n) (hFj : F j = oSetting t1) (hkj : j ≠ k) (hkj1 : j ≠ k + 1) (hik : i ≠ k) (hij : i ≠ j) : Met l yX1_readStatement (zw yX1_readStatement cX1_readStatement 3 none) (rmL 4) (zPc D cy n ad F sz [.ref (ad k), .ref (ad i), .ref (ad j)]) (va_Qv (fun F1 => F1 k = oReader ad k z (sStm (sNext f z) t0 u).2.1 (sStm (sNext f z) t0 u).2.2 ∧ F1 j = oSetting (sStm (sNext f z) t0 u).1 ∧ ∀ p, p ≠ k → p ≠ j → F1 p = F p) (zB D n ad) (zA n ad sz)) 0 0 (zA n ad sz) := by
  refine zmet (by decide +kernel) (Nat.le_of_ble_eq_true rfl) (fun p e s m args below meth c ls hC hsz hZ hA hr hlocks hnm hl => ?_)
  have hC : zC p m c cX1_readStatement 3 s args RX1 D cy := hC
  have hx := hC.1.1
  have hb := hC.1.2.1
  have hl : lv_has ls 3 [(0, .ref (ad k)), (1, .ref (ad i)), (2, .ref (ad j))] := hl
  refine lv_aload_n hx hb dX1_readStatement_0 rfl (lv_at hl 0 rfl) ?_
  refine lv_bipush (v := 114) hx hb dX1_readStatement_1 (by decide) ?_
  refine zgov hZ hA (zrunV (As := [.int 114]) (rest := []) (k := k) hC hZ (c_X1_need l D cy n ad F s.heap.size k f z u hk hFk hFt 114) mX1_need vX1_need kX1_38 (zRj_of rfl) (by omega) hFk rfl rfl hl.1 rfl (Nat.le_of_ble_eq_true rfl) dX1_readStatement_3 ⟨Nat.le_refl _, Nat.le_refl _⟩) (fun F_1 hp_3 H locs hZ => ?_)
  obtain ⟨y_4, hy_4⟩ : ∃ y, y = (sNeed (sNext f z) 114 u) := ⟨_, rfl⟩
  rw [← hy_4] at hp_3
  have h_5 := zeq hp_3
  refine lv_aload_n hx hb dX1_readStatement_6 rfl (lv_at hl 2 rfl) ?_
  refine lv_aload_n hx hb dX1_readStatement_7 rfl (lv_at hl 0 rfl) ?_
  refine zgoi hZ hA (zrunV (As := []) (rest := [.ref (ad j)]) (k := k) hC hZ (c_X1_number l D cy n ad F_1 H.size k f z y_4 hk h_5 (zne hp_3 (by omega) hFt)) mX1_number vX1_number kX1_42 (zRj_of rfl) (by omega) h_5 rfl rfl hl.1 rfl (Nat.le_of_ble_eq_true rfl) dX1_readStatement_8 ⟨Nat.le_refl _, Nat.le_refl _⟩) (fun r_7 F_6 hp_8 H locs hZ => ?_)
  obtain ⟨y_9, hy_9⟩ : ∃ y, y = (sNum (sNext f z) y_4) := ⟨_, rfl⟩
  rw [← hy_9] at hp_8
  obtain ⟨rfl, h_10⟩ := hp_8
  have h_11 := zeq h_10
  refine zput (E := oSetting (y_9.1, t1.2.1, t1.2.2.1, t1.2.2.2)) hC hZ pX1_46 hj (zne h_10 hkj (zne hp_3 hkj hFj)) rfl rfl rfl (Nat.le_of_ble_eq_true rfl) dX1_readStatement_11 (fun F_12 hF_13 H locs hZ => ?_)
  have h_14 := zeq hF_13
  refine zjn (D := D) (A := zA n ad sz) (H0 := s.heap) (n := n) (ad := ad) (X := Int32 × Int32 × Int32) 35 (fun x => [.int x.1, .ref (ad j)]) (fun x ls F1 => lv_has ls 3 [(0, .ref (ad k)), (1, .ref (ad i)), (2, .ref (ad j))] ∧ x = sOpt (sNext f z) 98 true t0.2.1 y_9.2 ∧ F1 k = oReader ad k z x.2.1 x.2.2 ∧ F1 j = oSetting (y_9.1, t1.2.1, t1.2.2.1, t1.2.2.2) ∧ ∀ p, p ≠ k → p ≠ j → F1 p = F p) ?_ ?_
  · intro x0 ls F5 H locs hZ hφ
    obtain ⟨hl, hx0, hk0, hj0, hfr0⟩ := hφ
    refine zput (E := oSetting (y_9.1, x0.1, t1.2.2.1, t1.2.2.2)) hC hZ pX1_55 hj hj0 rfl rfl rfl (Nat.le_of_ble_eq_true rfl) dX1_readStatement_35 (fun F_15 hF_16 H locs hZ => ?_)
    have h_17 := zeq hF_16
    refine zjn (D := D) (A := zA n ad sz) (H0 := s.heap) (n := n) (ad := ad) (X := Int32 × Int32 × Int32) 59 (fun x => [.int x.1, .ref (ad j)]) (fun x ls F1 => lv_has ls 3 [(0, .ref (ad k)), (1, .ref (ad i)), (2, .ref (ad j))] ∧ x = sOpt (sNext f z) 108 false t0.2.2.1 x0.2 ∧ F1 k = oReader ad k z x.2.1 x.2.2 ∧ F1 j = oSetting (y_9.1, x0.1, t1.2.2.1, t1.2.2.2) ∧ ∀ p, p ≠ k → p ≠ j → F1 p = F p) ?_ ?_
    · intro x1 ls F6 H locs hZ hφ
      obtain ⟨hl, hx1, hk1, hj1, hfr1⟩ := hφ
      refine zput (E := oSetting (y_9.1, x0.1, x1.1, t1.2.2.2)) hC hZ pX1_61 hj hj1 rfl rfl rfl (Nat.le_of_ble_eq_true rfl) dX1_readStatement_59 (fun F_18 hF_19 H locs hZ => ?_)
      have h_20 := zeq hF_19
      refine zjn (D := D) (A := zA n ad sz) (H0 := s.heap) (n := n) (ad := ad) (X := Int32 × Int32 × Int32) 83 (fun x => [.int x.1, .ref (ad j)]) (fun x ls F1 => lv_has ls 3 [(0, .ref (ad k)), (1, .ref (ad i)), (2, .ref (ad j))] ∧ x = sOpt (sNext f z) 100 true t0.2.2.2 x1.2 ∧ F1 k = oReader ad k z x.2.1 x.2.2 ∧ F1 j = oSetting (y_9.1, x0.1, x1.1, t1.2.2.2) ∧ ∀ p, p ≠ k → p ≠ j → F1 p = F p) ?_ ?_
      · intro x2 ls F7 H locs hZ hφ
        obtain ⟨hl, hx2, hk2, hj2, hfr2⟩ := hφ
        refine zput (E := oSetting (y_9.1, x0.1, x1.1, x2.1)) hC hZ pX1_64 hj hj2 rfl rfl rfl (Nat.le_of_ble_eq_true rfl) dX1_readStatement_83 (fun F_21 hF_22 H locs hZ => ?_)
        have h_23 := zeq hF_22
        refine lv_aload_n hx hb dX1_readStatement_86 rfl (lv_at hl 0 rfl) ?_
        refine lv_bipush (v := 59) hx hb dX1_readStatement_87 (by decide) ?_
        refine zgov hZ hA (zrunV (As := [.int 59]) (rest := []) (k := k) hC hZ (c_X1_need l D cy n ad F_21 H.size k f z x2.2 hk (zne hF_22 (fun h => hkj h.symm) hk2) (zne hF_22 (fun h => hkj1 h.symm) ((hfr2 _ (by omega) (by omega)).trans hFt)) 59) mX1_need vX1_need kX1_38 (zRj_of rfl) (by omega) (zne hF_22 (fun h => hkj h.symm) hk2) rfl rfl hl.1 rfl (Nat.le_of_ble_eq_true rfl) dX1_readStatement_89 ⟨Nat.le_refl _, Nat.le_refl _⟩) (fun F_24 hp_26 H locs hZ => ?_)
        obtain ⟨y_27, hy_27⟩ : ∃ y, y = (sNeed (sNext f z) 59 x2.2) := ⟨_, rfl⟩
        rw [← hy_27] at hp_26
        have h_28 := zeq hp_26
        have hq_29 : sStm (sNext f z) t0 u = ((y_9.1, x0.1, x1.1, x2.1), y_27) := by unfold sStm; dsimp only; rw [← hy_4, ← hy_9, ← hx0, ← hx1, ← hx2, ← hy_27]
        exact zvret hC hZ hr hlocks (by rw [hq_29]; exact ⟨h_28, (zne hp_26 hkj h_23), fun p h1 h2 => (znu hp_26 h1).trans ((znu hF_22 h2).trans (hfr2 p h1 h2))⟩) dX1_readStatement_92
      · intro hjoin
        refine lv_aload_n hx hb dX1_readStatement_62 rfl (lv_at hl 2 rfl) ?_
        refine lv_aload_n hx hb dX1_readStatement_63 rfl (lv_at hl 0 rfl) ?_
        refine lv_bipush (v := 100) hx hb dX1_readStatement_64 (by decide) ?_
        refine zgoi hZ hA (zrunV (As := [.int 100]) (rest := [.ref (ad j)]) (k := k) hC hZ (c_X1_accepts l D cy n ad F_18 H.size k f z x1.2 hk (zne hF_19 (fun h => hkj h.symm) hk1) (zne hF_19 (fun h => hkj1 h.symm) ((hfr1 _ (by omega) (by omega)).trans hFt)) 100) mX1_accepts vX1_accepts kX1_51 (zRj_of rfl) (by omega) (zne hF_19 (fun h => hkj h.symm) hk1) rfl rfl hl.1 rfl (Nat.le_of_ble_eq_true rfl) dX1_readStatement_66 ⟨Nat.le_refl _, Nat.le_refl _⟩) (fun r_31 F_30 hp_32 H locs hZ => ?_)
        obtain ⟨y_33, hy_33⟩ : ∃ y, y = (sAcc (sNext f z) 100 x1.2) := ⟨_, rfl⟩
        rw [← hy_33] at hp_32
        obtain ⟨h_34, h_35⟩ := hp_32
        have h_36 := zeq h_35
        by_cases b_37 : bAcc (sNext f z) 100 x1.2
        · rw [if_pos b_37] at h_34
          subst h_34
          refine lv_if_eq (tgt := 79) hx hb dX1_readStatement_69 (by decide) (fun h => absurd (show (1 : Int32) = 0 from h) (by decide)) (fun _ => ?_)
          refine lv_aload_n hx hb dX1_readStatement_72 rfl (lv_at hl 0 rfl) ?_
          refine zgoi hZ hA (zrunV (As := []) (rest := [.ref (ad j)]) (k := k) hC hZ (c_X1_number l D cy n ad F_30 H.size k f z y_33 hk h_36 (zne h_35 (by omega) (zne hF_19 (fun h => hkj1 h.symm) ((hfr1 _ (by omega) (by omega)).trans hFt)))) mX1_number vX1_number kX1_42 (zRj_of rfl) (by omega) h_36 rfl rfl hl.1 rfl (Nat.le_of_ble_eq_true rfl) dX1_readStatement_73 ⟨Nat.le_refl _, Nat.le_refl _⟩) (fun r_39 F_38 hp_40 H locs hZ => ?_)
          obtain ⟨y_41, hy_41⟩ : ∃ y, y = (sNum (sNext f z) y_33) := ⟨_, rfl⟩
          rw [← hy_41] at hp_40
          obtain ⟨rfl, h_42⟩ := hp_40
          have h_43 := zeq h_42
          refine lv_goto (tgt := 83) hx hb dX1_readStatement_76 (by decide) ?_
          exact hjoin (y_41.1, y_41.2.1, y_41.2.2) ls _ H locs hZ ⟨hl, by rw [sOpt_posN b_37, ← hy_33, ← hy_41], h_43, (zne h_42 hkj (zne h_35 hkj h_20)), fun p h1 h2 => (znu h_42 h1).trans ((znu h_35 h1).trans ((znu hF_19 h2).trans (hfr1 p h1 h2)))⟩
        · rw [if_neg b_37] at h_34
          subst h_34
          refine lv_if_eq (tgt := 79) hx hb dX1_readStatement_69 (by decide) (fun _ => ?_) (fun h => absurd (show (0 : Int32) = 0 by decide) h)
          refine lv_aload_n hx hb dX1_readStatement_79 rfl (lv_at hl 1 rfl) ?_
          refine zget hC hZ fX1_64 hi (zne h_35 hik (zne hF_19 hij ((hfr1 _ hik hij).trans hFi))) rfl dX1_readStatement_80 ?_
          exact hjoin (t0.2.2.2, y_33.1, y_33.2) ls _ H locs hZ ⟨hl, by rw [sOpt_neg b_37, hy_33, sAcc_neg b_37], h_36, (zne h_35 hkj h_20), fun p h1 h2 => (znu h_35 h1).trans ((znu hF_19 h2).trans (hfr1 p h1 h2))⟩
    · intro hjoin
      refine lv_aload_n hx hb dX1_readStatement_38 rfl (lv_at hl 2 rfl) ?_
      refine lv_aload_n hx hb dX1_readStatement_39 rfl (lv_at hl 0 rfl) ?_
      refine lv_bipush (v := 108) hx hb dX1_readStatement_40 (by decide) ?_
      refine zgoi hZ hA (zrunV (As := [.int 108]) (rest := [.ref (ad j)]) (k := k) hC hZ (c_X1_accepts l D cy n ad F_15 H.size k f z x0.2 hk (zne hF_16 (fun h => hkj h.symm) hk0) (zne hF_16 (fun h => hkj1 h.symm) ((hfr0 _ (by omega) (by omega)).trans hFt)) 108) mX1_accepts vX1_accepts kX1_51 (zRj_of rfl) (by omega) (zne hF_16 (fun h => hkj h.symm) hk0) rfl rfl hl.1 rfl (Nat.le_of_ble_eq_true rfl) dX1_readStatement_42 ⟨Nat.le_refl _, Nat.le_refl _⟩) (fun r_45 F_44 hp_46 H locs hZ => ?_)
      obtain ⟨y_47, hy_47⟩ : ∃ y, y = (sAcc (sNext f z) 108 x0.2) := ⟨_, rfl⟩
      rw [← hy_47] at hp_46
      obtain ⟨h_48, h_49⟩ := hp_46
      have h_50 := zeq h_49
      by_cases b_51 : bAcc (sNext f z) 108 x0.2
      · rw [if_pos b_51] at h_48
        subst h_48
        refine lv_if_eq (tgt := 55) hx hb dX1_readStatement_45 (by decide) (fun h => absurd (show (1 : Int32) = 0 from h) (by decide)) (fun _ => ?_)
        refine lv_aload_n hx hb dX1_readStatement_48 rfl (lv_at hl 0 rfl) ?_
        refine zgoi hZ hA (zrunV (As := []) (rest := [.ref (ad j)]) (k := k) hC hZ (c_X1_digit l D cy n ad F_44 H.size k f z y_47 hk h_50 (zne h_49 (by omega) (zne hF_16 (fun h => hkj1 h.symm) ((hfr0 _ (by omega) (by omega)).trans hFt)))) mX1_digit vX1_digit kX1_58 (zRj_of rfl) (by omega) h_50 rfl rfl hl.1 rfl (Nat.le_of_ble_eq_true rfl) dX1_readStatement_49 ⟨Nat.le_refl _, Nat.le_refl _⟩) (fun r_53 F_52 hp_54 H locs hZ => ?_)
        obtain ⟨y_55, hy_55⟩ : ∃ y, y = (sDig (sNext f z) y_47) := ⟨_, rfl⟩
        rw [← hy_55] at hp_54
        obtain ⟨rfl, h_56⟩ := hp_54
        have h_57 := zeq h_56
        refine lv_goto (tgt := 59) hx hb dX1_readStatement_52 (by decide) ?_
        exact hjoin (y_55.1, y_55.2.1, y_55.2.2) ls _ H locs hZ ⟨hl, by rw [sOpt_posD b_51, ← hy_47, ← hy_55], h_57, (zne h_56 hkj (zne h_49 hkj h_17)), fun p h1 h2 => (znu h_56 h1).trans ((znu h_49 h1).trans ((znu hF_16 h2).trans (hfr0 p h1 h2)))⟩
      · rw [if_neg b_51] at h_48
        subst h_48
        refine lv_if_eq (tgt := 55) hx hb dX1_readStatement_45 (by decide) (fun _ => ?_) (fun h => absurd (show (0 : Int32) = 0 by decide) h)
        refine lv_aload_n hx hb dX1_readStatement_55 rfl (lv_at hl 1 rfl) ?_
        refine zget hC hZ fX1_61 hi (zne h_49 hik (zne hF_16 hij ((hfr0 _ hik hij).trans hFi))) rfl dX1_readStatement_56 ?_
        exact hjoin (t0.2.2.1, y_47.1, y_47.2) ls _ H locs hZ ⟨hl, by rw [sOpt_neg b_51, hy_47, sAcc_neg b_51], h_50, (zne h_49 hkj h_17), fun p h1 h2 => (znu h_49 h1).trans ((znu hF_16 h2).trans (hfr0 p h1 h2))⟩
  · intro hjoin
    refine lv_aload_n hx hb dX1_readStatement_14 rfl (lv_at hl 2 rfl) ?_
    refine lv_aload_n hx hb dX1_readStatement_15 rfl (lv_at hl 0 rfl) ?_
    refine lv_bipush (v := 98) hx hb dX1_readStatement_16 (by decide) ?_
    refine zgoi hZ hA (zrunV (As := [.int 98]) (rest := [.ref (ad j)]) (k := k) hC hZ (c_X1_accepts l D cy n ad F_12 H.size k f z y_9.2 hk (zne hF_13 (fun h => hkj h.symm) h_11) (zne hF_13 (fun h => hkj1 h.symm) (zne h_10 (by omega) (zne hp_3 (by omega) hFt))) 98) mX1_accepts vX1_accepts kX1_51 (zRj_of rfl) (by omega) (zne hF_13 (fun h => hkj h.symm) h_11) rfl rfl hl.1 rfl (Nat.le_of_ble_eq_true rfl) dX1_readStatement_18 ⟨Nat.le_refl _, Nat.le_refl _⟩) (fun r_59 F_58 hp_60 H locs hZ => ?_)
    obtain ⟨y_61, hy_61⟩ : ∃ y, y = (sAcc (sNext f z) 98 y_9.2) := ⟨_, rfl⟩
    rw [← hy_61] at hp_60
    obtain ⟨h_62, h_63⟩ := hp_60
    have h_64 := zeq h_63
    by_cases b_65 : bAcc (sNext f z) 98 y_9.2
    · rw [if_pos b_65] at h_62
      subst h_62
      refine lv_if_eq (tgt := 31) hx hb dX1_readStatement_21 (by decide) (fun h => absurd (show (1 : Int32) = 0 from h) (by decide)) (fun _ => ?_)
      refine lv_aload_n hx hb dX1_readStatement_24 rfl (lv_at hl 0 rfl) ?_
      refine zgoi hZ hA (zrunV (As := []) (rest := [.ref (ad j)]) (k := k) hC hZ (c_X1_number l D cy n ad F_58 H.size k f z y_61 hk h_64 (zne h_63 (by omega) (zne hF_13 (fun h => hkj1 h.symm) (zne h_10 (by omega) (zne hp_3 (by omega) hFt))))) mX1_number vX1_number kX1_42 (zRj_of rfl) (by omega) h_64 rfl rfl hl.1 rfl (Nat.le_of_ble_eq_true rfl) dX1_readStatement_25 ⟨Nat.le_refl _, Nat.le_refl _⟩) (fun r_67 F_66 hp_68 H locs hZ => ?_)
      obtain ⟨y_69, hy_69⟩ : ∃ y, y = (sNum (sNext f z) y_61) := ⟨_, rfl⟩
      rw [← hy_69] at hp_68
      obtain ⟨rfl, h_70⟩ := hp_68
      have h_71 := zeq h_70
      refine lv_goto (tgt := 35) hx hb dX1_readStatement_28 (by decide) ?_
      exact hjoin (y_69.1, y_69.2.1, y_69.2.2) ls _ H locs hZ ⟨hl, by rw [sOpt_posN b_65, ← hy_61, ← hy_69], h_71, (zne h_70 hkj (zne h_63 hkj h_14)), fun p h1 h2 => (znu h_70 h1).trans ((znu h_63 h1).trans ((znu hF_13 h2).trans ((znu h_10 h1).trans ((znu hp_3 h1).trans (rfl)))))⟩
    · rw [if_neg b_65] at h_62
      subst h_62
      refine lv_if_eq (tgt := 31) hx hb dX1_readStatement_21 (by decide) (fun _ => ?_) (fun h => absurd (show (0 : Int32) = 0 by decide) h)
      refine lv_aload_n hx hb dX1_readStatement_31 rfl (lv_at hl 1 rfl) ?_
      refine zget hC hZ fX1_55 hi (zne h_63 hik (zne hF_13 hij (zne h_10 hik (zne hp_3 hik hFi)))) rfl dX1_readStatement_32 ?_
      exact hjoin (t0.2.1, y_61.1, y_61.2) ls _ H locs hZ ⟨hl, by rw [sOpt_neg b_65, hy_61, sAcc_neg b_65], h_64, (zne h_63 hkj h_14), fun p h1 h2 => (znu h_63 h1).trans ((znu hF_13 h2).trans ((znu h_10 h1).trans ((znu hp_3 h1).trans (rfl))))⟩
