theorem mX4_holdsRow : zMd yX4_holdsRow cX4_holdsRow 1 (some .boolean) 0 := ⟨by decide +kernel, gt_of 749 (by decide +kernel) rfl, gt_of 49 (by decide +kernel) rfl, by decide⟩
theorem dX4_holdsRow_0 : decode cX4_holdsRow 0 = .ok (.aload_n 0, 1) := by decide +kernel
theorem dX4_holdsRow_1 : decode cX4_holdsRow 1 = .ok (.getfield 11, 3) := by decide +kernel
theorem fX4_11 : zFld RX4 11 4 0 := ⟨RX4, TX4, 5, rfl, inX4, by decide, rfl, Or.inl (gt_of 178 (by decide +kernel) rfl)⟩
theorem dX4_holdsRow_4 : decode cX4_holdsRow 4 = .ok (.iconst 2, 1) := by decide +kernel
theorem dX4_holdsRow_5 : decode cX4_holdsRow 5 = .ok (.if_icmp .ne 7, 3) := by decide +kernel
theorem dX4_holdsRow_12 : decode cX4_holdsRow 12 = .ok (.iconst 0, 1) := by decide +kernel
theorem dX4_holdsRow_13 : decode cX4_holdsRow 13 = .ok (.ireturn, 1) := by decide +kernel
theorem dX4_holdsRow_8 : decode cX4_holdsRow 8 = .ok (.iconst 1, 1) := by decide +kernel
theorem dX4_holdsRow_9 : decode cX4_holdsRow 9 = .ok (.goto 4, 3) := by decide +kernel
set_option maxRecDepth 100000 in
theorem c_X4_holdsRow (l : Launch) (D : va_G) (cy : Nat → Nat) (n : Nat) (ad : Nat → Nat) (F : Nat → va_E) (sz : Nat) (k : Nat) (sf : Shf) (hk : k + 3 ≤ n) (hR : RSh ad cy k F sf)  : Met l yX4_holdsRow (zw yX4_holdsRow cX4_holdsRow 1 (some .boolean)) (rmL 0) (zPc D cy n ad F sz [.ref (ad k)]) (va_Qi (fun r F1 => r = (if sf.1 = 2 then 1 else 0) ∧ F = F1) (zB D n ad) (zA n ad sz)) 0 0 (zA n ad sz) := by
  refine zmet (by decide +kernel) (Nat.le_of_ble_eq_true rfl) (fun p e s m args below meth c ls hC hsz hZ hA hr hlocks hnm hl => ?_)
  have hC : zC p m c cX4_holdsRow 1 s args RX4 D cy := hC
  have hx := hC.1.1
  have hb := hC.1.2.1
  have hl : lv_has ls 1 [(0, .ref (ad k))] := hl
  refine lv_aload_n hx hb dX4_holdsRow_0 rfl (lv_at hl 0 rfl) ?_
  refine zget hC hZ fX4_11 (by omega) hR.1 rfl dX4_holdsRow_1 ?_
  refine lv_iconst (v := 2) hx hb dX4_holdsRow_4 (by decide) ?_
  refine lv_icmp_ne (tgt := 12) hx hb dX4_holdsRow_5 (by decide) (fun c_5 => ?_) (fun c_5 => ?_)
  · refine lv_iconst (v := 0) hx hb dX4_holdsRow_12 (by decide) ?_
    have hq_1 : (0 : Int32) = if sf.1 = 2 then 1 else 0 := by simp [c_5]
    exact zbreti hC hZ hr hlocks rfl ⟨hq_1, rfl⟩ dX4_holdsRow_13
  · refine lv_iconst (v := 1) hx hb dX4_holdsRow_8 (by decide) ?_
    refine lv_goto (tgt := 13) hx hb dX4_holdsRow_9 (by decide) ?_
    have hq_2 : (1 : Int32) = if sf.1 = 2 then 1 else 0 := by simp [c_5]
    exact zbreti hC hZ hr hlocks rfl ⟨hq_2, rfl⟩ dX4_holdsRow_13

theorem mX4_clear : zMd yX4_clear cX4_clear 1 none 0 := ⟨by decide +kernel, gt_of 571 (by decide +kernel) rfl, gt_of 49 (by decide +kernel) rfl, by decide⟩
theorem dX4_clear_0 : decode cX4_clear 0 = .ok (.aload_n 0, 1) := by decide +kernel
theorem dX4_clear_1 : decode cX4_clear 1 = .ok (.iconst 0, 1) := by decide +kernel
theorem dX4_clear_2 : decode cX4_clear 2 = .ok (.putfield 11, 3) := by decide +kernel
theorem pX4_11 : zFldP RX4 11 4 0 false .int := ⟨RX4, TX4, 5, tyX4, rfl, inX4, by decide, rfl, Or.inl (gt_of 178 (by decide +kernel) rfl), tyX4_ok, nmX4, rfl, by decide +kernel, fun h => by cases h⟩
theorem dX4_clear_5 : decode cX4_clear 5 = .ok (.return_, 1) := by decide +kernel
set_option maxRecDepth 100000 in
theorem c_X4_clear (l : Launch) (D : va_G) (cy : Nat → Nat) (n : Nat) (ad : Nat → Nat) (F : Nat → va_E) (sz : Nat) (k : Nat) (sf : Shf) (hk : k + 3 ≤ n) (hR : RSh ad cy k F sf) : Met l yX4_clear (zw yX4_clear cX4_clear 1 none) (rmL 0) (zPc D cy n ad F sz [.ref (ad k)]) (va_Qv (fun F1 => F1 = va_up F k (oShelf ad k 0 sf.2.2.1 sf.2.2.2.1)) (zB D n ad) (zA n ad sz)) 0 0 (zA n ad sz) := by
  refine zmet (by decide +kernel) (Nat.le_of_ble_eq_true rfl) (fun p e s m args below meth c ls hC hsz hZ hA hr hlocks hnm hl => ?_)
  have hC : zC p m c cX4_clear 1 s args RX4 D cy := hC
  have hx := hC.1.1
  have hb := hC.1.2.1
  have hl : lv_has ls 1 [(0, .ref (ad k))] := hl
  refine lv_aload_n hx hb dX4_clear_0 rfl (lv_at hl 0 rfl) ?_
  refine lv_iconst (v := 0) hx hb dX4_clear_1 (by decide) ?_
  refine zput (E := oShelf ad k 0 sf.2.2.1 sf.2.2.2.1) hC hZ pX4_11 (by omega) hR.1 rfl rfl rfl (Nat.le_of_ble_eq_true rfl) dX4_clear_2 (fun F_1 hF_2 H locs hZ => ?_)
  have h_3 := zeq hF_2
  have hq_4 : F_1 = va_up F k (oShelf ad k 0 sf.2.2.1 sf.2.2.2.1) := by simp only [hF_2, bx_uu]
  exact zvret hC hZ hr hlocks hq_4 dX4_clear_5

theorem mX4_holdStory : zMd yX4_holdStory cX4_holdStory 3 none 2 := ⟨by decide +kernel, gt_of 575 (by decide +kernel) rfl, gt_of 49 (by decide +kernel) rfl, by decide⟩
theorem dX4_holdStory_0 : decode cX4_holdStory 0 = .ok (.aload_n 0, 1) := by decide +kernel
theorem dX4_holdStory_1 : decode cX4_holdStory 1 = .ok (.iconst 1, 1) := by decide +kernel
theorem dX4_holdStory_2 : decode cX4_holdStory 2 = .ok (.putfield 11, 3) := by decide +kernel
theorem dX4_holdStory_5 : decode cX4_holdStory 5 = .ok (.aload_n 0, 1) := by decide +kernel
theorem dX4_holdStory_6 : decode cX4_holdStory 6 = .ok (.getfield 18, 3) := by decide +kernel
theorem fX4_18 : zFld RX4 18 4 1 := ⟨RX4, TX4, 5, rfl, inX4, by decide, rfl, Or.inl (gt_of 180 (by decide +kernel) rfl)⟩
theorem dX4_holdStory_9 : decode cX4_holdStory 9 = .ok (.iload_n 1, 1) := by decide +kernel
theorem dX4_holdStory_10 : decode cX4_holdStory 10 = .ok (.iload_n 2, 1) := by decide +kernel
theorem dX4_holdStory_11 : decode cX4_holdStory 11 = .ok (.invokevirtual 32, 3) := by decide +kernel
theorem kX4_32 : zLk RX4 32 yX5_become := Or.inl (gt_of 576 (by decide +kernel) rfl)
theorem vX5_become : zMi yX5_become := ⟨gt_of 473 (by decide +kernel) rfl, gt_of 474 (by decide +kernel) rfl⟩
theorem dX4_holdStory_14 : decode cX4_holdStory 14 = .ok (.return_, 1) := by decide +kernel
set_option maxRecDepth 100000 in
theorem c_X4_holdStory (l : Launch) (D : va_G) (cy : Nat → Nat) (n : Nat) (ad : Nat → Nat) (F : Nat → va_E) (sz : Nat) (k : Nat) (sf : Shf) (hk : k + 3 ≤ n) (hR : RSh ad cy k F sf) (kd fg : Int32) : Met l yX4_holdStory (zw yX4_holdStory cX4_holdStory 3 none) (rmL 1) (zPc D cy n ad F sz [.ref (ad k), .int kd, .int fg]) (va_Qv (fun F1 => F1 = va_up (va_up F k (oShelf ad k 1 sf.2.2.1 sf.2.2.2.1)) (k + 1) (oTale (kd, fg))) (zB D n ad) (zA n ad sz)) 0 0 (zA n ad sz) := by
  refine zmet (by decide +kernel) (Nat.le_of_ble_eq_true rfl) (fun p e s m args below meth c ls hC hsz hZ hA hr hlocks hnm hl => ?_)
  have hC : zC p m c cX4_holdStory 3 s args RX4 D cy := hC
  have hx := hC.1.1
  have hb := hC.1.2.1
  have hl : lv_has ls 3 [(0, .ref (ad k)), (1, .int kd), (2, .int fg)] := hl
  refine lv_aload_n hx hb dX4_holdStory_0 rfl (lv_at hl 0 rfl) ?_
  refine lv_iconst (v := 1) hx hb dX4_holdStory_1 (by decide) ?_
  refine zput (E := oShelf ad k 1 sf.2.2.1 sf.2.2.2.1) hC hZ pX4_11 (by omega) hR.1 rfl rfl rfl (Nat.le_of_ble_eq_true rfl) dX4_holdStory_2 (fun F_1 hF_2 H locs hZ => ?_)
  have h_3 := zeq hF_2
  refine lv_aload_n hx hb dX4_holdStory_5 rfl (lv_at hl 0 rfl) ?_
  refine zget hC hZ fX4_18 (by omega) h_3 rfl dX4_holdStory_6 ?_
  refine lv_iload_n hx hb dX4_holdStory_9 rfl (lv_at hl 1 rfl) ?_
  refine lv_iload_n hx hb dX4_holdStory_10 rfl (lv_at hl 2 rfl) ?_
  refine zgov hZ hA (zrunV (As := [.int kd, .int fg]) (rest := []) (k := k + 1) hC hZ (c_X5_become l D cy n ad F_1 H.size (k + 1) sf.2.1 (by omega) (zne hF_2 (by omega) hR.2.1) kd fg) mX5_become vX5_become kX4_32 (zRj_of rfl) (by omega) (zne hF_2 (by omega) hR.2.1) rfl rfl hl.1 rfl (Nat.le_of_ble_eq_true rfl) dX4_holdStory_11 ⟨Nat.le_refl _, Nat.le_refl _⟩) (fun F_4 hp_6 H locs hZ => ?_)
  have h_7 := zeq hp_6
  have hq_8 : F_4 = va_up (va_up F k (oShelf ad k 1 sf.2.2.1 sf.2.2.2.1)) (k + 1) (oTale (kd, fg)) := by rw [hp_6, hF_2]
  exact zvret hC hZ hr hlocks hq_8 dX4_holdStory_14

theorem mX4_holdRow : zMd yX4_holdRow cX4_holdRow 4 none 2 := ⟨by decide +kernel, gt_of 584 (by decide +kernel) rfl, gt_of 49 (by decide +kernel) rfl, by decide⟩
theorem dX4_holdRow_0 : decode cX4_holdRow 0 = .ok (.aload_n 0, 1) := by decide +kernel
theorem dX4_holdRow_1 : decode cX4_holdRow 1 = .ok (.iconst 2, 1) := by decide +kernel
theorem dX4_holdRow_2 : decode cX4_holdRow 2 = .ok (.putfield 11, 3) := by decide +kernel
theorem dX4_holdRow_5 : decode cX4_holdRow 5 = .ok (.aload_n 0, 1) := by decide +kernel
theorem dX4_holdRow_6 : decode cX4_holdRow 6 = .ok (.iload_n 1, 1) := by decide +kernel
theorem dX4_holdRow_7 : decode cX4_holdRow 7 = .ok (.putfield 22, 3) := by decide +kernel
theorem pX4_22 : zFldP RX4 22 4 2 false .int := ⟨RX4, TX4, 5, tyX4, rfl, inX4, by decide, rfl, Or.inl (gt_of 182 (by decide +kernel) rfl), tyX4_ok, nmX4, rfl, by decide +kernel, fun h => by cases h⟩
theorem dX4_holdRow_10 : decode cX4_holdRow 10 = .ok (.aload_n 0, 1) := by decide +kernel
theorem dX4_holdRow_11 : decode cX4_holdRow 11 = .ok (.iload_n 2, 1) := by decide +kernel
theorem dX4_holdRow_12 : decode cX4_holdRow 12 = .ok (.putfield 25, 3) := by decide +kernel
theorem pX4_25 : zFldP RX4 25 4 3 false .int := ⟨RX4, TX4, 5, tyX4, rfl, inX4, by decide, rfl, Or.inl (gt_of 184 (by decide +kernel) rfl), tyX4_ok, nmX4, rfl, by decide +kernel, fun h => by cases h⟩
theorem dX4_holdRow_15 : decode cX4_holdRow 15 = .ok (.iconst 0, 1) := by decide +kernel
theorem dX4_holdRow_16 : decode cX4_holdRow 16 = .ok (.istore_n 3, 1) := by decide +kernel
theorem dX4_holdRow_17 : decode cX4_holdRow 17 = .ok (.iload_n 3, 1) := by decide +kernel
theorem dX4_holdRow_18 : decode cX4_holdRow 18 = .ok (.bipush 100, 2) := by decide +kernel
theorem dX4_holdRow_20 : decode cX4_holdRow 20 = .ok (.if_icmp .ge 16, 3) := by decide +kernel
theorem dX4_holdRow_36 : decode cX4_holdRow 36 = .ok (.return_, 1) := by decide +kernel
theorem dX4_holdRow_23 : decode cX4_holdRow 23 = .ok (.aload_n 0, 1) := by decide +kernel
theorem dX4_holdRow_24 : decode cX4_holdRow 24 = .ok (.getfield 28, 3) := by decide +kernel
theorem fX4_28 : zFld RX4 28 4 4 := ⟨RX4, TX4, 5, rfl, inX4, by decide, rfl, Or.inl (gt_of 187 (by decide +kernel) rfl)⟩
theorem dX4_holdRow_27 : decode cX4_holdRow 27 = .ok (.iload_n 3, 1) := by decide +kernel
theorem dX4_holdRow_28 : decode cX4_holdRow 28 = .ok (.iconst 0, 1) := by decide +kernel
theorem dX4_holdRow_29 : decode cX4_holdRow 29 = .ok (.iastore, 1) := by decide +kernel
theorem dX4_holdRow_30 : decode cX4_holdRow 30 = .ok (.iinc 3 1, 3) := by decide +kernel
theorem dX4_holdRow_33 : decode cX4_holdRow 33 = .ok (.goto (-16), 3) := by decide +kernel
set_option maxRecDepth 100000 in
theorem c_X4_holdRow (l : Launch) (D : va_G) (cy : Nat → Nat) (n : Nat) (ad : Nat → Nat) (F : Nat → va_E) (sz : Nat) (k : Nat) (sf : Shf) (hk : k + 3 ≤ n) (hR : RSh ad cy k F sf) (so z : Int32) : Met l yX4_holdRow (zw yX4_holdRow cX4_holdRow 4 none) (rmL 0) (zPc D cy n ad F sz [.ref (ad k), .int so, .int z]) (va_Qv (fun F1 => F1 = va_up (va_up F k (oShelf ad k 2 so z)) (k + 2) (oInts cy 100 (zfill sf.2.2.2.2 100))) (zB D n ad) (zA n ad sz)) 0 0 (zA n ad sz) := by
  refine zmet (by decide +kernel) (Nat.le_of_ble_eq_true rfl) (fun p e s m args below meth c ls hC hsz hZ hA hr hlocks hnm hl => ?_)
  have hC : zC p m c cX4_holdRow 4 s args RX4 D cy := hC
  have hx := hC.1.1
  have hb := hC.1.2.1
  have hl : lv_has ls 4 [(0, .ref (ad k)), (1, .int so), (2, .int z)] := hl
  refine lv_aload_n hx hb dX4_holdRow_0 rfl (lv_at hl 0 rfl) ?_
  refine lv_iconst (v := 2) hx hb dX4_holdRow_1 (by decide) ?_
  refine zput (E := oShelf ad k 2 sf.2.2.1 sf.2.2.2.1) hC hZ pX4_11 (by omega) hR.1 rfl rfl rfl (Nat.le_of_ble_eq_true rfl) dX4_holdRow_2 (fun F_1 hF_2 H locs hZ => ?_)
  have h_3 := zeq hF_2
  refine lv_aload_n hx hb dX4_holdRow_5 rfl (lv_at hl 0 rfl) ?_
  refine lv_iload_n hx hb dX4_holdRow_6 rfl (lv_at hl 1 rfl) ?_
  refine zput (E := oShelf ad k 2 so sf.2.2.2.1) hC hZ pX4_22 (by omega) h_3 rfl rfl rfl (Nat.le_of_ble_eq_true rfl) dX4_holdRow_7 (fun F_4 hF_5 H locs hZ => ?_)
  have h_6 := zeq hF_5
  refine lv_aload_n hx hb dX4_holdRow_10 rfl (lv_at hl 0 rfl) ?_
  refine lv_iload_n hx hb dX4_holdRow_11 rfl (lv_at hl 2 rfl) ?_
  refine zput (E := oShelf ad k 2 so z) hC hZ pX4_25 (by omega) h_6 rfl rfl rfl (Nat.le_of_ble_eq_true rfl) dX4_holdRow_12 (fun F_7 hF_8 H locs hZ => ?_)
  have h_9 := zeq hF_8
  refine lv_iconst (v := 0) hx hb dX4_holdRow_15 (by decide) ?_
  refine lv_istore_n (lv' := [(3, .int 0), (0, .ref (ad k)), (1, .int so), (2, .int z)]) hx hb dX4_holdRow_16 rfl hl (by decide) rfl (fun ls hl => ?_)
  refine zlp (X := Nat) 17 (fun _ => []) (fun i ls F1 => i ≤ 100 ∧ lv_has ls 4 [(3, .int (nI i)), (0, .ref (ad k)), (1, .int so), (2, .int z)] ∧ F1 = va_up (va_up F k (oShelf ad k 2 so z)) (k + 2) (oInts cy 100 (zfill sf.2.2.2.2 i))) (fun i => 100 - i) ?_ 0 hZ ⟨by omega, hl, ?_⟩
  · intro i ih ls F3 H locs hZ hφ
    obtain ⟨hi, hl, hF3⟩ := hφ
    have hk2 := zeq hF3
    have hk0 : F3 k = oShelf ad k 2 so z := zne hF3 (by omega) (va_up_self _ _ _)
    refine lv_iload_n hx hb dX4_holdRow_17 rfl (lv_at hl 0 rfl) ?_
    refine lv_bipush (v := 100) hx hb dX4_holdRow_18 (by decide) ?_
    refine lv_icmp_ge (tgt := 36) hx hb dX4_holdRow_20 (by decide) (fun c_20 => ?_) (fun c_20 => ?_)
    · have hi2 : i = 100 := by have := nIge (N := 100) c_20 (by omega) rfl; omega
      subst hi2
      exact zvret hC hZ hr hlocks hF3 dX4_holdRow_36
    · refine lv_aload_n hx hb dX4_holdRow_23 rfl (lv_at hl 1 rfl) ?_
      refine zget hC hZ fX4_28 (by omega) hk0 rfl dX4_holdRow_24 ?_
      refine lv_iload_n hx hb dX4_holdRow_27 rfl (lv_at hl 0 rfl) ?_
      refine lv_iconst (v := 0) hx hb dX4_holdRow_28 (by decide) ?_
      refine ziast hC hZ (by omega) hk2 rfl (nIlt c_20 (by omega) rfl) (by decide) dX4_holdRow_29 (fun F_10 hF_11 H locs hZ => ?_)
      have h_12 := zeq hF_11
      refine lv_iinc (v := nI (i + 1)) (lv' := [(3, .int (nI (i + 1))), (0, .ref (ad k)), (1, .int so), (2, .int z)]) hx hb dX4_holdRow_30 hl (k := 0) rfl (nI_1 i) (by decide) rfl (fun ls hl => ?_)
      refine lv_goto (tgt := 17) hx hb dX4_holdRow_33 (by decide) ?_
      have hlt := nIlt (N := 100) c_20 (by omega) rfl
      exact ih (i + 1) ls _ H locs (by show 100 - (i + 1) < 100 - i; omega) hZ ⟨by omega, hl, by rw [hF_11, zfill_s, hF3]; exact bx_uu _ _ _ _⟩
  · rw [zfill_0, ← zself (k := k + 2) (by rw [va_up_ne _ _ (by omega)]; exact hR.2.2), hF_8, hF_5, hF_2]
    simp only [bx_uu]

theorem mX4_hasPlace : zMd yX4_hasPlace cX4_hasPlace 2 (some .boolean) 1 := ⟨by decide +kernel, gt_of 303 (by decide +kernel) rfl, gt_of 49 (by decide +kernel) rfl, by decide⟩
theorem dX4_hasPlace_0 : decode cX4_hasPlace 0 = .ok (.iload_n 1, 1) := by decide +kernel
theorem dX4_hasPlace_1 : decode cX4_hasPlace 1 = .ok (.ifCond .lt 21, 3) := by decide +kernel
theorem dX4_hasPlace_22 : decode cX4_hasPlace 22 = .ok (.iconst 0, 1) := by decide +kernel
theorem dX4_hasPlace_23 : decode cX4_hasPlace 23 = .ok (.ireturn, 1) := by decide +kernel
theorem dX4_hasPlace_4 : decode cX4_hasPlace 4 = .ok (.iload_n 1, 1) := by decide +kernel
theorem dX4_hasPlace_5 : decode cX4_hasPlace 5 = .ok (.aload_n 0, 1) := by decide +kernel
theorem dX4_hasPlace_6 : decode cX4_hasPlace 6 = .ok (.getfield 25, 3) := by decide +kernel
theorem fX4_25 : zFld RX4 25 4 3 := ⟨RX4, TX4, 5, rfl, inX4, by decide, rfl, Or.inl (gt_of 184 (by decide +kernel) rfl)⟩
theorem dX4_hasPlace_9 : decode cX4_hasPlace 9 = .ok (.if_icmp .ge 13, 3) := by decide +kernel
theorem dX4_hasPlace_12 : decode cX4_hasPlace 12 = .ok (.iload_n 1, 1) := by decide +kernel
theorem dX4_hasPlace_13 : decode cX4_hasPlace 13 = .ok (.bipush 100, 2) := by decide +kernel
theorem dX4_hasPlace_15 : decode cX4_hasPlace 15 = .ok (.if_icmp .ge 7, 3) := by decide +kernel
theorem dX4_hasPlace_18 : decode cX4_hasPlace 18 = .ok (.iconst 1, 1) := by decide +kernel
theorem dX4_hasPlace_19 : decode cX4_hasPlace 19 = .ok (.goto 4, 3) := by decide +kernel
set_option maxRecDepth 100000 in
theorem c_X4_hasPlace (l : Launch) (D : va_G) (cy : Nat → Nat) (n : Nat) (ad : Nat → Nat) (F : Nat → va_E) (sz : Nat) (k : Nat) (sf : Shf) (hk : k + 3 ≤ n) (hR : RSh ad cy k F sf) (i : Int32) : Met l yX4_hasPlace (zw yX4_hasPlace cX4_hasPlace 2 (some .boolean)) (rmL 0) (zPc D cy n ad F sz [.ref (ad k), .int i]) (va_Qi (fun r F1 => r = (if bPlace sf.2.2.2.1 i then 1 else 0) ∧ F = F1) (zB D n ad) (zA n ad sz)) 0 0 (zA n ad sz) := by
  refine zmet (by decide +kernel) (Nat.le_of_ble_eq_true rfl) (fun p e s m args below meth c ls hC hsz hZ hA hr hlocks hnm hl => ?_)
  have hC : zC p m c cX4_hasPlace 2 s args RX4 D cy := hC
  have hx := hC.1.1
  have hb := hC.1.2.1
  have hl : lv_has ls 2 [(0, .ref (ad k)), (1, .int i)] := hl
  refine lv_iload_n hx hb dX4_hasPlace_0 rfl (lv_at hl 1 rfl) ?_
  refine lv_if_lt (tgt := 22) hx hb dX4_hasPlace_1 (by decide) (fun c_1 => ?_) (fun c_1 => ?_)
  · refine lv_iconst (v := 0) hx hb dX4_hasPlace_22 (by decide) ?_
    have hq_1 : (0 : Int32) = if bPlace sf.2.2.2.1 i then 1 else 0 := by simp [c_1, Int32.not_le.mpr c_1]
    exact zbreti hC hZ hr hlocks rfl ⟨hq_1, rfl⟩ dX4_hasPlace_23
  · refine lv_iload_n hx hb dX4_hasPlace_4 rfl (lv_at hl 1 rfl) ?_
    refine lv_aload_n hx hb dX4_hasPlace_5 rfl (lv_at hl 0 rfl) ?_
    refine zget hC hZ fX4_25 (by omega) hR.1 rfl dX4_hasPlace_6 ?_
    refine lv_icmp_ge (tgt := 22) hx hb dX4_hasPlace_9 (by decide) (fun c_9 => ?_) (fun c_9 => ?_)
    · refine lv_iconst (v := 0) hx hb dX4_hasPlace_22 (by decide) ?_
      have hq_2 : (0 : Int32) = if bPlace sf.2.2.2.1 i then 1 else 0 := by simp [c_1, Int32.not_lt.mp c_1, c_9, Int32.not_lt.mpr c_9]
      exact zbreti hC hZ hr hlocks rfl ⟨hq_2, rfl⟩ dX4_hasPlace_23
    · refine lv_iload_n hx hb dX4_hasPlace_12 rfl (lv_at hl 1 rfl) ?_
      refine lv_bipush (v := 100) hx hb dX4_hasPlace_13 (by decide) ?_
      refine lv_icmp_ge (tgt := 22) hx hb dX4_hasPlace_15 (by decide) (fun c_15 => ?_) (fun c_15 => ?_)
      · refine lv_iconst (v := 0) hx hb dX4_hasPlace_22 (by decide) ?_
        have hq_3 : (0 : Int32) = if bPlace sf.2.2.2.1 i then 1 else 0 := by simp [c_1, Int32.not_lt.mp c_1, c_9, Int32.not_le.mp c_9, c_15, Int32.not_lt.mpr c_15]
        exact zbreti hC hZ hr hlocks rfl ⟨hq_3, rfl⟩ dX4_hasPlace_23
      · refine lv_iconst (v := 1) hx hb dX4_hasPlace_18 (by decide) ?_
        refine lv_goto (tgt := 23) hx hb dX4_hasPlace_19 (by decide) ?_
        have hq_4 : (1 : Int32) = if bPlace sf.2.2.2.1 i then 1 else 0 := by simp [c_1, Int32.not_lt.mp c_1, c_9, Int32.not_le.mp c_9, c_15, Int32.not_le.mp c_15]
        exact zbreti hC hZ hr hlocks rfl ⟨hq_4, rfl⟩ dX4_hasPlace_23

theorem mX4_hasStretch : zMd yX4_hasStretch cX4_hasStretch 3 (some .boolean) 2 := ⟨by decide +kernel, gt_of 601 (by decide +kernel) rfl, gt_of 49 (by decide +kernel) rfl, by decide⟩
theorem dX4_hasStretch_0 : decode cX4_hasStretch 0 = .ok (.iload_n 2, 1) := by decide +kernel
theorem dX4_hasStretch_1 : decode cX4_hasStretch 1 = .ok (.ifCond .lt 29, 3) := by decide +kernel
theorem dX4_hasStretch_30 : decode cX4_hasStretch 30 = .ok (.iconst 0, 1) := by decide +kernel
theorem dX4_hasStretch_31 : decode cX4_hasStretch 31 = .ok (.ireturn, 1) := by decide +kernel
theorem dX4_hasStretch_4 : decode cX4_hasStretch 4 = .ok (.iload_n 2, 1) := by decide +kernel
theorem dX4_hasStretch_5 : decode cX4_hasStretch 5 = .ok (.aload_n 0, 1) := by decide +kernel
theorem dX4_hasStretch_6 : decode cX4_hasStretch 6 = .ok (.getfield 25, 3) := by decide +kernel
theorem dX4_hasStretch_9 : decode cX4_hasStretch 9 = .ok (.if_icmp .gt 21, 3) := by decide +kernel
theorem dX4_hasStretch_12 : decode cX4_hasStretch 12 = .ok (.iload_n 1, 1) := by decide +kernel
theorem dX4_hasStretch_13 : decode cX4_hasStretch 13 = .ok (.ifCond .lt 17, 3) := by decide +kernel
theorem dX4_hasStretch_16 : decode cX4_hasStretch 16 = .ok (.iload_n 1, 1) := by decide +kernel
theorem dX4_hasStretch_17 : decode cX4_hasStretch 17 = .ok (.aload_n 0, 1) := by decide +kernel
theorem dX4_hasStretch_18 : decode cX4_hasStretch 18 = .ok (.getfield 25, 3) := by decide +kernel
theorem dX4_hasStretch_21 : decode cX4_hasStretch 21 = .ok (.iload_n 2, 1) := by decide +kernel
theorem dX4_hasStretch_22 : decode cX4_hasStretch 22 = .ok (.isub, 1) := by decide +kernel
theorem dX4_hasStretch_23 : decode cX4_hasStretch 23 = .ok (.if_icmp .gt 7, 3) := by decide +kernel
theorem dX4_hasStretch_26 : decode cX4_hasStretch 26 = .ok (.iconst 1, 1) := by decide +kernel
theorem dX4_hasStretch_27 : decode cX4_hasStretch 27 = .ok (.goto 4, 3) := by decide +kernel
set_option maxRecDepth 100000 in
theorem c_X4_hasStretch (l : Launch) (D : va_G) (cy : Nat → Nat) (n : Nat) (ad : Nat → Nat) (F : Nat → va_E) (sz : Nat) (k : Nat) (sf : Shf) (hk : k + 3 ≤ n) (hR : RSh ad cy k F sf) (i q : Int32) : Met l yX4_hasStretch (zw yX4_hasStretch cX4_hasStretch 3 (some .boolean)) (rmL 0) (zPc D cy n ad F sz [.ref (ad k), .int i, .int q]) (va_Qi (fun r F1 => r = (if bStretch sf.2.2.2.1 i q then 1 else 0) ∧ F = F1) (zB D n ad) (zA n ad sz)) 0 0 (zA n ad sz) := by
  refine zmet (by decide +kernel) (Nat.le_of_ble_eq_true rfl) (fun p e s m args below meth c ls hC hsz hZ hA hr hlocks hnm hl => ?_)
  have hC : zC p m c cX4_hasStretch 3 s args RX4 D cy := hC
  have hx := hC.1.1
  have hb := hC.1.2.1
  have hl : lv_has ls 3 [(0, .ref (ad k)), (1, .int i), (2, .int q)] := hl
  refine lv_iload_n hx hb dX4_hasStretch_0 rfl (lv_at hl 2 rfl) ?_
  refine lv_if_lt (tgt := 30) hx hb dX4_hasStretch_1 (by decide) (fun c_1 => ?_) (fun c_1 => ?_)
  · refine lv_iconst (v := 0) hx hb dX4_hasStretch_30 (by decide) ?_
    have hq_1 : (0 : Int32) = if bStretch sf.2.2.2.1 i q then 1 else 0 := by simp [c_1, Int32.not_le.mpr c_1]
    exact zbreti hC hZ hr hlocks rfl ⟨hq_1, rfl⟩ dX4_hasStretch_31
  · refine lv_iload_n hx hb dX4_hasStretch_4 rfl (lv_at hl 2 rfl) ?_
    refine lv_aload_n hx hb dX4_hasStretch_5 rfl (lv_at hl 0 rfl) ?_
    refine zget hC hZ fX4_25 (by omega) hR.1 rfl dX4_hasStretch_6 ?_
    refine lv_icmp_gt (tgt := 30) hx hb dX4_hasStretch_9 (by decide) (fun c_9 => ?_) (fun c_9 => ?_)
    · refine lv_iconst (v := 0) hx hb dX4_hasStretch_30 (by decide) ?_
      have hq_2 : (0 : Int32) = if bStretch sf.2.2.2.1 i q then 1 else 0 := by simp [c_1, Int32.not_lt.mp c_1, c_9, Int32.not_le.mpr c_9]
      exact zbreti hC hZ hr hlocks rfl ⟨hq_2, rfl⟩ dX4_hasStretch_31
    · refine lv_iload_n hx hb dX4_hasStretch_12 rfl (lv_at hl 1 rfl) ?_
      refine lv_if_lt (tgt := 30) hx hb dX4_hasStretch_13 (by decide) (fun c_13 => ?_) (fun c_13 => ?_)
      · refine lv_iconst (v := 0) hx hb dX4_hasStretch_30 (by decide) ?_
        have hq_3 : (0 : Int32) = if bStretch sf.2.2.2.1 i q then 1 else 0 := by simp [c_1, Int32.not_lt.mp c_1, c_9, Int32.not_lt.mp c_9, c_13, Int32.not_le.mpr c_13]
        exact zbreti hC hZ hr hlocks rfl ⟨hq_3, rfl⟩ dX4_hasStretch_31
      · refine lv_iload_n hx hb dX4_hasStretch_16 rfl (lv_at hl 1 rfl) ?_
        refine lv_aload_n hx hb dX4_hasStretch_17 rfl (lv_at hl 0 rfl) ?_
        refine zget hC hZ fX4_25 (by omega) hR.1 rfl dX4_hasStretch_18 ?_
        refine lv_iload_n hx hb dX4_hasStretch_21 rfl (lv_at hl 2 rfl) ?_
        refine lv_isub hx hb dX4_hasStretch_22 ?_
        refine lv_icmp_gt (tgt := 30) hx hb dX4_hasStretch_23 (by decide) (fun c_23 => ?_) (fun c_23 => ?_)
        · refine lv_iconst (v := 0) hx hb dX4_hasStretch_30 (by decide) ?_
          have hq_4 : (0 : Int32) = if bStretch sf.2.2.2.1 i q then 1 else 0 := by simp [c_1, Int32.not_lt.mp c_1, c_9, Int32.not_lt.mp c_9, c_13, Int32.not_lt.mp c_13, c_23, Int32.not_le.mpr c_23]
          exact zbreti hC hZ hr hlocks rfl ⟨hq_4, rfl⟩ dX4_hasStretch_31
        · refine lv_iconst (v := 1) hx hb dX4_hasStretch_26 (by decide) ?_
          refine lv_goto (tgt := 31) hx hb dX4_hasStretch_27 (by decide) ?_
          have hq_5 : (1 : Int32) = if bStretch sf.2.2.2.1 i q then 1 else 0 := by simp [c_1, Int32.not_lt.mp c_1, c_9, Int32.not_lt.mp c_9, c_13, Int32.not_lt.mp c_13, c_23, Int32.not_lt.mp c_23]
          exact zbreti hC hZ hr hlocks rfl ⟨hq_5, rfl⟩ dX4_hasStretch_31

theorem mX4_change : zMd yX4_change cX4_change 3 none 2 := ⟨by decide +kernel, gt_of 593 (by decide +kernel) rfl, gt_of 49 (by decide +kernel) rfl, by decide⟩
theorem dX4_change_0 : decode cX4_change 0 = .ok (.aload_n 0, 1) := by decide +kernel
theorem dX4_change_1 : decode cX4_change 1 = .ok (.iload_n 1, 1) := by decide +kernel
theorem dX4_change_2 : decode cX4_change 2 = .ok (.invokevirtual 36, 3) := by decide +kernel
theorem kX4_36 : zLk RX4 36 yX4_hasPlace := Or.inl (gt_of 300 (by decide +kernel) rfl)
theorem vX4_hasPlace : zMi yX4_hasPlace := ⟨gt_of 301 (by decide +kernel) rfl, gt_of 302 (by decide +kernel) rfl⟩
theorem dX4_change_5 : decode cX4_change 5 = .ok (.ifCond .ne 4, 3) := by decide +kernel
theorem dX4_change_9 : decode cX4_change 9 = .ok (.aload_n 0, 1) := by decide +kernel
theorem dX4_change_10 : decode cX4_change 10 = .ok (.getfield 22, 3) := by decide +kernel
theorem fX4_22 : zFld RX4 22 4 2 := ⟨RX4, TX4, 5, rfl, inX4, by decide, rfl, Or.inl (gt_of 182 (by decide +kernel) rfl)⟩
theorem dX4_change_13 : decode cX4_change 13 = .ok (.lookupswitch 49 #[(0, 27), (1, 38)], 27) := by decide +kernel
theorem dX4_change_40 : decode cX4_change 40 = .ok (.aload_n 0, 1) := by decide +kernel
theorem dX4_change_41 : decode cX4_change 41 = .ok (.getfield 28, 3) := by decide +kernel
theorem dX4_change_44 : decode cX4_change 44 = .ok (.iload_n 1, 1) := by decide +kernel
theorem dX4_change_45 : decode cX4_change 45 = .ok (.iload_n 2, 1) := by decide +kernel
theorem dX4_change_46 : decode cX4_change 46 = .ok (.i2b, 1) := by decide +kernel
theorem dX4_change_47 : decode cX4_change 47 = .ok (.iastore, 1) := by decide +kernel
theorem dX4_change_48 : decode cX4_change 48 = .ok (.goto 21, 3) := by decide +kernel
theorem dX4_change_69 : decode cX4_change 69 = .ok (.return_, 1) := by decide +kernel
theorem dX4_change_51 : decode cX4_change 51 = .ok (.aload_n 0, 1) := by decide +kernel
theorem dX4_change_52 : decode cX4_change 52 = .ok (.getfield 28, 3) := by decide +kernel
theorem dX4_change_55 : decode cX4_change 55 = .ok (.iload_n 1, 1) := by decide +kernel
theorem dX4_change_56 : decode cX4_change 56 = .ok (.iload_n 2, 1) := by decide +kernel
theorem dX4_change_57 : decode cX4_change 57 = .ok (.i2s, 1) := by decide +kernel
theorem dX4_change_58 : decode cX4_change 58 = .ok (.iastore, 1) := by decide +kernel
theorem dX4_change_59 : decode cX4_change 59 = .ok (.goto 10, 3) := by decide +kernel
theorem dX4_change_62 : decode cX4_change 62 = .ok (.aload_n 0, 1) := by decide +kernel
theorem dX4_change_63 : decode cX4_change 63 = .ok (.getfield 28, 3) := by decide +kernel
theorem dX4_change_66 : decode cX4_change 66 = .ok (.iload_n 1, 1) := by decide +kernel
theorem dX4_change_67 : decode cX4_change 67 = .ok (.iload_n 2, 1) := by decide +kernel
theorem dX4_change_68 : decode cX4_change 68 = .ok (.iastore, 1) := by decide +kernel
theorem dX4_change_8 : decode cX4_change 8 = .ok (.return_, 1) := by decide +kernel
set_option maxRecDepth 100000 in
theorem c_X4_change (l : Launch) (D : va_G) (cy : Nat → Nat) (n : Nat) (ad : Nat → Nat) (F : Nat → va_E) (sz : Nat) (k : Nat) (sf : Shf) (hk : k + 3 ≤ n) (hR : RSh ad cy k F sf) (i v : Int32) : Met l yX4_change (zw yX4_change cX4_change 3 none) (rmL 1) (zPc D cy n ad F sz [.ref (ad k), .int i, .int v]) (va_Qv (fun F1 => F1 = va_up F (k + 2) (oInts cy 100 (if bPlace sf.2.2.2.1 i then upd sf.2.2.2.2 (iN i) (sNar sf.2.2.1 v) else sf.2.2.2.2))) (zB D n ad) (zA n ad sz)) 0 0 (zA n ad sz) := by
  refine zmet (by decide +kernel) (Nat.le_of_ble_eq_true rfl) (fun p e s m args below meth c ls hC hsz hZ hA hr hlocks hnm hl => ?_)
  have hC : zC p m c cX4_change 3 s args RX4 D cy := hC
  have hx := hC.1.1
  have hb := hC.1.2.1
  have hl : lv_has ls 3 [(0, .ref (ad k)), (1, .int i), (2, .int v)] := hl
  refine lv_aload_n hx hb dX4_change_0 rfl (lv_at hl 0 rfl) ?_
  refine lv_iload_n hx hb dX4_change_1 rfl (lv_at hl 1 rfl) ?_
  refine zgoi hZ hA (zrunV (As := [.int i]) (rest := []) (k := k) hC hZ (c_X4_hasPlace l D cy n ad F s.heap.size k sf hk hR i) mX4_hasPlace vX4_hasPlace kX4_36 (zRj_of rfl) (by omega) hR.1 rfl rfl hl.1 rfl (Nat.le_of_ble_eq_true rfl) dX4_change_2 ⟨Nat.le_refl _, Nat.le_refl _⟩) (fun r_2 F_1 hp_3 H locs hZ => ?_)
  obtain ⟨hp_3, rfl⟩ := hp_3
  by_cases b_4 : bPlace sf.2.2.2.1 i
  · rw [if_pos b_4] at hp_3
    subst hp_3
    refine lv_if_ne (tgt := 9) hx hb dX4_change_5 (by decide) (fun _ => ?_) (fun h => absurd (show (1 : Int32) = 0 from h) (by decide))
    refine lv_aload_n hx hb dX4_change_9 rfl (lv_at hl 0 rfl) ?_
    refine zget hC hZ fX4_22 (by omega) hR.1 rfl dX4_change_10 ?_
    by_cases c_13_0 : sf.2.2.1 = 0
    · refine lv_lookup (off := 27) (tgt := 40) hx hb dX4_change_13 (by decide) (by rw [c_13_0]; decide) (by decide) ?_
      refine lv_aload_n hx hb dX4_change_40 rfl (lv_at hl 0 rfl) ?_
      refine zget hC hZ fX4_28 (by omega) hR.1 rfl dX4_change_41 ?_
      refine lv_iload_n hx hb dX4_change_44 rfl (lv_at hl 1 rfl) ?_
      refine lv_iload_n hx hb dX4_change_45 rfl (lv_at hl 2 rfl) ?_
      refine lv_i2b (v := v.toInt8.toInt32) hx hb dX4_change_46 rfl ?_
      refine ziast hC hZ (by omega) hR.2.2 (iN_at (N := 100) b_4.1 b_4.2.2 rfl).1 (iN_at (N := 100) b_4.1 b_4.2.2 rfl).2 (by decide) dX4_change_47 (fun F_5 hF_6 H locs hZ => ?_)
      have h_7 := zeq hF_6
      refine lv_goto (tgt := 69) hx hb dX4_change_48 (by decide) ?_
      have hq_8 : F_5 = va_up F (k + 2) (oInts cy 100 (if bPlace sf.2.2.2.1 i then upd sf.2.2.2.2 (iN i) (sNar sf.2.2.1 v) else sf.2.2.2.2)) := by rw [if_pos b_4, hF_6]; simp [sNar, b_4, c_13_0]
      exact zvret hC hZ hr hlocks hq_8 dX4_change_69
    · by_cases c_13_1 : sf.2.2.1 = 1
      · refine lv_lookup (off := 38) (tgt := 51) hx hb dX4_change_13 (by decide) (by rw [c_13_1]; decide) (by decide) ?_
        refine lv_aload_n hx hb dX4_change_51 rfl (lv_at hl 0 rfl) ?_
        refine zget hC hZ fX4_28 (by omega) hR.1 rfl dX4_change_52 ?_
        refine lv_iload_n hx hb dX4_change_55 rfl (lv_at hl 1 rfl) ?_
        refine lv_iload_n hx hb dX4_change_56 rfl (lv_at hl 2 rfl) ?_
        refine lv_i2s (v := v.toInt16.toInt32) hx hb dX4_change_57 rfl ?_
        refine ziast hC hZ (by omega) hR.2.2 (iN_at (N := 100) b_4.1 b_4.2.2 rfl).1 (iN_at (N := 100) b_4.1 b_4.2.2 rfl).2 (by decide) dX4_change_58 (fun F_9 hF_10 H locs hZ => ?_)
        have h_11 := zeq hF_10
        refine lv_goto (tgt := 69) hx hb dX4_change_59 (by decide) ?_
        have hq_12 : F_9 = va_up F (k + 2) (oInts cy 100 (if bPlace sf.2.2.2.1 i then upd sf.2.2.2.2 (iN i) (sNar sf.2.2.1 v) else sf.2.2.2.2)) := by rw [if_pos b_4, hF_10]; simp [sNar, b_4, c_13_0, c_13_1]
        exact zvret hC hZ hr hlocks hq_12 dX4_change_69
      · refine lv_lookup (off := 49) (tgt := 62) hx hb dX4_change_13 (by decide) ((lv_osw (k := 0) c_13_0 rfl).trans ((lv_osw (k := 1) c_13_1 rfl).trans rfl)) (by decide) ?_
        refine lv_aload_n hx hb dX4_change_62 rfl (lv_at hl 0 rfl) ?_
        refine zget hC hZ fX4_28 (by omega) hR.1 rfl dX4_change_63 ?_
        refine lv_iload_n hx hb dX4_change_66 rfl (lv_at hl 1 rfl) ?_
        refine lv_iload_n hx hb dX4_change_67 rfl (lv_at hl 2 rfl) ?_
        refine ziast hC hZ (by omega) hR.2.2 (iN_at (N := 100) b_4.1 b_4.2.2 rfl).1 (iN_at (N := 100) b_4.1 b_4.2.2 rfl).2 (by decide) dX4_change_68 (fun F_13 hF_14 H locs hZ => ?_)
        have h_15 := zeq hF_14
        have hq_16 : F_13 = va_up F (k + 2) (oInts cy 100 (if bPlace sf.2.2.2.1 i then upd sf.2.2.2.2 (iN i) (sNar sf.2.2.1 v) else sf.2.2.2.2)) := by rw [if_pos b_4, hF_14]; simp [sNar, b_4, c_13_0, c_13_1]
        exact zvret hC hZ hr hlocks hq_16 dX4_change_69
  · rw [if_neg b_4] at hp_3
    subst hp_3
    refine lv_if_ne (tgt := 9) hx hb dX4_change_5 (by decide) (fun h => absurd (show (0 : Int32) = 0 by decide) h) (fun _ => ?_)
    have hq_17 : F = va_up F (k + 2) (oInts cy 100 (if bPlace sf.2.2.2.1 i then upd sf.2.2.2.2 (iN i) (sNar sf.2.2.1 v) else sf.2.2.2.2)) := by rw [if_neg b_4]; exact zself hR.2.2
    exact zvret hC hZ hr hlocks hq_17 dX4_change_8

theorem mX4_at : zMd yX4_at cX4_at 2 (some .int) 1 := ⟨by decide +kernel, gt_of 299 (by decide +kernel) rfl, gt_of 49 (by decide +kernel) rfl, by decide⟩
theorem dX4_at_0 : decode cX4_at 0 = .ok (.aload_n 0, 1) := by decide +kernel
theorem dX4_at_1 : decode cX4_at 1 = .ok (.iload_n 1, 1) := by decide +kernel
theorem dX4_at_2 : decode cX4_at 2 = .ok (.invokevirtual 36, 3) := by decide +kernel
theorem dX4_at_5 : decode cX4_at 5 = .ok (.ifCond .eq 12, 3) := by decide +kernel
theorem dX4_at_8 : decode cX4_at 8 = .ok (.aload_n 0, 1) := by decide +kernel
theorem dX4_at_9 : decode cX4_at 9 = .ok (.getfield 28, 3) := by decide +kernel
theorem dX4_at_12 : decode cX4_at 12 = .ok (.iload_n 1, 1) := by decide +kernel
theorem dX4_at_13 : decode cX4_at 13 = .ok (.iaload, 1) := by decide +kernel
theorem dX4_at_14 : decode cX4_at 14 = .ok (.goto 4, 3) := by decide +kernel
theorem dX4_at_18 : decode cX4_at 18 = .ok (.ireturn, 1) := by decide +kernel
theorem dX4_at_17 : decode cX4_at 17 = .ok (.iconst 0, 1) := by decide +kernel
set_option maxRecDepth 100000 in
theorem c_X4_at (l : Launch) (D : va_G) (cy : Nat → Nat) (n : Nat) (ad : Nat → Nat) (F : Nat → va_E) (sz : Nat) (k : Nat) (sf : Shf) (hk : k + 3 ≤ n) (hR : RSh ad cy k F sf) (i : Int32) : Met l yX4_at (zw yX4_at cX4_at 2 (some .int)) (rmL 1) (zPc D cy n ad F sz [.ref (ad k), .int i]) (va_Qi (fun r F1 => r = sAt sf.2.2.2.1 sf.2.2.2.2 i ∧ F = F1) (zB D n ad) (zA n ad sz)) 0 0 (zA n ad sz) := by
  refine zmet (by decide +kernel) (Nat.le_of_ble_eq_true rfl) (fun p e s m args below meth c ls hC hsz hZ hA hr hlocks hnm hl => ?_)
  have hC : zC p m c cX4_at 2 s args RX4 D cy := hC
  have hx := hC.1.1
  have hb := hC.1.2.1
  have hl : lv_has ls 2 [(0, .ref (ad k)), (1, .int i)] := hl
  refine lv_aload_n hx hb dX4_at_0 rfl (lv_at hl 0 rfl) ?_
  refine lv_iload_n hx hb dX4_at_1 rfl (lv_at hl 1 rfl) ?_
  refine zgoi hZ hA (zrunV (As := [.int i]) (rest := []) (k := k) hC hZ (c_X4_hasPlace l D cy n ad F s.heap.size k sf hk hR i) mX4_hasPlace vX4_hasPlace kX4_36 (zRj_of rfl) (by omega) hR.1 rfl rfl hl.1 rfl (Nat.le_of_ble_eq_true rfl) dX4_at_2 ⟨Nat.le_refl _, Nat.le_refl _⟩) (fun r_2 F_1 hp_3 H locs hZ => ?_)
  obtain ⟨hp_3, rfl⟩ := hp_3
  by_cases b_4 : bPlace sf.2.2.2.1 i
  · rw [if_pos b_4] at hp_3
    subst hp_3
    refine lv_if_eq (tgt := 17) hx hb dX4_at_5 (by decide) (fun h => absurd (show (1 : Int32) = 0 from h) (by decide)) (fun _ => ?_)
    refine lv_aload_n hx hb dX4_at_8 rfl (lv_at hl 0 rfl) ?_
    refine zget hC hZ fX4_28 (by omega) hR.1 rfl dX4_at_9 ?_
    refine lv_iload_n hx hb dX4_at_12 rfl (lv_at hl 1 rfl) ?_
    refine ziald hC hZ (by omega) hR.2.2 (iN_at (N := 100) b_4.1 b_4.2.2 rfl).1 (iN_at (N := 100) b_4.1 b_4.2.2 rfl).2 (by decide) dX4_at_13 ?_
    refine lv_goto (tgt := 18) hx hb dX4_at_14 (by decide) ?_
    have hq_5 : (sf.2.2.2.2 (iN i)) = sAt sf.2.2.2.1 sf.2.2.2.2 i := by first | rfl | simp [sAt, b_4] | (simp only [sAt]; simp [b_4])
    exact zireti hC hZ hr hlocks ⟨hq_5, rfl⟩ dX4_at_18
  · rw [if_neg b_4] at hp_3
    subst hp_3
    refine lv_if_eq (tgt := 17) hx hb dX4_at_5 (by decide) (fun _ => ?_) (fun h => absurd (show (0 : Int32) = 0 by decide) h)
    refine lv_iconst (v := 0) hx hb dX4_at_17 (by decide) ?_
    have hq_6 : (0 : Int32) = sAt sf.2.2.2.1 sf.2.2.2.2 i := by first | rfl | simp [sAt, b_4] | (simp only [sAt]; simp [b_4])
    exact zireti hC hZ hr hlocks ⟨hq_6, rfl⟩ dX4_at_18

theorem mX4_tells : zMd yX4_tells cX4_tells 2 (some .boolean) 1 := ⟨by decide +kernel, gt_of 483 (by decide +kernel) rfl, gt_of 49 (by decide +kernel) rfl, by decide⟩
theorem dX4_tells_0 : decode cX4_tells 0 = .ok (.aload_n 0, 1) := by decide +kernel
theorem dX4_tells_1 : decode cX4_tells 1 = .ok (.getfield 22, 3) := by decide +kernel
theorem dX4_tells_4 : decode cX4_tells 4 = .ok (.lookupswitch 61 #[(0, 28), (1, 44)], 28) := by decide +kernel
theorem dX4_tells_32 : decode cX4_tells 32 = .ok (.aload_n 0, 1) := by decide +kernel
theorem dX4_tells_33 : decode cX4_tells 33 = .ok (.iload_n 1, 1) := by decide +kernel
theorem dX4_tells_34 : decode cX4_tells 34 = .ok (.invokevirtual 40, 3) := by decide +kernel
theorem kX4_40 : zLk RX4 40 yX4_at := Or.inl (gt_of 484 (by decide +kernel) rfl)
theorem vX4_at : zMi yX4_at := ⟨gt_of 297 (by decide +kernel) rfl, gt_of 298 (by decide +kernel) rfl⟩
theorem dX4_tells_37 : decode cX4_tells 37 = .ok (.bipush (-128), 2) := by decide +kernel
theorem dX4_tells_39 : decode cX4_tells 39 = .ok (.if_icmp .eq 7, 3) := by decide +kernel
theorem dX4_tells_46 : decode cX4_tells 46 = .ok (.iconst 0, 1) := by decide +kernel
theorem dX4_tells_47 : decode cX4_tells 47 = .ok (.ireturn, 1) := by decide +kernel
theorem dX4_tells_42 : decode cX4_tells 42 = .ok (.iconst 1, 1) := by decide +kernel
theorem dX4_tells_43 : decode cX4_tells 43 = .ok (.goto 4, 3) := by decide +kernel
theorem dX4_tells_48 : decode cX4_tells 48 = .ok (.aload_n 0, 1) := by decide +kernel
theorem dX4_tells_49 : decode cX4_tells 49 = .ok (.iload_n 1, 1) := by decide +kernel
theorem dX4_tells_50 : decode cX4_tells 50 = .ok (.invokevirtual 40, 3) := by decide +kernel
theorem dX4_tells_53 : decode cX4_tells 53 = .ok (.sipush (-32768), 3) := by decide +kernel
theorem dX4_tells_56 : decode cX4_tells 56 = .ok (.if_icmp .eq 7, 3) := by decide +kernel
theorem dX4_tells_63 : decode cX4_tells 63 = .ok (.iconst 0, 1) := by decide +kernel
theorem dX4_tells_64 : decode cX4_tells 64 = .ok (.ireturn, 1) := by decide +kernel
theorem dX4_tells_59 : decode cX4_tells 59 = .ok (.iconst 1, 1) := by decide +kernel
theorem dX4_tells_60 : decode cX4_tells 60 = .ok (.goto 4, 3) := by decide +kernel
theorem dX4_tells_65 : decode cX4_tells 65 = .ok (.aload_n 0, 1) := by decide +kernel
theorem dX4_tells_66 : decode cX4_tells 66 = .ok (.iload_n 1, 1) := by decide +kernel
theorem dX4_tells_67 : decode cX4_tells 67 = .ok (.invokevirtual 40, 3) := by decide +kernel
theorem dX4_tells_70 : decode cX4_tells 70 = .ok (.ldc 44, 2) := by decide +kernel
theorem qX4_44 : Cond.constant RX4 44 (-2147483648) ∈ gtbl := gt_of 485 (by decide +kernel) rfl
theorem dX4_tells_72 : decode cX4_tells 72 = .ok (.if_icmp .eq 7, 3) := by decide +kernel
theorem dX4_tells_79 : decode cX4_tells 79 = .ok (.iconst 0, 1) := by decide +kernel
theorem dX4_tells_80 : decode cX4_tells 80 = .ok (.ireturn, 1) := by decide +kernel
theorem dX4_tells_75 : decode cX4_tells 75 = .ok (.iconst 1, 1) := by decide +kernel
theorem dX4_tells_76 : decode cX4_tells 76 = .ok (.goto 4, 3) := by decide +kernel
set_option maxRecDepth 100000 in
theorem c_X4_tells (l : Launch) (D : va_G) (cy : Nat → Nat) (n : Nat) (ad : Nat → Nat) (F : Nat → va_E) (sz : Nat) (k : Nat) (sf : Shf) (hk : k + 3 ≤ n) (hR : RSh ad cy k F sf) (i : Int32) : Met l yX4_tells (zw yX4_tells cX4_tells 2 (some .boolean)) (rmL 2) (zPc D cy n ad F sz [.ref (ad k), .int i]) (va_Qi (fun r F1 => r = (if bTells sf.2.2.1 sf.2.2.2.1 sf.2.2.2.2 i then 1 else 0) ∧ F = F1) (zB D n ad) (zA n ad sz)) 0 0 (zA n ad sz) := by
  refine zmet (by decide +kernel) (Nat.le_of_ble_eq_true rfl) (fun p e s m args below meth c ls hC hsz hZ hA hr hlocks hnm hl => ?_)
  have hC : zC p m c cX4_tells 2 s args RX4 D cy := hC
  have hx := hC.1.1
  have hb := hC.1.2.1
  have hl : lv_has ls 2 [(0, .ref (ad k)), (1, .int i)] := hl
  refine lv_aload_n hx hb dX4_tells_0 rfl (lv_at hl 0 rfl) ?_
  refine zget hC hZ fX4_22 (by omega) hR.1 rfl dX4_tells_1 ?_
  by_cases c_4_0 : sf.2.2.1 = 0
  · refine lv_lookup (off := 28) (tgt := 32) hx hb dX4_tells_4 (by decide) (by rw [c_4_0]; decide) (by decide) ?_
    refine lv_aload_n hx hb dX4_tells_32 rfl (lv_at hl 0 rfl) ?_
    refine lv_iload_n hx hb dX4_tells_33 rfl (lv_at hl 1 rfl) ?_
    refine zgoi hZ hA (zrunV (As := [.int i]) (rest := []) (k := k) hC hZ (c_X4_at l D cy n ad F s.heap.size k sf hk hR i) mX4_at vX4_at kX4_40 (zRj_of rfl) (by omega) hR.1 rfl rfl hl.1 rfl (Nat.le_of_ble_eq_true rfl) dX4_tells_34 ⟨Nat.le_refl _, Nat.le_refl _⟩) (fun r_2 F_1 hp_3 H locs hZ => ?_)
    obtain ⟨rfl, rfl⟩ := hp_3
    refine lv_bipush (v := (-128)) hx hb dX4_tells_37 (by decide) ?_
    refine lv_icmp_eq (tgt := 46) hx hb dX4_tells_39 (by decide) (fun c_39 => ?_) (fun c_39 => ?_)
    · refine lv_iconst (v := 0) hx hb dX4_tells_46 (by decide) ?_
      have hq_4 : (0 : Int32) = if bTells sf.2.2.1 sf.2.2.2.1 sf.2.2.2.2 i then 1 else 0 := by simp [sLow, c_4_0, c_39]
      exact zbreti hC hZ hr hlocks rfl ⟨hq_4, rfl⟩ dX4_tells_47
    · refine lv_iconst (v := 1) hx hb dX4_tells_42 (by decide) ?_
      refine lv_goto (tgt := 47) hx hb dX4_tells_43 (by decide) ?_
      have hq_5 : (1 : Int32) = if bTells sf.2.2.1 sf.2.2.2.1 sf.2.2.2.2 i then 1 else 0 := by simp [sLow, c_4_0, c_39]
      exact zbreti hC hZ hr hlocks rfl ⟨hq_5, rfl⟩ dX4_tells_47
  · by_cases c_4_1 : sf.2.2.1 = 1
    · refine lv_lookup (off := 44) (tgt := 48) hx hb dX4_tells_4 (by decide) (by rw [c_4_1]; decide) (by decide) ?_
      refine lv_aload_n hx hb dX4_tells_48 rfl (lv_at hl 0 rfl) ?_
      refine lv_iload_n hx hb dX4_tells_49 rfl (lv_at hl 1 rfl) ?_
      refine zgoi hZ hA (zrunV (As := [.int i]) (rest := []) (k := k) hC hZ (c_X4_at l D cy n ad F s.heap.size k sf hk hR i) mX4_at vX4_at kX4_40 (zRj_of rfl) (by omega) hR.1 rfl rfl hl.1 rfl (Nat.le_of_ble_eq_true rfl) dX4_tells_50 ⟨Nat.le_refl _, Nat.le_refl _⟩) (fun r_7 F_6 hp_8 H locs hZ => ?_)
      obtain ⟨rfl, rfl⟩ := hp_8
      refine lv_sipush (v := (-32768)) hx hb dX4_tells_53 (by decide) ?_
      refine lv_icmp_eq (tgt := 63) hx hb dX4_tells_56 (by decide) (fun c_56 => ?_) (fun c_56 => ?_)
      · refine lv_iconst (v := 0) hx hb dX4_tells_63 (by decide) ?_
        have hq_9 : (0 : Int32) = if bTells sf.2.2.1 sf.2.2.2.1 sf.2.2.2.2 i then 1 else 0 := by simp [sLow, c_4_0, c_4_1, c_56]
        exact zbreti hC hZ hr hlocks rfl ⟨hq_9, rfl⟩ dX4_tells_64
      · refine lv_iconst (v := 1) hx hb dX4_tells_59 (by decide) ?_
        refine lv_goto (tgt := 64) hx hb dX4_tells_60 (by decide) ?_
        have hq_10 : (1 : Int32) = if bTells sf.2.2.1 sf.2.2.2.1 sf.2.2.2.2 i then 1 else 0 := by simp [sLow, c_4_0, c_4_1, c_56]
        exact zbreti hC hZ hr hlocks rfl ⟨hq_10, rfl⟩ dX4_tells_64
    · refine lv_lookup (off := 61) (tgt := 65) hx hb dX4_tells_4 (by decide) ((lv_osw (k := 0) c_4_0 rfl).trans ((lv_osw (k := 1) c_4_1 rfl).trans rfl)) (by decide) ?_
      refine lv_aload_n hx hb dX4_tells_65 rfl (lv_at hl 0 rfl) ?_
      refine lv_iload_n hx hb dX4_tells_66 rfl (lv_at hl 1 rfl) ?_
      refine zgoi hZ hA (zrunV (As := [.int i]) (rest := []) (k := k) hC hZ (c_X4_at l D cy n ad F s.heap.size k sf hk hR i) mX4_at vX4_at kX4_40 (zRj_of rfl) (by omega) hR.1 rfl rfl hl.1 rfl (Nat.le_of_ble_eq_true rfl) dX4_tells_67 ⟨Nat.le_refl _, Nat.le_refl _⟩) (fun r_12 F_11 hp_13 H locs hZ => ?_)
      obtain ⟨rfl, rfl⟩ := hp_13
      refine lv_ldc (v := (-2147483648)) hx hb hC.1.2.2.2.1 (hC.1.2.2.2.2 _ qX4_44) dX4_tells_70 ?_
      refine lv_icmp_eq (tgt := 79) hx hb dX4_tells_72 (by decide) (fun c_72 => ?_) (fun c_72 => ?_)
      · refine lv_iconst (v := 0) hx hb dX4_tells_79 (by decide) ?_
        have hq_14 : (0 : Int32) = if bTells sf.2.2.1 sf.2.2.2.1 sf.2.2.2.2 i then 1 else 0 := by simp [sLow, c_4_0, c_4_1, c_72]
        exact zbreti hC hZ hr hlocks rfl ⟨hq_14, rfl⟩ dX4_tells_80
      · refine lv_iconst (v := 1) hx hb dX4_tells_75 (by decide) ?_
        refine lv_goto (tgt := 80) hx hb dX4_tells_76 (by decide) ?_
        have hq_15 : (1 : Int32) = if bTells sf.2.2.1 sf.2.2.2.1 sf.2.2.2.2 i then 1 else 0 := by simp [sLow, c_4_0, c_4_1, c_72]
        exact zbreti hC hZ hr hlocks rfl ⟨hq_15, rfl⟩ dX4_tells_80
