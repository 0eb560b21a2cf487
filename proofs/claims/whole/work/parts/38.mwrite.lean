theorem one0 {x : Int32} (h : bIn x 0 1) (n1 : ¬ x = 1) : x = 0 := by
  have a := i32le.mp h.1
  have b := i32le.mp h.2
  have z0 : (0 : Int32).toInt = 0 := rfl
  have z1 : (1 : Int32).toInt = 1 := rfl
  have e1 : ¬ x.toInt = 1 := lv_neT (k := 1) n1 rfl
  exact Int32.toInt_inj.mp (by omega)
theorem mX7_keep : zMd yX7_keep cX7_keep 5 (some .int) 4 := ⟨by decide +kernel, gt_of 1104 (by decide +kernel) rfl, gt_of 52 (by decide +kernel) rfl, by decide⟩
theorem dX7_keep_0 : decode cX7_keep 0 = .ok (.aload_n 0, 1) := by decide +kernel
theorem dX7_keep_1 : decode cX7_keep 1 = .ok (.iconst 0, 1) := by decide +kernel
theorem dX7_keep_2 : decode cX7_keep 2 = .ok (.putfield 57, 3) := by decide +kernel
theorem dX7_keep_5 : decode cX7_keep 5 = .ok (.iload_n 1, 1) := by decide +kernel
theorem dX7_keep_6 : decode cX7_keep 6 = .ok (.i2l, 1) := by decide +kernel
theorem dX7_keep_7 : decode cX7_keep 7 = .ok (.lconst 0, 1) := by decide +kernel
theorem dX7_keep_8 : decode cX7_keep 8 = .ok (.ldc2_w 138, 3) := by decide +kernel
theorem dX7_keep_11 : decode cX7_keep 11 = .ok (.invokestatic 63, 3) := by decide +kernel
theorem dX7_keep_14 : decode cX7_keep 14 = .ok (.ifCond .eq 43, 3) := by decide +kernel
theorem dX7_keep_17 : decode cX7_keep 17 = .ok (.iload_n 2, 1) := by decide +kernel
theorem dX7_keep_18 : decode cX7_keep 18 = .ok (.i2l, 1) := by decide +kernel
theorem dX7_keep_19 : decode cX7_keep 19 = .ok (.lconst 0, 1) := by decide +kernel
theorem dX7_keep_20 : decode cX7_keep 20 = .ok (.lconst 1, 1) := by decide +kernel
theorem dX7_keep_21 : decode cX7_keep 21 = .ok (.invokestatic 63, 3) := by decide +kernel
theorem dX7_keep_24 : decode cX7_keep 24 = .ok (.ifCond .eq 33, 3) := by decide +kernel
theorem dX7_keep_27 : decode cX7_keep 27 = .ok (.iload_n 2, 1) := by decide +kernel
theorem dX7_keep_28 : decode cX7_keep 28 = .ok (.iconst 1, 1) := by decide +kernel
theorem dX7_keep_29 : decode cX7_keep 29 = .ok (.if_icmp .ne 30, 3) := by decide +kernel
theorem dX7_keep_59 : decode cX7_keep 59 = .ok (.aload_n 0, 1) := by decide +kernel
theorem dX7_keep_60 : decode cX7_keep 60 = .ok (.getfield 35, 3) := by decide +kernel
theorem dX7_keep_63 : decode cX7_keep 63 = .ok (.iload_n 1, 1) := by decide +kernel
theorem dX7_keep_64 : decode cX7_keep 64 = .ok (.iload_n 2, 1) := by decide +kernel
theorem dX7_keep_65 : decode cX7_keep 65 = .ok (.iastore, 1) := by decide +kernel
theorem dX7_keep_66 : decode cX7_keep 66 = .ok (.aload_n 0, 1) := by decide +kernel
theorem dX7_keep_67 : decode cX7_keep 67 = .ok (.getfield 38, 3) := by decide +kernel
theorem dX7_keep_70 : decode cX7_keep 70 = .ok (.iload_n 1, 1) := by decide +kernel
theorem dX7_keep_71 : decode cX7_keep 71 = .ok (.iload_n 3, 1) := by decide +kernel
theorem dX7_keep_72 : decode cX7_keep 72 = .ok (.iastore, 1) := by decide +kernel
theorem dX7_keep_73 : decode cX7_keep 73 = .ok (.aload_n 0, 1) := by decide +kernel
theorem dX7_keep_74 : decode cX7_keep 74 = .ok (.getfield 41, 3) := by decide +kernel
theorem dX7_keep_77 : decode cX7_keep 77 = .ok (.iload_n 1, 1) := by decide +kernel
theorem dX7_keep_78 : decode cX7_keep 78 = .ok (.iload 4, 2) := by decide +kernel
theorem dX7_keep_80 : decode cX7_keep 80 = .ok (.iastore, 1) := by decide +kernel
theorem dX7_keep_81 : decode cX7_keep 81 = .ok (.iconst 0, 1) := by decide +kernel
theorem dX7_keep_82 : decode cX7_keep 82 = .ok (.ireturn, 1) := by decide +kernel
theorem dX7_keep_32 : decode cX7_keep 32 = .ok (.iload_n 3, 1) := by decide +kernel
theorem dX7_keep_33 : decode cX7_keep 33 = .ok (.i2l, 1) := by decide +kernel
theorem dX7_keep_34 : decode cX7_keep 34 = .ok (.lconst 0, 1) := by decide +kernel
theorem dX7_keep_35 : decode cX7_keep 35 = .ok (.ldc2_w 138, 3) := by decide +kernel
theorem dX7_keep_38 : decode cX7_keep 38 = .ok (.invokestatic 63, 3) := by decide +kernel
theorem dX7_keep_41 : decode cX7_keep 41 = .ok (.ifCond .eq 16, 3) := by decide +kernel
theorem dX7_keep_44 : decode cX7_keep 44 = .ok (.iload 4, 2) := by decide +kernel
theorem dX7_keep_46 : decode cX7_keep 46 = .ok (.i2l, 1) := by decide +kernel
theorem dX7_keep_47 : decode cX7_keep 47 = .ok (.lconst 0, 1) := by decide +kernel
theorem dX7_keep_48 : decode cX7_keep 48 = .ok (.ldc2_w 210, 3) := by decide +kernel
theorem dX7_keep_51 : decode cX7_keep 51 = .ok (.invokestatic 63, 3) := by decide +kernel
theorem dX7_keep_54 : decode cX7_keep 54 = .ok (.ifCond .ne 5, 3) := by decide +kernel
theorem dX7_keep_57 : decode cX7_keep 57 = .ok (.iconst (-1), 1) := by decide +kernel
theorem dX7_keep_58 : decode cX7_keep 58 = .ok (.ireturn, 1) := by decide +kernel
set_option maxRecDepth 100000 in
theorem c_X7_keep (l : Launch) (D : va_G) (cy : Nat → Nat) (n : Nat) (ad : Nat → Nat) (F : Nat → va_E) (sz : Nat) (th0 pic : Int32) (sc ps : Scn) (sh : Nat → Shf) (hn : 68 ≤ n) (hX : RM ad cy F th0 pic sc ps sh) (hG : gX sc ps sh) (d what k0 f0 : Int32) : Met l yX7_keep (zw yX7_keep cX7_keep 5 (some .int)) (rmL 1) (zPc D cy n ad F sz [.ref (ad 56), .int d, .int what, .int k0, .int f0]) (va_Qi (fun r F1 => r = (if bKeep d what k0 f0 then 0 else -1) ∧ RM ad cy F1 0 pic sc ps (sKeepS sh d what k0 f0) ∧ frM F F1) (zB D n ad) (zA n ad sz)) 0 0 (zA n ad sz) := by
  refine zmet (by decide +kernel) (Nat.le_of_ble_eq_true rfl) (fun p e s m args below meth c ls hC hsz hZ hA hr hlocks hnm hl => ?_)
  have hC : zC p m c cX7_keep 5 s args RX7 D cy := hC
  have hx := hC.1.1
  have hb := hC.1.2.1
  have hl : lv_has ls 5 [(0, .ref (ad 56)), (1, .int d), (2, .int what), (3, .int k0), (4, .int f0)] := hl
  obtain ⟨bs, en, u, st, kk, dw, ho, sv, ia, tk, told, pl, nu, im, hw, kd, fg, so, mn, rw0, bt, hM, h57, h58, h59, h60, h61, h62, h63, h64, h65, h66, h67, hR⟩ := hX
  have hRS := hR.2.2
  have hHW := rX_hw hR
  refine lv_aload_n hx hb dX7_keep_0 rfl (lv_at hl 0 rfl) ?_
  refine lv_iconst (v := 0) hx hb dX7_keep_1 (by decide) ?_
  refine zput (E := oModel ad sc.1 sc.2.1 sc.2.2.2.1 sc.2.2.2.2 0 bs en u st kk dw ho sv pic ia tk) hC hZ pX7_57 (zlt hn rfl) hM rfl rfl rfl (Nat.le_of_ble_eq_true rfl) dX7_keep_2 (fun F_1 hF_2 H locs hZ => ?_)
  have h_3 := zeq hF_2
  refine lv_iload_n hx hb dX7_keep_5 rfl (lv_at hl 1 rfl) ?_
  refine lv_i2l (v := (d).toInt64) hx hb dX7_keep_6 (by rfl) ?_
  refine lv_lconst (v := 0) hx hb dX7_keep_7 (by decide) ?_
  refine lv_ldc2 (v := 7) hx hb hC.1.2.2.2.1 (hC.1.2.2.2.2 _ qX7_138) dX7_keep_8 ?_
  refine zgoi hZ hA (zrunS (As := [.long ((d).toInt64), .long 0, .long 7]) (rest := []) hC hZ (c_X7_in l D cy n ad F_1 H.size d 0 7 0 7 (by decide) (by decide)) mX7_in sX7_in kX7_63 (zRj_of rfl) rfl hl.1 rfl (Nat.le_of_ble_eq_true rfl) dX7_keep_11 ⟨Nat.le_refl _, Nat.le_refl _⟩) (fun r_5 F_4 hp_6 H locs hZ => ?_)
  obtain ⟨hp_6, rfl⟩ := hp_6
  by_cases b_7 : bIn d 0 7
  · rw [if_pos b_7] at hp_6
    subst hp_6
    refine lv_if_eq (tgt := 57) hx hb dX7_keep_14 (by decide) (fun h => absurd (show (1 : Int32) = 0 from h) (by decide)) (fun _ => ?_)
    refine lv_iload_n hx hb dX7_keep_17 rfl (lv_at hl 2 rfl) ?_
    refine lv_i2l (v := (what).toInt64) hx hb dX7_keep_18 (by rfl) ?_
    refine lv_lconst (v := 0) hx hb dX7_keep_19 (by decide) ?_
    refine lv_lconst (v := 1) hx hb dX7_keep_20 (by decide) ?_
    refine zgoi hZ hA (zrunS (As := [.long ((what).toInt64), .long 0, .long 1]) (rest := []) hC hZ (c_X7_in l D cy n ad F_1 H.size what 0 1 0 1 (by decide) (by decide)) mX7_in sX7_in kX7_63 (zRj_of rfl) rfl hl.1 rfl (Nat.le_of_ble_eq_true rfl) dX7_keep_21 ⟨Nat.le_refl _, Nat.le_refl _⟩) (fun r_9 F_8 hp_10 H locs hZ => ?_)
    obtain ⟨hp_10, rfl⟩ := hp_10
    by_cases b_11 : bIn what 0 1
    · rw [if_pos b_11] at hp_10
      subst hp_10
      refine lv_if_eq (tgt := 57) hx hb dX7_keep_24 (by decide) (fun h => absurd (show (1 : Int32) = 0 from h) (by decide)) (fun _ => ?_)
      refine lv_iload_n hx hb dX7_keep_27 rfl (lv_at hl 2 rfl) ?_
      refine lv_iconst (v := 1) hx hb dX7_keep_28 (by decide) ?_
      refine lv_icmp_ne (tgt := 59) hx hb dX7_keep_29 (by decide) (fun c_29 => ?_) (fun c_29 => ?_)
      · refine lv_aload_n hx hb dX7_keep_59 rfl (lv_at hl 0 rfl) ?_
        refine zget hC hZ fX7_35 (zlt hn rfl) h_3 rfl dX7_keep_60 ?_
        refine lv_iload_n hx hb dX7_keep_63 rfl (lv_at hl 1 rfl) ?_
        refine lv_iload_n hx hb dX7_keep_64 rfl (lv_at hl 2 rfl) ?_
        have hd := bSh_i (bIn7.mp b_7)
        refine ziast hC hZ (zlt hn rfl) (zne hF_2 (by decide) h61) hd.1 hd.2 (by decide) dX7_keep_65 (fun F_12 hF_13 H locs hZ => ?_)
        have h_14 := zeq hF_13
        refine lv_aload_n hx hb dX7_keep_66 rfl (lv_at hl 0 rfl) ?_
        refine zget hC hZ fX7_38 (zlt hn rfl) (zne hF_13 (by decide) h_3) rfl dX7_keep_67 ?_
        refine lv_iload_n hx hb dX7_keep_70 rfl (lv_at hl 1 rfl) ?_
        refine lv_iload_n hx hb dX7_keep_71 rfl (lv_at hl 3 rfl) ?_
        refine ziast hC hZ (zlt hn rfl) (zne hF_13 (by decide) (zne hF_2 (by decide) h62)) hd.1 hd.2 (by decide) dX7_keep_72 (fun F_15 hF_16 H locs hZ => ?_)
        have h_17 := zeq hF_16
        refine lv_aload_n hx hb dX7_keep_73 rfl (lv_at hl 0 rfl) ?_
        refine zget hC hZ fX7_41 (zlt hn rfl) (zne hF_16 (by decide) (zne hF_13 (by decide) h_3)) rfl dX7_keep_74 ?_
        refine lv_iload_n hx hb dX7_keep_77 rfl (lv_at hl 1 rfl) ?_
        refine lv_iload hx hb dX7_keep_78 (lv_at hl 4 rfl) ?_
        refine ziast hC hZ (zlt hn rfl) (zne hF_16 (by decide) (zne hF_13 (by decide) (zne hF_2 (by decide) h63))) hd.1 hd.2 (by decide) dX7_keep_80 (fun F_18 hF_19 H locs hZ => ?_)
        have h_20 := zeq hF_19
        refine lv_iconst (v := 0) hx hb dX7_keep_81 (by decide) ?_
        have hq : (0 : Int32) = if bKeep d what k0 f0 then 0 else -1 := by exact (if_pos (⟨⟨bIn7.mp b_7, b_11⟩, Or.inl (one0 b_11 c_29)⟩ : bKeep d what k0 f0)).symm
        have hw2 : what = 0 ∨ what = 1 := by by_cases e : what = 1; exact Or.inr e; exact Or.inl (one0 b_11 e)
        have hfm_21 : frM F F_18 := (frM_up (frM_up (frM_up (frM_up frM_rf hF_2 (by decide) (by decide)) hF_13 (by decide) (by decide)) hF_16 (by decide) (by decide)) hF_19 (by decide) (by decide))
        exact zireti hC hZ hr hlocks ⟨hq, (by unfold sKeepS; rw [if_pos (⟨⟨bIn7.mp b_7, b_11⟩, Or.inl (one0 b_11 c_29)⟩ : bKeep d what k0 f0)]; exact ⟨⟨bs, en, u, st, kk, dw, ho, sv, ia, tk, told, pl, nu, im, upd hw (iN d) what, upd kd (iN d) k0, upd fg (iN d) f0, so, mn, rw0, bt, (zne hF_19 (by decide) (zne hF_16 (by decide) (zne hF_13 (by decide) h_3))), (zne hF_19 (by decide) (zne hF_16 (by decide) (zne hF_13 (by decide) (zne hF_2 (by decide) h57)))), (zne hF_19 (by decide) (zne hF_16 (by decide) (zne hF_13 (by decide) (zne hF_2 (by decide) h58)))), (zne hF_19 (by decide) (zne hF_16 (by decide) (zne hF_13 (by decide) (zne hF_2 (by decide) h59)))), (zne hF_19 (by decide) (zne hF_16 (by decide) (zne hF_13 (by decide) (zne hF_2 (by decide) h60)))), (zne hF_19 (by decide) (zne hF_16 (by decide) h_14)), (zne hF_19 (by decide) h_17), h_20, (zne hF_19 (by decide) (zne hF_16 (by decide) (zne hF_13 (by decide) (zne hF_2 (by decide) h64)))), (zne hF_19 (by decide) (zne hF_16 (by decide) (zne hF_13 (by decide) (zne hF_2 (by decide) h65)))), (zne hF_19 (by decide) (zne hF_16 (by decide) (zne hF_13 (by decide) (zne hF_2 (by decide) h66)))), (zne hF_19 (by decide) (zne hF_16 (by decide) (zne hF_13 (by decide) (zne hF_2 (by decide) h67)))), (rX_keep hR (iN d) hw2)⟩, hfm_21⟩)⟩ dX7_keep_82
      · refine lv_iload_n hx hb dX7_keep_32 rfl (lv_at hl 3 rfl) ?_
        refine lv_i2l (v := (k0).toInt64) hx hb dX7_keep_33 (by rfl) ?_
        refine lv_lconst (v := 0) hx hb dX7_keep_34 (by decide) ?_
        refine lv_ldc2 (v := 7) hx hb hC.1.2.2.2.1 (hC.1.2.2.2.2 _ qX7_138) dX7_keep_35 ?_
        refine zgoi hZ hA (zrunS (As := [.long ((k0).toInt64), .long 0, .long 7]) (rest := []) hC hZ (c_X7_in l D cy n ad F_1 H.size k0 0 7 0 7 (by decide) (by decide)) mX7_in sX7_in kX7_63 (zRj_of rfl) rfl hl.1 rfl (Nat.le_of_ble_eq_true rfl) dX7_keep_38 ⟨Nat.le_refl _, Nat.le_refl _⟩) (fun r_23 F_22 hp_24 H locs hZ => ?_)
        obtain ⟨hp_24, rfl⟩ := hp_24
        by_cases b_25 : bIn k0 0 7
        · rw [if_pos b_25] at hp_24
          subst hp_24
          refine lv_if_eq (tgt := 57) hx hb dX7_keep_41 (by decide) (fun h => absurd (show (1 : Int32) = 0 from h) (by decide)) (fun _ => ?_)
          refine lv_iload hx hb dX7_keep_44 (lv_at hl 4 rfl) ?_
          refine lv_i2l (v := (f0).toInt64) hx hb dX7_keep_46 (by rfl) ?_
          refine lv_lconst (v := 0) hx hb dX7_keep_47 (by decide) ?_
          refine lv_ldc2 (v := 40) hx hb hC.1.2.2.2.1 (hC.1.2.2.2.2 _ qX7_210) dX7_keep_48 ?_
          refine zgoi hZ hA (zrunS (As := [.long ((f0).toInt64), .long 0, .long 40]) (rest := []) hC hZ (c_X7_in l D cy n ad F_1 H.size f0 0 40 0 40 (by decide) (by decide)) mX7_in sX7_in kX7_63 (zRj_of rfl) rfl hl.1 rfl (Nat.le_of_ble_eq_true rfl) dX7_keep_51 ⟨Nat.le_refl _, Nat.le_refl _⟩) (fun r_27 F_26 hp_28 H locs hZ => ?_)
          obtain ⟨hp_28, rfl⟩ := hp_28
          by_cases b_29 : bIn f0 0 40
          · rw [if_pos b_29] at hp_28
            subst hp_28
            refine lv_if_ne (tgt := 59) hx hb dX7_keep_54 (by decide) (fun _ => ?_) (fun h => absurd (show (1 : Int32) = 0 from h) (by decide))
            refine lv_aload_n hx hb dX7_keep_59 rfl (lv_at hl 0 rfl) ?_
            refine zget hC hZ fX7_35 (zlt hn rfl) h_3 rfl dX7_keep_60 ?_
            refine lv_iload_n hx hb dX7_keep_63 rfl (lv_at hl 1 rfl) ?_
            refine lv_iload_n hx hb dX7_keep_64 rfl (lv_at hl 2 rfl) ?_
            have hd := bSh_i (bIn7.mp b_7)
            refine ziast hC hZ (zlt hn rfl) (zne hF_2 (by decide) h61) hd.1 hd.2 (by decide) dX7_keep_65 (fun F_30 hF_31 H locs hZ => ?_)
            have h_32 := zeq hF_31
            refine lv_aload_n hx hb dX7_keep_66 rfl (lv_at hl 0 rfl) ?_
            refine zget hC hZ fX7_38 (zlt hn rfl) (zne hF_31 (by decide) h_3) rfl dX7_keep_67 ?_
            refine lv_iload_n hx hb dX7_keep_70 rfl (lv_at hl 1 rfl) ?_
            refine lv_iload_n hx hb dX7_keep_71 rfl (lv_at hl 3 rfl) ?_
            refine ziast hC hZ (zlt hn rfl) (zne hF_31 (by decide) (zne hF_2 (by decide) h62)) hd.1 hd.2 (by decide) dX7_keep_72 (fun F_33 hF_34 H locs hZ => ?_)
            have h_35 := zeq hF_34
            refine lv_aload_n hx hb dX7_keep_73 rfl (lv_at hl 0 rfl) ?_
            refine zget hC hZ fX7_41 (zlt hn rfl) (zne hF_34 (by decide) (zne hF_31 (by decide) h_3)) rfl dX7_keep_74 ?_
            refine lv_iload_n hx hb dX7_keep_77 rfl (lv_at hl 1 rfl) ?_
            refine lv_iload hx hb dX7_keep_78 (lv_at hl 4 rfl) ?_
            refine ziast hC hZ (zlt hn rfl) (zne hF_34 (by decide) (zne hF_31 (by decide) (zne hF_2 (by decide) h63))) hd.1 hd.2 (by decide) dX7_keep_80 (fun F_36 hF_37 H locs hZ => ?_)
            have h_38 := zeq hF_37
            refine lv_iconst (v := 0) hx hb dX7_keep_81 (by decide) ?_
            have hq : (0 : Int32) = if bKeep d what k0 f0 then 0 else -1 := by exact (if_pos (⟨⟨bIn7.mp b_7, b_11⟩, Or.inr ⟨b_25, b_29⟩⟩ : bKeep d what k0 f0)).symm
            have hw2 : what = 0 ∨ what = 1 := by by_cases e : what = 1; exact Or.inr e; exact Or.inl (one0 b_11 e)
            have hfm_39 : frM F F_36 := (frM_up (frM_up (frM_up (frM_up frM_rf hF_2 (by decide) (by decide)) hF_31 (by decide) (by decide)) hF_34 (by decide) (by decide)) hF_37 (by decide) (by decide))
            exact zireti hC hZ hr hlocks ⟨hq, (by unfold sKeepS; rw [if_pos (⟨⟨bIn7.mp b_7, b_11⟩, Or.inr ⟨b_25, b_29⟩⟩ : bKeep d what k0 f0)]; exact ⟨⟨bs, en, u, st, kk, dw, ho, sv, ia, tk, told, pl, nu, im, upd hw (iN d) what, upd kd (iN d) k0, upd fg (iN d) f0, so, mn, rw0, bt, (zne hF_37 (by decide) (zne hF_34 (by decide) (zne hF_31 (by decide) h_3))), (zne hF_37 (by decide) (zne hF_34 (by decide) (zne hF_31 (by decide) (zne hF_2 (by decide) h57)))), (zne hF_37 (by decide) (zne hF_34 (by decide) (zne hF_31 (by decide) (zne hF_2 (by decide) h58)))), (zne hF_37 (by decide) (zne hF_34 (by decide) (zne hF_31 (by decide) (zne hF_2 (by decide) h59)))), (zne hF_37 (by decide) (zne hF_34 (by decide) (zne hF_31 (by decide) (zne hF_2 (by decide) h60)))), (zne hF_37 (by decide) (zne hF_34 (by decide) h_32)), (zne hF_37 (by decide) h_35), h_38, (zne hF_37 (by decide) (zne hF_34 (by decide) (zne hF_31 (by decide) (zne hF_2 (by decide) h64)))), (zne hF_37 (by decide) (zne hF_34 (by decide) (zne hF_31 (by decide) (zne hF_2 (by decide) h65)))), (zne hF_37 (by decide) (zne hF_34 (by decide) (zne hF_31 (by decide) (zne hF_2 (by decide) h66)))), (zne hF_37 (by decide) (zne hF_34 (by decide) (zne hF_31 (by decide) (zne hF_2 (by decide) h67)))), (rX_keep hR (iN d) hw2)⟩, hfm_39⟩)⟩ dX7_keep_82
          · rw [if_neg b_29] at hp_28
            subst hp_28
            refine lv_if_ne (tgt := 59) hx hb dX7_keep_54 (by decide) (fun h => absurd (show (0 : Int32) = 0 by decide) h) (fun _ => ?_)
            refine lv_iconst (v := (-1)) hx hb dX7_keep_57 (by decide) ?_
            have hq : ((-1) : Int32) = if bKeep d what k0 f0 then 0 else -1 := by exact (if_neg (fun h : bKeep d what k0 f0 => h.2.elim (fun e => by rw [e] at c_29; exact absurd c_29 (by decide)) (fun q => b_29 q.2))).symm
            have hfm_40 : frM F F_1 := (frM_up frM_rf hF_2 (by decide) (by decide))
            exact zireti hC hZ hr hlocks ⟨hq, (by unfold sKeepS; rw [if_neg (fun h : bKeep d what k0 f0 => h.2.elim (fun e => by rw [e] at c_29; exact absurd c_29 (by decide)) (fun q => b_29 q.2))]; exact ⟨⟨bs, en, u, st, kk, dw, ho, sv, ia, tk, told, pl, nu, im, hw, kd, fg, so, mn, rw0, bt, h_3, (zne hF_2 (by decide) h57), (zne hF_2 (by decide) h58), (zne hF_2 (by decide) h59), (zne hF_2 (by decide) h60), (zne hF_2 (by decide) h61), (zne hF_2 (by decide) h62), (zne hF_2 (by decide) h63), (zne hF_2 (by decide) h64), (zne hF_2 (by decide) h65), (zne hF_2 (by decide) h66), (zne hF_2 (by decide) h67), hR⟩, hfm_40⟩)⟩ dX7_keep_58
        · rw [if_neg b_25] at hp_24
          subst hp_24
          refine lv_if_eq (tgt := 57) hx hb dX7_keep_41 (by decide) (fun _ => ?_) (fun h => absurd (show (0 : Int32) = 0 by decide) h)
          refine lv_iconst (v := (-1)) hx hb dX7_keep_57 (by decide) ?_
          have hq : ((-1) : Int32) = if bKeep d what k0 f0 then 0 else -1 := by exact (if_neg (fun h : bKeep d what k0 f0 => h.2.elim (fun e => by rw [e] at c_29; exact absurd c_29 (by decide)) (fun q => b_25 q.1))).symm
          have hfm_41 : frM F F_1 := (frM_up frM_rf hF_2 (by decide) (by decide))
          exact zireti hC hZ hr hlocks ⟨hq, (by unfold sKeepS; rw [if_neg (fun h : bKeep d what k0 f0 => h.2.elim (fun e => by rw [e] at c_29; exact absurd c_29 (by decide)) (fun q => b_25 q.1))]; exact ⟨⟨bs, en, u, st, kk, dw, ho, sv, ia, tk, told, pl, nu, im, hw, kd, fg, so, mn, rw0, bt, h_3, (zne hF_2 (by decide) h57), (zne hF_2 (by decide) h58), (zne hF_2 (by decide) h59), (zne hF_2 (by decide) h60), (zne hF_2 (by decide) h61), (zne hF_2 (by decide) h62), (zne hF_2 (by decide) h63), (zne hF_2 (by decide) h64), (zne hF_2 (by decide) h65), (zne hF_2 (by decide) h66), (zne hF_2 (by decide) h67), hR⟩, hfm_41⟩)⟩ dX7_keep_58
    · rw [if_neg b_11] at hp_10
      subst hp_10
      refine lv_if_eq (tgt := 57) hx hb dX7_keep_24 (by decide) (fun _ => ?_) (fun h => absurd (show (0 : Int32) = 0 by decide) h)
      refine lv_iconst (v := (-1)) hx hb dX7_keep_57 (by decide) ?_
      have hq : ((-1) : Int32) = if bKeep d what k0 f0 then 0 else -1 := by exact (if_neg (fun h : bKeep d what k0 f0 => b_11 h.1.2)).symm
      have hfm_42 : frM F F_1 := (frM_up frM_rf hF_2 (by decide) (by decide))
      exact zireti hC hZ hr hlocks ⟨hq, (by unfold sKeepS; rw [if_neg (fun h : bKeep d what k0 f0 => b_11 h.1.2)]; exact ⟨⟨bs, en, u, st, kk, dw, ho, sv, ia, tk, told, pl, nu, im, hw, kd, fg, so, mn, rw0, bt, h_3, (zne hF_2 (by decide) h57), (zne hF_2 (by decide) h58), (zne hF_2 (by decide) h59), (zne hF_2 (by decide) h60), (zne hF_2 (by decide) h61), (zne hF_2 (by decide) h62), (zne hF_2 (by decide) h63), (zne hF_2 (by decide) h64), (zne hF_2 (by decide) h65), (zne hF_2 (by decide) h66), (zne hF_2 (by decide) h67), hR⟩, hfm_42⟩)⟩ dX7_keep_58
  · rw [if_neg b_7] at hp_6
    subst hp_6
    refine lv_if_eq (tgt := 57) hx hb dX7_keep_14 (by decide) (fun _ => ?_) (fun h => absurd (show (0 : Int32) = 0 by decide) h)
    refine lv_iconst (v := (-1)) hx hb dX7_keep_57 (by decide) ?_
    have hq : ((-1) : Int32) = if bKeep d what k0 f0 then 0 else -1 := by exact (if_neg (fun h : bKeep d what k0 f0 => b_7 (bIn7.mpr h.1.1))).symm
    have hfm_43 : frM F F_1 := (frM_up frM_rf hF_2 (by decide) (by decide))
    exact zireti hC hZ hr hlocks ⟨hq, (by unfold sKeepS; rw [if_neg (fun h : bKeep d what k0 f0 => b_7 (bIn7.mpr h.1.1))]; exact ⟨⟨bs, en, u, st, kk, dw, ho, sv, ia, tk, told, pl, nu, im, hw, kd, fg, so, mn, rw0, bt, h_3, (zne hF_2 (by decide) h57), (zne hF_2 (by decide) h58), (zne hF_2 (by decide) h59), (zne hF_2 (by decide) h60), (zne hF_2 (by decide) h61), (zne hF_2 (by decide) h62), (zne hF_2 (by decide) h63), (zne hF_2 (by decide) h64), (zne hF_2 (by decide) h65), (zne hF_2 (by decide) h66), (zne hF_2 (by decide) h67), hR⟩, hfm_43⟩)⟩ dX7_keep_58

theorem mX7_row : zMd yX7_row cX7_row 5 (some .int) 3 := ⟨by decide +kernel, gt_of 1108 (by decide +kernel) rfl, gt_of 52 (by decide +kernel) rfl, by decide⟩
theorem dX7_row_0 : decode cX7_row 0 = .ok (.aload_n 0, 1) := by decide +kernel
theorem dX7_row_1 : decode cX7_row 1 = .ok (.iconst 0, 1) := by decide +kernel
theorem dX7_row_2 : decode cX7_row 2 = .ok (.putfield 57, 3) := by decide +kernel
theorem dX7_row_5 : decode cX7_row 5 = .ok (.iload_n 1, 1) := by decide +kernel
theorem dX7_row_6 : decode cX7_row 6 = .ok (.i2l, 1) := by decide +kernel
theorem dX7_row_7 : decode cX7_row 7 = .ok (.lconst 0, 1) := by decide +kernel
theorem dX7_row_8 : decode cX7_row 8 = .ok (.ldc2_w 138, 3) := by decide +kernel
theorem dX7_row_11 : decode cX7_row 11 = .ok (.invokestatic 63, 3) := by decide +kernel
theorem dX7_row_14 : decode cX7_row 14 = .ok (.ifCond .eq 21, 3) := by decide +kernel
theorem dX7_row_17 : decode cX7_row 17 = .ok (.iload_n 2, 1) := by decide +kernel
theorem dX7_row_18 : decode cX7_row 18 = .ok (.i2l, 1) := by decide +kernel
theorem dX7_row_19 : decode cX7_row 19 = .ok (.lconst 0, 1) := by decide +kernel
theorem dX7_row_20 : decode cX7_row 20 = .ok (.ldc2_w 140, 3) := by decide +kernel
theorem dX7_row_23 : decode cX7_row 23 = .ok (.invokestatic 63, 3) := by decide +kernel
theorem dX7_row_26 : decode cX7_row 26 = .ok (.ifCond .eq 9, 3) := by decide +kernel
theorem dX7_row_29 : decode cX7_row 29 = .ok (.iload_n 3, 1) := by decide +kernel
theorem dX7_row_30 : decode cX7_row 30 = .ok (.bipush 100, 2) := by decide +kernel
theorem dX7_row_32 : decode cX7_row 32 = .ok (.if_icmp .le 5, 3) := by decide +kernel
theorem dX7_row_37 : decode cX7_row 37 = .ok (.iload_n 3, 1) := by decide +kernel
theorem dX7_row_38 : decode cX7_row 38 = .ok (.ifCond .ge 6, 3) := by decide +kernel
theorem dX7_row_44 : decode cX7_row 44 = .ok (.aload_n 0, 1) := by decide +kernel
theorem dX7_row_45 : decode cX7_row 45 = .ok (.getfield 35, 3) := by decide +kernel
theorem dX7_row_48 : decode cX7_row 48 = .ok (.iload_n 1, 1) := by decide +kernel
theorem dX7_row_49 : decode cX7_row 49 = .ok (.iconst 2, 1) := by decide +kernel
theorem dX7_row_50 : decode cX7_row 50 = .ok (.iastore, 1) := by decide +kernel
theorem dX7_row_51 : decode cX7_row 51 = .ok (.aload_n 0, 1) := by decide +kernel
theorem dX7_row_52 : decode cX7_row 52 = .ok (.getfield 44, 3) := by decide +kernel
theorem dX7_row_55 : decode cX7_row 55 = .ok (.iload_n 1, 1) := by decide +kernel
theorem dX7_row_56 : decode cX7_row 56 = .ok (.iload_n 2, 1) := by decide +kernel
theorem dX7_row_57 : decode cX7_row 57 = .ok (.iastore, 1) := by decide +kernel
theorem dX7_row_58 : decode cX7_row 58 = .ok (.aload_n 0, 1) := by decide +kernel
theorem dX7_row_59 : decode cX7_row 59 = .ok (.getfield 47, 3) := by decide +kernel
theorem dX7_row_62 : decode cX7_row 62 = .ok (.iload_n 1, 1) := by decide +kernel
theorem dX7_row_63 : decode cX7_row 63 = .ok (.iload_n 3, 1) := by decide +kernel
theorem dX7_row_64 : decode cX7_row 64 = .ok (.iastore, 1) := by decide +kernel
theorem dX7_row_65 : decode cX7_row 65 = .ok (.iconst 0, 1) := by decide +kernel
theorem dX7_row_66 : decode cX7_row 66 = .ok (.istore 4, 2) := by decide +kernel
theorem dX7_row_68 : decode cX7_row 68 = .ok (.iload 4, 2) := by decide +kernel
theorem dX7_row_70 : decode cX7_row 70 = .ok (.bipush 100, 2) := by decide +kernel
theorem dX7_row_72 : decode cX7_row 72 = .ok (.if_icmp .ge 22, 3) := by decide +kernel
theorem dX7_row_94 : decode cX7_row 94 = .ok (.iconst 0, 1) := by decide +kernel
theorem dX7_row_95 : decode cX7_row 95 = .ok (.ireturn, 1) := by decide +kernel
theorem dX7_row_75 : decode cX7_row 75 = .ok (.aload_n 0, 1) := by decide +kernel
theorem dX7_row_76 : decode cX7_row 76 = .ok (.getfield 50, 3) := by decide +kernel
theorem dX7_row_79 : decode cX7_row 79 = .ok (.bipush 100, 2) := by decide +kernel
theorem dX7_row_81 : decode cX7_row 81 = .ok (.iload_n 1, 1) := by decide +kernel
theorem dX7_row_82 : decode cX7_row 82 = .ok (.imul, 1) := by decide +kernel
theorem dX7_row_83 : decode cX7_row 83 = .ok (.iload 4, 2) := by decide +kernel
theorem dX7_row_85 : decode cX7_row 85 = .ok (.iadd, 1) := by decide +kernel
theorem dX7_row_86 : decode cX7_row 86 = .ok (.lconst 0, 1) := by decide +kernel
theorem dX7_row_87 : decode cX7_row 87 = .ok (.lastore, 1) := by decide +kernel
theorem dX7_row_88 : decode cX7_row 88 = .ok (.iinc 4 1, 3) := by decide +kernel
theorem dX7_row_91 : decode cX7_row 91 = .ok (.goto (-23), 3) := by decide +kernel
theorem dX7_row_41 : decode cX7_row 41 = .ok (.bipush (-14), 2) := by decide +kernel
theorem dX7_row_43 : decode cX7_row 43 = .ok (.ireturn, 1) := by decide +kernel
theorem dX7_row_35 : decode cX7_row 35 = .ok (.iconst (-1), 1) := by decide +kernel
theorem dX7_row_36 : decode cX7_row 36 = .ok (.ireturn, 1) := by decide +kernel
set_option maxRecDepth 100000 in
theorem c_X7_row (l : Launch) (D : va_G) (cy : Nat → Nat) (n : Nat) (ad : Nat → Nat) (F : Nat → va_E) (sz : Nat) (th0 pic : Int32) (sc ps : Scn) (sh : Nat → Shf) (hn : 68 ≤ n) (hX : RM ad cy F th0 pic sc ps sh) (hG : gX sc ps sh) (d s0 q : Int32) : Met l yX7_row (zw yX7_row cX7_row 5 (some .int)) (rmL 1) (zPc D cy n ad F sz [.ref (ad 56), .int d, .int s0, .int q]) (va_Qi (fun r F1 => r = sRow d s0 q ∧ RM ad cy F1 0 pic sc ps (sRowS sh d s0 q) ∧ frM F F1) (zB D n ad) (zA n ad sz)) 0 0 (zA n ad sz) := by
  refine zmet (by decide +kernel) (Nat.le_of_ble_eq_true rfl) (fun p e s m args below meth c ls hC hsz hZ hA hr hlocks hnm hl => ?_)
  have hC : zC p m c cX7_row 5 s args RX7 D cy := hC
  have hx := hC.1.1
  have hb := hC.1.2.1
  have hl : lv_has ls 5 [(0, .ref (ad 56)), (1, .int d), (2, .int s0), (3, .int q)] := hl
  obtain ⟨bs, en, u, st, kk, dw, ho, sv, ia, tk, told, pl, nu, im, hw, kd, fg, so, mn, rw0, bt, hM, h57, h58, h59, h60, h61, h62, h63, h64, h65, h66, h67, hR⟩ := hX
  have hRS := hR.2.2
  have hHW := rX_hw hR
  refine lv_aload_n hx hb dX7_row_0 rfl (lv_at hl 0 rfl) ?_
  refine lv_iconst (v := 0) hx hb dX7_row_1 (by decide) ?_
  refine zput (E := oModel ad sc.1 sc.2.1 sc.2.2.2.1 sc.2.2.2.2 0 bs en u st kk dw ho sv pic ia tk) hC hZ pX7_57 (zlt hn rfl) hM rfl rfl rfl (Nat.le_of_ble_eq_true rfl) dX7_row_2 (fun F_1 hF_2 H locs hZ => ?_)
  have h_3 := zeq hF_2
  refine lv_iload_n hx hb dX7_row_5 rfl (lv_at hl 1 rfl) ?_
  refine lv_i2l (v := (d).toInt64) hx hb dX7_row_6 (by rfl) ?_
  refine lv_lconst (v := 0) hx hb dX7_row_7 (by decide) ?_
  refine lv_ldc2 (v := 7) hx hb hC.1.2.2.2.1 (hC.1.2.2.2.2 _ qX7_138) dX7_row_8 ?_
  refine zgoi hZ hA (zrunS (As := [.long ((d).toInt64), .long 0, .long 7]) (rest := []) hC hZ (c_X7_in l D cy n ad F_1 H.size d 0 7 0 7 (by decide) (by decide)) mX7_in sX7_in kX7_63 (zRj_of rfl) rfl hl.1 rfl (Nat.le_of_ble_eq_true rfl) dX7_row_11 ⟨Nat.le_refl _, Nat.le_refl _⟩) (fun r_5 F_4 hp_6 H locs hZ => ?_)
  obtain ⟨hp_6, rfl⟩ := hp_6
  by_cases b_7 : bIn d 0 7
  · rw [if_pos b_7] at hp_6
    subst hp_6
    refine lv_if_eq (tgt := 35) hx hb dX7_row_14 (by decide) (fun h => absurd (show (1 : Int32) = 0 from h) (by decide)) (fun _ => ?_)
    refine lv_iload_n hx hb dX7_row_17 rfl (lv_at hl 2 rfl) ?_
    refine lv_i2l (v := (s0).toInt64) hx hb dX7_row_18 (by rfl) ?_
    refine lv_lconst (v := 0) hx hb dX7_row_19 (by decide) ?_
    refine lv_ldc2 (v := 2) hx hb hC.1.2.2.2.1 (hC.1.2.2.2.2 _ qX7_140) dX7_row_20 ?_
    refine zgoi hZ hA (zrunS (As := [.long ((s0).toInt64), .long 0, .long 2]) (rest := []) hC hZ (c_X7_in l D cy n ad F_1 H.size s0 0 2 0 2 (by decide) (by decide)) mX7_in sX7_in kX7_63 (zRj_of rfl) rfl hl.1 rfl (Nat.le_of_ble_eq_true rfl) dX7_row_23 ⟨Nat.le_refl _, Nat.le_refl _⟩) (fun r_9 F_8 hp_10 H locs hZ => ?_)
    obtain ⟨hp_10, rfl⟩ := hp_10
    by_cases b_11 : bIn s0 0 2
    · rw [if_pos b_11] at hp_10
      subst hp_10
      refine lv_if_eq (tgt := 35) hx hb dX7_row_26 (by decide) (fun h => absurd (show (1 : Int32) = 0 from h) (by decide)) (fun _ => ?_)
      refine lv_iload_n hx hb dX7_row_29 rfl (lv_at hl 3 rfl) ?_
      refine lv_bipush (v := 100) hx hb dX7_row_30 (by decide) ?_
      refine lv_icmp_le (tgt := 37) hx hb dX7_row_32 (by decide) (fun c_32 => ?_) (fun c_32 => ?_)
      · refine lv_iload_n hx hb dX7_row_37 rfl (lv_at hl 3 rfl) ?_
        refine lv_if_ge (tgt := 44) hx hb dX7_row_38 (by decide) (fun c_38 => ?_) (fun c_38 => ?_)
        · refine lv_aload_n hx hb dX7_row_44 rfl (lv_at hl 0 rfl) ?_
          refine zget hC hZ fX7_35 (zlt hn rfl) h_3 rfl dX7_row_45 ?_
          refine lv_iload_n hx hb dX7_row_48 rfl (lv_at hl 1 rfl) ?_
          refine lv_iconst (v := 2) hx hb dX7_row_49 (by decide) ?_
          have hd := bSh_i (bIn7.mp b_7)
          refine ziast hC hZ (zlt hn rfl) (zne hF_2 (by decide) h61) hd.1 hd.2 (by decide) dX7_row_50 (fun F_12 hF_13 H locs hZ => ?_)
          have h_14 := zeq hF_13
          refine lv_aload_n hx hb dX7_row_51 rfl (lv_at hl 0 rfl) ?_
          refine zget hC hZ fX7_44 (zlt hn rfl) (zne hF_13 (by decide) h_3) rfl dX7_row_52 ?_
          refine lv_iload_n hx hb dX7_row_55 rfl (lv_at hl 1 rfl) ?_
          refine lv_iload_n hx hb dX7_row_56 rfl (lv_at hl 2 rfl) ?_
          refine ziast hC hZ (zlt hn rfl) (zne hF_13 (by decide) (zne hF_2 (by decide) h64)) hd.1 hd.2 (by decide) dX7_row_57 (fun F_15 hF_16 H locs hZ => ?_)
          have h_17 := zeq hF_16
          refine lv_aload_n hx hb dX7_row_58 rfl (lv_at hl 0 rfl) ?_
          refine zget hC hZ fX7_47 (zlt hn rfl) (zne hF_16 (by decide) (zne hF_13 (by decide) h_3)) rfl dX7_row_59 ?_
          refine lv_iload_n hx hb dX7_row_62 rfl (lv_at hl 1 rfl) ?_
          refine lv_iload_n hx hb dX7_row_63 rfl (lv_at hl 3 rfl) ?_
          refine ziast hC hZ (zlt hn rfl) (zne hF_16 (by decide) (zne hF_13 (by decide) (zne hF_2 (by decide) h65))) hd.1 hd.2 (by decide) dX7_row_64 (fun F_18 hF_19 H locs hZ => ?_)
          have h_20 := zeq hF_19
          refine lv_iconst (v := 0) hx hb dX7_row_65 (by decide) ?_
          refine lv_istore (lv' := [(4, .int 0), (0, .ref (ad 56)), (1, .int d), (2, .int s0), (3, .int q)]) hx hb dX7_row_66 hl (by decide) rfl (fun ls hl => ?_)
          have h66_21 : F_18 66 = oLongs cy 800 (zfl rw0 (100 * iN d) 0) := by rw [zfl_0]; exact (zne hF_19 (by decide) (zne hF_16 (by decide) (zne hF_13 (by decide) (zne hF_2 (by decide) h66))))
          refine zlp (X := Nat) 68 (fun _ => []) (fun x ls F1 => lv_has ls 5 [(4, .int (nI x)), (0, .ref (ad 56)), (1, .int d), (2, .int s0), (3, .int q)] ∧ F1 = va_up F_18 66 (oLongs cy 800 (zfl rw0 (100 * iN d) x)) ∧ (x ≤ 100)) (fun x => 100 - x) ?_ 0 hZ ⟨hl, (zself h66_21), (Nat.zero_le _)⟩
          intro i ih68 ls F3_68 H locs hZ hφ
          obtain ⟨hl, hF3_68, hi⟩ := hφ
          have hl : lv_has ls 5 [(4, .int (nI i)), (0, .ref (ad 56)), (1, .int d), (2, .int s0), (3, .int q)] := hl
          have hF3_68 : F3_68 = va_up F_18 66 (oLongs cy 800 (zfl rw0 (100 * iN d) i)) := hF3_68
          have hi : i ≤ 100 := hi
          have h_22 := zeq hF3_68
          have h_23 := zne hF3_68 (by decide) (zne hF_19 (by decide) (zne hF_16 (by decide) (zne hF_13 (by decide) (zne hF_2 (by decide) h57))))
          have h_24 := zne hF3_68 (by decide) (zne hF_19 (by decide) (zne hF_16 (by decide) (zne hF_13 (by decide) (zne hF_2 (by decide) h58))))
          have h_25 := zne hF3_68 (by decide) (zne hF_19 (by decide) (zne hF_16 (by decide) (zne hF_13 (by decide) (zne hF_2 (by decide) h59))))
          have h_26 := zne hF3_68 (by decide) (zne hF_19 (by decide) (zne hF_16 (by decide) (zne hF_13 (by decide) (zne hF_2 (by decide) h60))))
          have h_27 := zne hF3_68 (by decide) (zne hF_19 (by decide) (zne hF_16 (by decide) (zne hF_13 (by decide) (zne hF_2 (by decide) h62))))
          have h_28 := zne hF3_68 (by decide) (zne hF_19 (by decide) (zne hF_16 (by decide) (zne hF_13 (by decide) (zne hF_2 (by decide) h63))))
          have h_29 := zne hF3_68 (by decide) (zne hF_19 (by decide) (zne hF_16 (by decide) (zne hF_13 (by decide) (zne hF_2 (by decide) h67))))
          refine lv_iload hx hb dX7_row_68 (lv_at hl 0 rfl) ?_
          refine lv_bipush (v := 100) hx hb dX7_row_70 (by decide) ?_
          refine lv_icmp_ge (tgt := 94) hx hb dX7_row_72 (by decide) (fun c_72 => ?_) (fun c_72 => ?_)
          · refine lv_iconst (v := 0) hx hb dX7_row_94 (by decide) ?_
            have hq : (0 : Int32) = sRow d s0 q := by unfold sRow; rw [if_pos (⟨bIn7.mp b_7, b_11, c_32⟩ : bRow d s0 q), if_neg (Int32.not_lt.mpr c_38)]
            have hiq : i = 100 := by have := nIge (N := 100) c_72 (by omega) rfl; omega
            have h66_30 := h_22
            rw [hiq] at h66_30
            have hfm_31 : frM F F3_68 := (frM_up (frM_up (frM_up (frM_up (frM_up frM_rf hF_2 (by decide) (by decide)) hF_13 (by decide) (by decide)) hF_16 (by decide) (by decide)) hF_19 (by decide) (by decide)) hF3_68 (by decide) (by decide))
            exact zireti hC hZ hr hlocks ⟨hq, (by unfold sRowS; rw [if_pos ⟨(⟨bIn7.mp b_7, b_11, c_32⟩ : bRow d s0 q), Int32.not_lt.mpr c_38⟩]; exact ⟨⟨bs, en, u, st, kk, dw, ho, sv, ia, tk, told, pl, nu, im, upd hw (iN d) 2, kd, fg, upd so (iN d) s0, upd mn (iN d) q, (zfl rw0 (100 * iN d) 100), bt, (zne hF3_68 (by decide) (zne hF_19 (by decide) (zne hF_16 (by decide) (zne hF_13 (by decide) h_3)))), h_23, h_24, h_25, h_26, (zne hF3_68 (by decide) (zne hF_19 (by decide) (zne hF_16 (by decide) h_14))), h_27, h_28, (zne hF3_68 (by decide) (zne hF_19 (by decide) h_17)), (zne hF3_68 (by decide) h_20), h66_30, h_29, (rX_row hR (iN d) s0 q)⟩, hfm_31⟩)⟩ dX7_row_95
          · refine lv_aload_n hx hb dX7_row_75 rfl (lv_at hl 1 rfl) ?_
            refine zget hC hZ fX7_50 (zlt hn rfl) (zne hF3_68 (by decide) (zne hF_19 (by decide) (zne hF_16 (by decide) (zne hF_13 (by decide) h_3)))) rfl dX7_row_76 ?_
            refine lv_bipush (v := 100) hx hb dX7_row_79 (by decide) ?_
            refine lv_iload_n hx hb dX7_row_81 rfl (lv_at hl 2 rfl) ?_
            refine lv_imul hx hb dX7_row_82 ?_
            refine lv_iload hx hb dX7_row_83 (lv_at hl 0 rfl) ?_
            refine lv_iadd hx hb dX7_row_85 ?_
            refine lv_lconst (v := 0) hx hb dX7_row_86 (by decide) ?_
            have hlt := nIlt (N := 100) c_72 (by omega) rfl
            refine zlast hC hZ (zlt hn rfl) h_22 (ix100 hd.1 i) (by omega) (by decide) dX7_row_87 (fun F_32 hF_33 H locs hZ => ?_)
            have h_34 := zeq hF_33
            have h_35 := zne hF_33 (by decide) (zne hF3_68 (by decide) (zne hF_19 (by decide) (zne hF_16 (by decide) h_14)))
            have h_36 := zne hF_33 (by decide) (zne hF3_68 (by decide) (zne hF_19 (by decide) (zne hF_16 (by decide) (zne hF_13 (by decide) h_3))))
            refine lv_iinc (v := nI (i + 1)) (lv' := [(4, .int (nI (i + 1))), (0, .ref (ad 56)), (1, .int d), (2, .int s0), (3, .int q)]) hx hb dX7_row_88 hl (k := 0) rfl (nI_1 i) (by decide) rfl (fun ls hl => ?_)
            refine lv_goto (tgt := 68) hx hb dX7_row_91 (by decide) ?_
            have he_37 : F_32 = va_up F_18 66 (oLongs cy 800 (vp_updL (zfl rw0 (100 * iN d) i) (100 * iN d + i) 0)) := by rw [hF_33, hF3_68]; simp only [bx_uu]
            rw [zfl_s] at he_37
            exact ih68 (i + 1) ls _ H locs (by show 100 - (i + 1) < 100 - i; omega) hZ ⟨hl, he_37, hlt⟩
        · refine lv_bipush (v := (-14)) hx hb dX7_row_41 (by decide) ?_
          have hq : ((-14) : Int32) = sRow d s0 q := by unfold sRow; rw [if_pos (⟨bIn7.mp b_7, b_11, c_32⟩ : bRow d s0 q), if_pos (Int32.not_le.mp c_38)]
          have hfm_38 : frM F F_1 := (frM_up frM_rf hF_2 (by decide) (by decide))
          exact zireti hC hZ hr hlocks ⟨hq, (by unfold sRowS; rw [if_neg (fun h => h.2 (Int32.not_le.mp c_38))]; exact ⟨⟨bs, en, u, st, kk, dw, ho, sv, ia, tk, told, pl, nu, im, hw, kd, fg, so, mn, rw0, bt, h_3, (zne hF_2 (by decide) h57), (zne hF_2 (by decide) h58), (zne hF_2 (by decide) h59), (zne hF_2 (by decide) h60), (zne hF_2 (by decide) h61), (zne hF_2 (by decide) h62), (zne hF_2 (by decide) h63), (zne hF_2 (by decide) h64), (zne hF_2 (by decide) h65), (zne hF_2 (by decide) h66), (zne hF_2 (by decide) h67), hR⟩, hfm_38⟩)⟩ dX7_row_43
      · refine lv_iconst (v := (-1)) hx hb dX7_row_35 (by decide) ?_
        have hq : ((-1) : Int32) = sRow d s0 q := by exact (if_neg (fun h : bRow d s0 q => c_32 h.2.2)).symm
        have hfm_39 : frM F F_1 := (frM_up frM_rf hF_2 (by decide) (by decide))
        exact zireti hC hZ hr hlocks ⟨hq, (by unfold sRowS; rw [if_neg (fun h => absurd h.1 (fun h : bRow d s0 q => c_32 h.2.2))]; exact ⟨⟨bs, en, u, st, kk, dw, ho, sv, ia, tk, told, pl, nu, im, hw, kd, fg, so, mn, rw0, bt, h_3, (zne hF_2 (by decide) h57), (zne hF_2 (by decide) h58), (zne hF_2 (by decide) h59), (zne hF_2 (by decide) h60), (zne hF_2 (by decide) h61), (zne hF_2 (by decide) h62), (zne hF_2 (by decide) h63), (zne hF_2 (by decide) h64), (zne hF_2 (by decide) h65), (zne hF_2 (by decide) h66), (zne hF_2 (by decide) h67), hR⟩, hfm_39⟩)⟩ dX7_row_36
    · rw [if_neg b_11] at hp_10
      subst hp_10
      refine lv_if_eq (tgt := 35) hx hb dX7_row_26 (by decide) (fun _ => ?_) (fun h => absurd (show (0 : Int32) = 0 by decide) h)
      refine lv_iconst (v := (-1)) hx hb dX7_row_35 (by decide) ?_
      have hq : ((-1) : Int32) = sRow d s0 q := by exact (if_neg (fun h : bRow d s0 q => b_11 h.2.1)).symm
      have hfm_40 : frM F F_1 := (frM_up frM_rf hF_2 (by decide) (by decide))
      exact zireti hC hZ hr hlocks ⟨hq, (by unfold sRowS; rw [if_neg (fun h => absurd h.1 (fun h : bRow d s0 q => b_11 h.2.1))]; exact ⟨⟨bs, en, u, st, kk, dw, ho, sv, ia, tk, told, pl, nu, im, hw, kd, fg, so, mn, rw0, bt, h_3, (zne hF_2 (by decide) h57), (zne hF_2 (by decide) h58), (zne hF_2 (by decide) h59), (zne hF_2 (by decide) h60), (zne hF_2 (by decide) h61), (zne hF_2 (by decide) h62), (zne hF_2 (by decide) h63), (zne hF_2 (by decide) h64), (zne hF_2 (by decide) h65), (zne hF_2 (by decide) h66), (zne hF_2 (by decide) h67), hR⟩, hfm_40⟩)⟩ dX7_row_36
  · rw [if_neg b_7] at hp_6
    subst hp_6
    refine lv_if_eq (tgt := 35) hx hb dX7_row_14 (by decide) (fun _ => ?_) (fun h => absurd (show (0 : Int32) = 0 by decide) h)
    refine lv_iconst (v := (-1)) hx hb dX7_row_35 (by decide) ?_
    have hq : ((-1) : Int32) = sRow d s0 q := by exact (if_neg (fun h : bRow d s0 q => b_7 (bIn7.mpr h.1))).symm
    have hfm_41 : frM F F_1 := (frM_up frM_rf hF_2 (by decide) (by decide))
    exact zireti hC hZ hr hlocks ⟨hq, (by unfold sRowS; rw [if_neg (fun h => absurd h.1 (fun h : bRow d s0 q => b_7 (bIn7.mpr h.1)))]; exact ⟨⟨bs, en, u, st, kk, dw, ho, sv, ia, tk, told, pl, nu, im, hw, kd, fg, so, mn, rw0, bt, h_3, (zne hF_2 (by decide) h57), (zne hF_2 (by decide) h58), (zne hF_2 (by decide) h59), (zne hF_2 (by decide) h60), (zne hF_2 (by decide) h61), (zne hF_2 (by decide) h62), (zne hF_2 (by decide) h63), (zne hF_2 (by decide) h64), (zne hF_2 (by decide) h65), (zne hF_2 (by decide) h66), (zne hF_2 (by decide) h67), hR⟩, hfm_41⟩)⟩ dX7_row_36

theorem ix100i {d i : Int32} {m a : Nat} (h : d = nI m) (hi : i = nI a) : 100 * d + i = nI (100 * m + a) := by rw [h, hi, nI_100, nI_add]
theorem mX7_put : zMd yX7_put cX7_put 5 (some .int) 3 := ⟨by decide +kernel, gt_of 1112 (by decide +kernel) rfl, gt_of 52 (by decide +kernel) rfl, by decide⟩
theorem dX7_put_0 : decode cX7_put 0 = .ok (.aload_n 0, 1) := by decide +kernel
theorem dX7_put_1 : decode cX7_put 1 = .ok (.iconst 0, 1) := by decide +kernel
theorem dX7_put_2 : decode cX7_put 2 = .ok (.putfield 57, 3) := by decide +kernel
theorem dX7_put_5 : decode cX7_put 5 = .ok (.aload_n 0, 1) := by decide +kernel
theorem dX7_put_6 : decode cX7_put 6 = .ok (.iload_n 1, 1) := by decide +kernel
theorem dX7_put_7 : decode cX7_put 7 = .ok (.invokevirtual 111, 3) := by decide +kernel
theorem dX7_put_10 : decode cX7_put 10 = .ok (.istore 4, 2) := by decide +kernel
theorem dX7_put_12 : decode cX7_put 12 = .ok (.iload 4, 2) := by decide +kernel
theorem dX7_put_14 : decode cX7_put 14 = .ok (.ifCond .ge 6, 3) := by decide +kernel
theorem dX7_put_20 : decode cX7_put 20 = .ok (.iload_n 2, 1) := by decide +kernel
theorem dX7_put_21 : decode cX7_put 21 = .ok (.i2l, 1) := by decide +kernel
theorem dX7_put_22 : decode cX7_put 22 = .ok (.lconst 0, 1) := by decide +kernel
theorem dX7_put_23 : decode cX7_put 23 = .ok (.aload_n 0, 1) := by decide +kernel
theorem dX7_put_24 : decode cX7_put 24 = .ok (.getfield 47, 3) := by decide +kernel
theorem dX7_put_27 : decode cX7_put 27 = .ok (.iload_n 1, 1) := by decide +kernel
theorem dX7_put_28 : decode cX7_put 28 = .ok (.iaload, 1) := by decide +kernel
theorem dX7_put_29 : decode cX7_put 29 = .ok (.iconst 1, 1) := by decide +kernel
theorem dX7_put_30 : decode cX7_put 30 = .ok (.isub, 1) := by decide +kernel
theorem dX7_put_31 : decode cX7_put 31 = .ok (.i2l, 1) := by decide +kernel
theorem dX7_put_32 : decode cX7_put 32 = .ok (.invokestatic 63, 3) := by decide +kernel
theorem dX7_put_35 : decode cX7_put 35 = .ok (.ifCond .ne 6, 3) := by decide +kernel
theorem dX7_put_41 : decode cX7_put 41 = .ok (.aload_n 0, 1) := by decide +kernel
theorem dX7_put_42 : decode cX7_put 42 = .ok (.getfield 50, 3) := by decide +kernel
theorem dX7_put_45 : decode cX7_put 45 = .ok (.bipush 100, 2) := by decide +kernel
theorem dX7_put_47 : decode cX7_put 47 = .ok (.iload_n 1, 1) := by decide +kernel
theorem dX7_put_48 : decode cX7_put 48 = .ok (.imul, 1) := by decide +kernel
theorem dX7_put_49 : decode cX7_put 49 = .ok (.iload_n 2, 1) := by decide +kernel
theorem dX7_put_50 : decode cX7_put 50 = .ok (.iadd, 1) := by decide +kernel
theorem dX7_put_51 : decode cX7_put 51 = .ok (.iload_n 3, 1) := by decide +kernel
theorem dX7_put_52 : decode cX7_put 52 = .ok (.aload_n 0, 1) := by decide +kernel
theorem dX7_put_53 : decode cX7_put 53 = .ok (.getfield 44, 3) := by decide +kernel
theorem dX7_put_56 : decode cX7_put 56 = .ok (.iload_n 1, 1) := by decide +kernel
theorem dX7_put_57 : decode cX7_put 57 = .ok (.iaload, 1) := by decide +kernel
theorem dX7_put_58 : decode cX7_put 58 = .ok (.invokestatic 250, 3) := by decide +kernel
theorem kX7_250 : zLk RX7 250 yX7_narrowed := Or.inl (gt_of 1113 (by decide +kernel) rfl)
theorem sX7_narrowed : Cond.static yX7_narrowed ∈ gtbl := gt_of 1114 (by decide +kernel) rfl
theorem dX7_put_61 : decode cX7_put 61 = .ok (.lastore, 1) := by decide +kernel
theorem dX7_put_62 : decode cX7_put 62 = .ok (.iconst 0, 1) := by decide +kernel
theorem dX7_put_63 : decode cX7_put 63 = .ok (.ireturn, 1) := by decide +kernel
theorem dX7_put_38 : decode cX7_put 38 = .ok (.bipush (-13), 2) := by decide +kernel
theorem dX7_put_40 : decode cX7_put 40 = .ok (.ireturn, 1) := by decide +kernel
theorem dX7_put_17 : decode cX7_put 17 = .ok (.iload 4, 2) := by decide +kernel
theorem dX7_put_19 : decode cX7_put 19 = .ok (.ireturn, 1) := by decide +kernel
set_option maxRecDepth 100000 in
theorem c_X7_put (l : Launch) (D : va_G) (cy : Nat → Nat) (n : Nat) (ad : Nat → Nat) (F : Nat → va_E) (sz : Nat) (th0 pic : Int32) (sc ps : Scn) (sh : Nat → Shf) (hn : 68 ≤ n) (hX : RM ad cy F th0 pic sc ps sh) (hG : gX sc ps sh) (d i v : Int32) : Met l yX7_put (zw yX7_put cX7_put 5 (some .int)) (rmL 2) (zPc D cy n ad F sz [.ref (ad 56), .int d, .int i, .int v]) (va_Qi (fun r F1 => r = sPut sh d i ∧ RM ad cy F1 0 pic sc ps (sPutS sh d i v) ∧ frM F F1) (zB D n ad) (zA n ad sz)) 0 0 (zA n ad sz) := by
  refine zmet (by decide +kernel) (Nat.le_of_ble_eq_true rfl) (fun p e s m args below meth c ls hC hsz hZ hA hr hlocks hnm hl => ?_)
  have hC : zC p m c cX7_put 5 s args RX7 D cy := hC
  have hx := hC.1.1
  have hb := hC.1.2.1
  have hl : lv_has ls 5 [(0, .ref (ad 56)), (1, .int d), (2, .int i), (3, .int v)] := hl
  obtain ⟨bs, en, u, st, kk, dw, ho, sv, ia, tk, told, pl, nu, im, hw, kd, fg, so, mn, rw0, bt, hM, h57, h58, h59, h60, h61, h62, h63, h64, h65, h66, h67, hR⟩ := hX
  have hRS := hR.2.2
  have hHW := rX_hw hR
  refine lv_aload_n hx hb dX7_put_0 rfl (lv_at hl 0 rfl) ?_
  refine lv_iconst (v := 0) hx hb dX7_put_1 (by decide) ?_
  refine zput (E := oModel ad sc.1 sc.2.1 sc.2.2.2.1 sc.2.2.2.2 0 bs en u st kk dw ho sv pic ia tk) hC hZ pX7_57 (zlt hn rfl) hM rfl rfl rfl (Nat.le_of_ble_eq_true rfl) dX7_put_2 (fun F_1 hF_2 H locs hZ => ?_)
  have h_3 := zeq hF_2
  refine lv_aload_n hx hb dX7_put_5 rfl (lv_at hl 0 rfl) ?_
  refine lv_iload_n hx hb dX7_put_6 rfl (lv_at hl 1 rfl) ?_
  refine zgoi hZ hA (zrunV (As := [.int d]) (rest := []) (k := 56) hC hZ (c_X7_wrongRow l D cy n ad F_1 H.size sc.1 sc.2.1 sc.2.2.2.1 sc.2.2.2.2 0 bs en u st kk dw ho sv pic ia tk hn h_3 hw (zne hF_2 (by decide) h61) d) mX7_wrongRow vX7_wrongRow kX7_111 (zRj_of rfl) (zlt hn rfl) h_3 rfl rfl hl.1 rfl (Nat.le_of_ble_eq_true rfl) dX7_put_7 ⟨Nat.le_refl _, Nat.le_refl _⟩) (fun r_5 F_4 hp_6 H locs hZ => ?_)
  rw [mRowR_eq hHW] at hp_6
  obtain ⟨rfl, rfl⟩ := hp_6
  refine lv_istore (lv' := [(4, .int (sRowR sh d)), (0, .ref (ad 56)), (1, .int d), (2, .int i), (3, .int v)]) hx hb dX7_put_10 hl (by decide) rfl (fun ls hl => ?_)
  refine lv_iload hx hb dX7_put_12 (lv_at hl 0 rfl) ?_
  refine lv_if_ge (tgt := 20) hx hb dX7_put_14 (by decide) (fun c_14 => ?_) (fun c_14 => ?_)
  · refine lv_iload_n hx hb dX7_put_20 rfl (lv_at hl 3 rfl) ?_
    refine lv_i2l (v := (i).toInt64) hx hb dX7_put_21 (by rfl) ?_
    refine lv_lconst (v := 0) hx hb dX7_put_22 (by decide) ?_
    refine lv_aload_n hx hb dX7_put_23 rfl (lv_at hl 1 rfl) ?_
    refine zget hC hZ fX7_47 (zlt hn rfl) h_3 rfl dX7_put_24 ?_
    refine lv_iload_n hx hb dX7_put_27 rfl (lv_at hl 2 rfl) ?_
    have hz_7 : (sRowR sh d) = 0 := sRowR_ge (Int32.not_lt.mpr c_14)
    have hs := sRowR_0 hz_7
    have hd := hs.1
    have hro := (hRS _ hd.2).2.2 hs.2
    refine ziald hC hZ (zlt hn rfl) (zne hF_2 (by decide) h65) hd.1 hd.2 (by decide) dX7_put_28 ?_
    refine lv_iconst (v := 1) hx hb dX7_put_29 (by decide) ?_
    refine lv_isub hx hb dX7_put_30 ?_
    refine lv_i2l (v := ((mn (iN d)) - 1).toInt64) hx hb dX7_put_31 (by rfl) ?_
    refine zgoi hZ hA (zrunS (As := [.long ((i).toInt64), .long 0, .long (((mn (iN d)) - 1).toInt64)]) (rest := []) hC hZ (c_X7_in l D cy n ad F_1 H.size i 0 ((mn (iN d)) - 1) 0 (((mn (iN d)) - 1).toInt64) (by decide) rfl) mX7_in sX7_in kX7_63 (zRj_of rfl) rfl hl.1 rfl (Nat.le_of_ble_eq_true rfl) dX7_put_32 ⟨Nat.le_refl _, Nat.le_refl _⟩) (fun r_9 F_8 hp_10 H locs hZ => ?_)
    obtain ⟨hp_10, rfl⟩ := hp_10
    by_cases b_11 : bIn i 0 ((mn (iN d)) - 1)
    · rw [if_pos b_11] at hp_10
      subst hp_10
      refine lv_if_ne (tgt := 41) hx hb dX7_put_35 (by decide) (fun _ => ?_) (fun h => absurd (show (1 : Int32) = 0 from h) (by decide))
      refine lv_aload_n hx hb dX7_put_41 rfl (lv_at hl 1 rfl) ?_
      refine zget hC hZ fX7_50 (zlt hn rfl) h_3 rfl dX7_put_42 ?_
      refine lv_bipush (v := 100) hx hb dX7_put_45 (by decide) ?_
      refine lv_iload_n hx hb dX7_put_47 rfl (lv_at hl 2 rfl) ?_
      refine lv_imul hx hb dX7_put_48 ?_
      refine lv_iload_n hx hb dX7_put_49 rfl (lv_at hl 3 rfl) ?_
      refine lv_iadd hx hb dX7_put_50 ?_
      refine lv_iload_n hx hb dX7_put_51 rfl (lv_at hl 4 rfl) ?_
      refine lv_aload_n hx hb dX7_put_52 rfl (lv_at hl 1 rfl) ?_
      refine zget hC hZ fX7_44 (zlt hn rfl) h_3 rfl dX7_put_53 ?_
      refine lv_iload_n hx hb dX7_put_56 rfl (lv_at hl 2 rfl) ?_
      refine ziald hC hZ (zlt hn rfl) (zne hF_2 (by decide) h64) hd.1 hd.2 (by decide) dX7_put_57 ?_
      refine zgol hZ hA (zrunS (As := [.int v, .int (so (iN d))]) (rest := [.int ((100 * d) + i), .ref (ad 66)]) hC hZ (c_X7_narrowed l D cy n ad F_1 H.size v (so (iN d))) mX7_narrowed sX7_narrowed kX7_250 (zRj_of rfl) rfl hl.1 rfl (Nat.le_of_ble_eq_true rfl) dX7_put_58 ⟨Nat.le_refl _, Nat.le_refl _⟩) (fun r_13 F_12 hp_14 H locs hZ => ?_)
      obtain ⟨rfl, rfl⟩ := hp_14
      have hgz := hG.2.2 _ hd.2
      have hpl9 := b_11
      rw [hro.2.1] at hpl9
      have hpl := (bPlace_m hgz.2.1 hgz.2.2.1).mp hpl9
      have hpi := bPlace_i hpl
      refine zlast hC hZ (zlt hn rfl) (zne hF_2 (by decide) h66) (ix100i hd.1 hpi.1) (by have := hpi.2; have := hd.2; omega) (by decide) dX7_put_61 (fun F_15 hF_16 H locs hZ => ?_)
      have h_17 := zeq hF_16
      refine lv_iconst (v := 0) hx hb dX7_put_62 (by decide) ?_
      have hq : (0 : Int32) = sPut sh d i := by unfold sPut; rw [if_pos hz_7, if_pos hpl]
      have hR9 := rX_put hR hd.2 hpi.2 hs.2 (sNar (so (iN d)) v)
      rw [hro.1] at hR9
      have h66_18 := h_17
      rw [hro.1] at h66_18
      have hfm_19 : frM F F_15 := (frM_up (frM_up frM_rf hF_2 (by decide) (by decide)) hF_16 (by decide) (by decide))
      exact zireti hC hZ hr hlocks ⟨hq, (by unfold sPutS; rw [if_pos ⟨hz_7, hpl⟩]; exact ⟨⟨bs, en, u, st, kk, dw, ho, sv, ia, tk, told, pl, nu, im, hw, kd, fg, so, mn, vp_updL rw0 (100 * iN d + iN i) ((sNar ((sh (iN d)).2.2.1) v).toInt64), bt, (zne hF_16 (by decide) h_3), (zne hF_16 (by decide) (zne hF_2 (by decide) h57)), (zne hF_16 (by decide) (zne hF_2 (by decide) h58)), (zne hF_16 (by decide) (zne hF_2 (by decide) h59)), (zne hF_16 (by decide) (zne hF_2 (by decide) h60)), (zne hF_16 (by decide) (zne hF_2 (by decide) h61)), (zne hF_16 (by decide) (zne hF_2 (by decide) h62)), (zne hF_16 (by decide) (zne hF_2 (by decide) h63)), (zne hF_16 (by decide) (zne hF_2 (by decide) h64)), (zne hF_16 (by decide) (zne hF_2 (by decide) h65)), h66_18, (zne hF_16 (by decide) (zne hF_2 (by decide) h67)), hR9⟩, hfm_19⟩)⟩ dX7_put_63
    · rw [if_neg b_11] at hp_10
      subst hp_10
      refine lv_if_ne (tgt := 41) hx hb dX7_put_35 (by decide) (fun h => absurd (show (0 : Int32) = 0 by decide) h) (fun _ => ?_)
      refine lv_bipush (v := (-13)) hx hb dX7_put_38 (by decide) ?_
      have hgz := hG.2.2 _ hd.2
      have hpl9 := b_11
      rw [hro.2.1] at hpl9
      have hpl := (fun h => hpl9 ((bPlace_m hgz.2.1 hgz.2.2.1).mpr h))
      have hq : ((-13) : Int32) = sPut sh d i := by unfold sPut; rw [if_pos hz_7, if_neg hpl]
      have hgz := hG.2.2 _ hd.2
      have hpl9 := b_11
      rw [hro.2.1] at hpl9
      have hpl := (fun h => hpl9 ((bPlace_m hgz.2.1 hgz.2.2.1).mpr h))
      have hfm_20 : frM F F_1 := (frM_up frM_rf hF_2 (by decide) (by decide))
      have hgz := hG.2.2 _ hd.2
      have hpl9 := b_11
      rw [hro.2.1] at hpl9
      have hpl := (fun h => hpl9 ((bPlace_m hgz.2.1 hgz.2.2.1).mpr h))
      exact zireti hC hZ hr hlocks ⟨hq, (by unfold sPutS; rw [if_neg (fun h => hpl h.2)]; exact ⟨⟨bs, en, u, st, kk, dw, ho, sv, ia, tk, told, pl, nu, im, hw, kd, fg, so, mn, rw0, bt, h_3, (zne hF_2 (by decide) h57), (zne hF_2 (by decide) h58), (zne hF_2 (by decide) h59), (zne hF_2 (by decide) h60), (zne hF_2 (by decide) h61), (zne hF_2 (by decide) h62), (zne hF_2 (by decide) h63), (zne hF_2 (by decide) h64), (zne hF_2 (by decide) h65), (zne hF_2 (by decide) h66), (zne hF_2 (by decide) h67), hR⟩, hfm_20⟩)⟩ dX7_put_40
  · refine lv_iload hx hb dX7_put_17 (lv_at hl 0 rfl) ?_
    have hz_21 : (sRowR sh d) < 0 := Int32.not_le.mp c_14
    have hq : ((sRowR sh d) : Int32) = sPut sh d i := by unfold sPut; rw [if_neg (neg_n0 hz_21)]
    have hfm_22 : frM F F_1 := (frM_up frM_rf hF_2 (by decide) (by decide))
    exact zireti hC hZ hr hlocks ⟨hq, (by unfold sPutS; rw [if_neg (fun h => neg_n0 hz_21 h.1)]; exact ⟨⟨bs, en, u, st, kk, dw, ho, sv, ia, tk, told, pl, nu, im, hw, kd, fg, so, mn, rw0, bt, h_3, (zne hF_2 (by decide) h57), (zne hF_2 (by decide) h58), (zne hF_2 (by decide) h59), (zne hF_2 (by decide) h60), (zne hF_2 (by decide) h61), (zne hF_2 (by decide) h62), (zne hF_2 (by decide) h63), (zne hF_2 (by decide) h64), (zne hF_2 (by decide) h65), (zne hF_2 (by decide) h66), (zne hF_2 (by decide) h67), hR⟩, hfm_22⟩)⟩ dX7_put_19

theorem mX7_image : zMd yX7_image cX7_image 1 (some .int) 0 := ⟨by decide +kernel, gt_of 1084 (by decide +kernel) rfl, gt_of 52 (by decide +kernel) rfl, by decide⟩
theorem dX7_image_0 : decode cX7_image 0 = .ok (.aload_n 0, 1) := by decide +kernel
theorem dX7_image_1 : decode cX7_image 1 = .ok (.iconst 0, 1) := by decide +kernel
theorem dX7_image_2 : decode cX7_image 2 = .ok (.putfield 57, 3) := by decide +kernel
theorem dX7_image_5 : decode cX7_image 5 = .ok (.aload_n 0, 1) := by decide +kernel
theorem dX7_image_6 : decode cX7_image 6 = .ok (.iconst 1, 1) := by decide +kernel
theorem dX7_image_7 : decode cX7_image 7 = .ok (.putfield 244, 3) := by decide +kernel
theorem pX7_244 : zFldP RX7 244 7 28 false .boolean := ⟨RX7, TX7, 39, tyX7, rfl, inX7, by decide, rfl, Or.inl (gt_of 786 (by decide +kernel) rfl), tyX7_ok, nmX7, rfl, by decide +kernel, fun h => by cases h⟩
theorem dX7_image_10 : decode cX7_image 10 = .ok (.aload_n 0, 1) := by decide +kernel
theorem dX7_image_11 : decode cX7_image 11 = .ok (.iconst 1, 1) := by decide +kernel
theorem dX7_image_12 : decode cX7_image 12 = .ok (.putfield 235, 3) := by decide +kernel
theorem pX7_235 : zFldP RX7 235 7 31 false .boolean := ⟨RX7, TX7, 39, tyX7, rfl, inX7, by decide, rfl, Or.inl (gt_of 789 (by decide +kernel) rfl), tyX7_ok, nmX7, rfl, by decide +kernel, fun h => by cases h⟩
theorem dX7_image_15 : decode cX7_image 15 = .ok (.aload_n 0, 1) := by decide +kernel
theorem dX7_image_16 : decode cX7_image 16 = .ok (.invokevirtual 247, 3) := by decide +kernel
theorem kX7_247 : zLk RX7 247 yX7_carryAll := Or.inl (gt_of 1085 (by decide +kernel) rfl)
theorem vX7_carryAll : zMi yX7_carryAll := ⟨gt_of 1087 (by decide +kernel) rfl, gt_of 41 (by decide +kernel) rfl⟩
theorem dX7_image_19 : decode cX7_image 19 = .ok (.aload_n 0, 1) := by decide +kernel
theorem dX7_image_20 : decode cX7_image 20 = .ok (.getfield 148, 3) := by decide +kernel
theorem dX7_image_23 : decode cX7_image 23 = .ok (.ireturn, 1) := by decide +kernel
set_option maxRecDepth 100000 in
theorem c_X7_image (l : Launch) (D : va_G) (cy : Nat → Nat) (n : Nat) (ad : Nat → Nat) (F : Nat → va_E) (sz : Nat) (th0 pic : Int32) (sc ps : Scn) (sh : Nat → Shf) (hn : 68 ≤ n) (hX : RM ad cy F th0 pic sc ps sh) (hG : gX sc ps sh) : Met l yX7_image (zw yX7_image cX7_image 1 (some .int)) (rmL 2) (zPc D cy n ad F sz [.ref (ad 56)]) (va_Qi (fun r F1 => r = sc.2.2.2.2.1 ∧ RM ad cy F1 0 1 sc sc sh ∧ frM F F1) (zB D n ad) (zA n ad sz)) 0 0 (zA n ad sz) := by
  refine zmet (by decide +kernel) (Nat.le_of_ble_eq_true rfl) (fun p e s m args below meth c ls hC hsz hZ hA hr hlocks hnm hl => ?_)
  have hC : zC p m c cX7_image 1 s args RX7 D cy := hC
  have hx := hC.1.1
  have hb := hC.1.2.1
  have hl : lv_has ls 1 [(0, .ref (ad 56))] := hl
  obtain ⟨bs, en, u, st, kk, dw, ho, sv, ia, tk, told, pl, nu, im, hw, kd, fg, so, mn, rw0, bt, hM, h57, h58, h59, h60, h61, h62, h63, h64, h65, h66, h67, hR⟩ := hX
  have hRS := hR.2.2
  have hHW := rX_hw hR
  refine lv_aload_n hx hb dX7_image_0 rfl (lv_at hl 0 rfl) ?_
  refine lv_iconst (v := 0) hx hb dX7_image_1 (by decide) ?_
  refine zput (E := oModel ad sc.1 sc.2.1 sc.2.2.2.1 sc.2.2.2.2 0 bs en u st kk dw ho sv pic ia tk) hC hZ pX7_57 (zlt hn rfl) hM rfl rfl rfl (Nat.le_of_ble_eq_true rfl) dX7_image_2 (fun F_1 hF_2 H locs hZ => ?_)
  have h_3 := zeq hF_2
  refine lv_aload_n hx hb dX7_image_5 rfl (lv_at hl 0 rfl) ?_
  refine lv_iconst (v := 1) hx hb dX7_image_6 (by decide) ?_
  refine zput (E := oModel ad sc.1 sc.2.1 sc.2.2.2.1 sc.2.2.2.2 0 bs en u st kk dw ho sv 1 ia tk) hC hZ pX7_244 (zlt hn rfl) h_3 rfl rfl rfl (Nat.le_of_ble_eq_true rfl) dX7_image_7 (fun F_4 hF_5 H locs hZ => ?_)
  have h_6 := zeq hF_5
  refine lv_aload_n hx hb dX7_image_10 rfl (lv_at hl 0 rfl) ?_
  refine lv_iconst (v := 1) hx hb dX7_image_11 (by decide) ?_
  refine zput (E := oModel ad sc.1 sc.2.1 sc.2.2.2.1 sc.2.2.2.2 0 bs en u st kk dw ho sv 1 ia 1) hC hZ pX7_235 (zlt hn rfl) h_6 rfl rfl rfl (Nat.le_of_ble_eq_true rfl) dX7_image_12 (fun F_7 hF_8 H locs hZ => ?_)
  have h_9 := zeq hF_8
  refine lv_aload_n hx hb dX7_image_15 rfl (lv_at hl 0 rfl) ?_
  refine zgov hZ hA (zrunV (As := []) (rest := []) (k := 56) hC hZ (c_X7_carryAll l D cy n ad F_7 H.size sc.1 sc.2.1 sc.2.2.2.1 sc.2.2.2.2 0 bs en u st kk dw ho sv 1 ia 1 hn h_9 told (zne hF_8 (by decide) (zne hF_5 (by decide) (zne hF_2 (by decide) h57))) im (zne hF_8 (by decide) (zne hF_5 (by decide) (zne hF_2 (by decide) h60))) (by decide)) mX7_carryAll vX7_carryAll kX7_247 (zRj_of rfl) (zlt hn rfl) h_9 rfl rfl hl.1 rfl (Nat.le_of_ble_eq_true rfl) dX7_image_16 ⟨Nat.le_refl _, Nat.le_refl _⟩) (fun F_10 hp_12 H locs hZ => ?_)
  obtain ⟨f_13, h60_16, h57_15, g0, g1, g2, g3, g4, g5, g6, g7, g8, g9, g10, hf_18, h56_14, hfr_17⟩ := hp_12
  refine lv_aload_n hx hb dX7_image_19 rfl (lv_at hl 0 rfl) ?_
  refine zget hC hZ fX7_148 (zlt hn rfl) h56_14 rfl dX7_image_20 ?_
  have hq : (sc.2.2.2.2.1 : Int32) = sc.2.2.2.2.1 := by rfl
  have hfm_19 : frM F F_10 := (frM_P (frM_up (frM_up (frM_up frM_rf hF_2 (by decide) (by decide)) hF_5 (by decide) (by decide)) hF_8 (by decide) (by decide)) hfr_17 (by decide))
  exact zireti hC hZ hr hlocks ⟨hq, ⟨bs, en, u, st, kk, dw, ho, sv, (nI 43), 1, told, pl, nu, f_13, hw, kd, fg, so, mn, rw0, bt, h56_14, h57_15, ((hfr_17 58 (by decide)).trans (zne hF_8 (by decide) (zne hF_5 (by decide) (zne hF_2 (by decide) h58)))), ((hfr_17 59 (by decide)).trans (zne hF_8 (by decide) (zne hF_5 (by decide) (zne hF_2 (by decide) h59)))), h60_16, ((hfr_17 61 (by decide)).trans (zne hF_8 (by decide) (zne hF_5 (by decide) (zne hF_2 (by decide) h61)))), ((hfr_17 62 (by decide)).trans (zne hF_8 (by decide) (zne hF_5 (by decide) (zne hF_2 (by decide) h62)))), ((hfr_17 63 (by decide)).trans (zne hF_8 (by decide) (zne hF_5 (by decide) (zne hF_2 (by decide) h63)))), ((hfr_17 64 (by decide)).trans (zne hF_8 (by decide) (zne hF_5 (by decide) (zne hF_2 (by decide) h64)))), ((hfr_17 65 (by decide)).trans (zne hF_8 (by decide) (zne hF_5 (by decide) (zne hF_2 (by decide) h65)))), ((hfr_17 66 (by decide)).trans (zne hF_8 (by decide) (zne hF_5 (by decide) (zne hF_2 (by decide) h66)))), ((hfr_17 67 (by decide)).trans (zne hF_8 (by decide) (zne hF_5 (by decide) (zne hF_2 (by decide) h67)))), (rX_image hR hG.1 ⟨g0, g1, g2, g3, g4, g5, g6, g7, g8, g9, g10⟩ hf_18 1)⟩, hfm_19⟩ dX7_image_23

theorem mX7_restore : zMd yX7_restore cX7_restore 1 (some .int) 0 := ⟨by decide +kernel, gt_of 1096 (by decide +kernel) rfl, gt_of 52 (by decide +kernel) rfl, by decide⟩
theorem dX7_restore_0 : decode cX7_restore 0 = .ok (.aload_n 0, 1) := by decide +kernel
theorem dX7_restore_1 : decode cX7_restore 1 = .ok (.iconst 0, 1) := by decide +kernel
theorem dX7_restore_2 : decode cX7_restore 2 = .ok (.putfield 57, 3) := by decide +kernel
theorem dX7_restore_5 : decode cX7_restore 5 = .ok (.aload_n 0, 1) := by decide +kernel
theorem dX7_restore_6 : decode cX7_restore 6 = .ok (.getfield 244, 3) := by decide +kernel
theorem fX7_244 : zFld RX7 244 7 28 := ⟨RX7, TX7, 39, rfl, inX7, by decide, rfl, Or.inl (gt_of 786 (by decide +kernel) rfl)⟩
theorem dX7_restore_9 : decode cX7_restore 9 = .ok (.ifCond .ne 6, 3) := by decide +kernel
theorem dX7_restore_15 : decode cX7_restore 15 = .ok (.aload_n 0, 1) := by decide +kernel
theorem dX7_restore_16 : decode cX7_restore 16 = .ok (.iconst 0, 1) := by decide +kernel
theorem dX7_restore_17 : decode cX7_restore 17 = .ok (.putfield 235, 3) := by decide +kernel
theorem dX7_restore_20 : decode cX7_restore 20 = .ok (.aload_n 0, 1) := by decide +kernel
theorem dX7_restore_21 : decode cX7_restore 21 = .ok (.invokevirtual 247, 3) := by decide +kernel
theorem dX7_restore_24 : decode cX7_restore 24 = .ok (.aload_n 0, 1) := by decide +kernel
theorem dX7_restore_25 : decode cX7_restore 25 = .ok (.getfield 148, 3) := by decide +kernel
theorem dX7_restore_28 : decode cX7_restore 28 = .ok (.ireturn, 1) := by decide +kernel
theorem dX7_restore_12 : decode cX7_restore 12 = .ok (.bipush (-3), 2) := by decide +kernel
theorem dX7_restore_14 : decode cX7_restore 14 = .ok (.ireturn, 1) := by decide +kernel
set_option maxRecDepth 100000 in
theorem c_X7_restore (l : Launch) (D : va_G) (cy : Nat → Nat) (n : Nat) (ad : Nat → Nat) (F : Nat → va_E) (sz : Nat) (th0 pic : Int32) (sc ps : Scn) (sh : Nat → Shf) (hn : 68 ≤ n) (hX : RM ad cy F th0 pic sc ps sh) (hG : gX sc ps sh) : Met l yX7_restore (zw yX7_restore cX7_restore 1 (some .int)) (rmL 2) (zPc D cy n ad F sz [.ref (ad 56)]) (va_Qi (fun r F1 => r = (if pic = 0 then -3 else ps.2.2.2.2.1) ∧ RM ad cy F1 0 pic (if pic = 0 then sc else ps) ps sh ∧ frM F F1) (zB D n ad) (zA n ad sz)) 0 0 (zA n ad sz) := by
  refine zmet (by decide +kernel) (Nat.le_of_ble_eq_true rfl) (fun p e s m args below meth c ls hC hsz hZ hA hr hlocks hnm hl => ?_)
  have hC : zC p m c cX7_restore 1 s args RX7 D cy := hC
  have hx := hC.1.1
  have hb := hC.1.2.1
  have hl : lv_has ls 1 [(0, .ref (ad 56))] := hl
  obtain ⟨bs, en, u, st, kk, dw, ho, sv, ia, tk, told, pl, nu, im, hw, kd, fg, so, mn, rw0, bt, hM, h57, h58, h59, h60, h61, h62, h63, h64, h65, h66, h67, hR⟩ := hX
  have hRS := hR.2.2
  have hHW := rX_hw hR
  refine lv_aload_n hx hb dX7_restore_0 rfl (lv_at hl 0 rfl) ?_
  refine lv_iconst (v := 0) hx hb dX7_restore_1 (by decide) ?_
  refine zput (E := oModel ad sc.1 sc.2.1 sc.2.2.2.1 sc.2.2.2.2 0 bs en u st kk dw ho sv pic ia tk) hC hZ pX7_57 (zlt hn rfl) hM rfl rfl rfl (Nat.le_of_ble_eq_true rfl) dX7_restore_2 (fun F_1 hF_2 H locs hZ => ?_)
  have h_3 := zeq hF_2
  refine lv_aload_n hx hb dX7_restore_5 rfl (lv_at hl 0 rfl) ?_
  refine zget hC hZ fX7_244 (zlt hn rfl) h_3 rfl dX7_restore_6 ?_
  refine lv_if_ne (tgt := 15) hx hb dX7_restore_9 (by decide) (fun c_9 => ?_) (fun c_9 => ?_)
  · refine lv_aload_n hx hb dX7_restore_15 rfl (lv_at hl 0 rfl) ?_
    refine lv_iconst (v := 0) hx hb dX7_restore_16 (by decide) ?_
    refine zput (E := oModel ad sc.1 sc.2.1 sc.2.2.2.1 sc.2.2.2.2 0 bs en u st kk dw ho sv pic ia 0) hC hZ pX7_235 (zlt hn rfl) h_3 rfl rfl rfl (Nat.le_of_ble_eq_true rfl) dX7_restore_17 (fun F_4 hF_5 H locs hZ => ?_)
    have h_6 := zeq hF_5
    refine lv_aload_n hx hb dX7_restore_20 rfl (lv_at hl 0 rfl) ?_
    refine zgov hZ hA (zrunV (As := []) (rest := []) (k := 56) hC hZ (c_X7_carryAllR l D cy n ad F_4 H.size sc.1 sc.2.1 sc.2.2.2.1 sc.2.2.2.2 0 bs en u st kk dw ho sv pic ia 0 hn h_6 told (zne hF_5 (by decide) (zne hF_2 (by decide) h57)) im (zne hF_5 (by decide) (zne hF_2 (by decide) h60)) (by decide)) mX7_carryAll vX7_carryAll kX7_247 (zRj_of rfl) (zlt hn rfl) h_6 rfl rfl hl.1 rfl (Nat.le_of_ble_eq_true rfl) dX7_restore_21 ⟨Nat.le_refl _, Nat.le_refl _⟩) (fun F_7 hp_9 H locs hZ => ?_)
    obtain ⟨f_10, h57_12, hf_15, h56_11, h60_13, hfr_14⟩ := hp_9
    obtain ⟨g0, g1, g2, g3, g4, g5, g6, g7, g8, g9, g10, hgt9⟩ := hR.2.1 c_9
    rw [g0, g1, g2, g3, g4, g5, g6, g7, g8, g9, g10] at h56_11
    refine lv_aload_n hx hb dX7_restore_24 rfl (lv_at hl 0 rfl) ?_
    refine zget hC hZ fX7_148 (zlt hn rfl) h56_11 rfl dX7_restore_25 ?_
    have hq : (ps.2.2.2.2.1 : Int32) = (if pic = 0 then -3 else ps.2.2.2.2.1) := by exact (if_neg c_9).symm
    have hfm_16 : frM F F_7 := (frM_P (frM_up (frM_up frM_rf hF_2 (by decide) (by decide)) hF_5 (by decide) (by decide)) hfr_14 (by decide))
    exact zireti hC hZ hr hlocks ⟨hq, (by rw [if_neg c_9]; exact ⟨⟨bs, en, u, st, kk, dw, ho, sv, (nI 43), 0, f_10, pl, nu, im, hw, kd, fg, so, mn, rw0, bt, h56_11, h57_12, ((hfr_14 58 (by decide)).trans (zne hF_5 (by decide) (zne hF_2 (by decide) h58))), ((hfr_14 59 (by decide)).trans (zne hF_5 (by decide) (zne hF_2 (by decide) h59))), h60_13, ((hfr_14 61 (by decide)).trans (zne hF_5 (by decide) (zne hF_2 (by decide) h61))), ((hfr_14 62 (by decide)).trans (zne hF_5 (by decide) (zne hF_2 (by decide) h62))), ((hfr_14 63 (by decide)).trans (zne hF_5 (by decide) (zne hF_2 (by decide) h63))), ((hfr_14 64 (by decide)).trans (zne hF_5 (by decide) (zne hF_2 (by decide) h64))), ((hfr_14 65 (by decide)).trans (zne hF_5 (by decide) (zne hF_2 (by decide) h65))), ((hfr_14 66 (by decide)).trans (zne hF_5 (by decide) (zne hF_2 (by decide) h66))), ((hfr_14 67 (by decide)).trans (zne hF_5 (by decide) (zne hF_2 (by decide) h67))), (rX_restore hR c_9 hG.2.1 hf_15)⟩, hfm_16⟩)⟩ dX7_restore_28
  · refine lv_bipush (v := (-3)) hx hb dX7_restore_12 (by decide) ?_
    have hq : ((-3) : Int32) = (if pic = 0 then -3 else ps.2.2.2.2.1) := by exact (if_pos c_9).symm
    have hfm_17 : frM F F_1 := (frM_up frM_rf hF_2 (by decide) (by decide))
    exact zireti hC hZ hr hlocks ⟨hq, (by rw [if_pos c_9]; exact ⟨⟨bs, en, u, st, kk, dw, ho, sv, ia, tk, told, pl, nu, im, hw, kd, fg, so, mn, rw0, bt, h_3, (zne hF_2 (by decide) h57), (zne hF_2 (by decide) h58), (zne hF_2 (by decide) h59), (zne hF_2 (by decide) h60), (zne hF_2 (by decide) h61), (zne hF_2 (by decide) h62), (zne hF_2 (by decide) h63), (zne hF_2 (by decide) h64), (zne hF_2 (by decide) h65), (zne hF_2 (by decide) h66), (zne hF_2 (by decide) h67), hR⟩, hfm_17⟩)⟩ dX7_restore_14

theorem mX7_toss : zMd yX7_toss cX7_toss 4 (some .int) 1 := ⟨by decide +kernel, gt_of 1135 (by decide +kernel) rfl, gt_of 52 (by decide +kernel) rfl, by decide⟩
theorem dX7_toss_0 : decode cX7_toss 0 = .ok (.aload_n 0, 1) := by decide +kernel
theorem dX7_toss_1 : decode cX7_toss 1 = .ok (.iconst 0, 1) := by decide +kernel
theorem dX7_toss_2 : decode cX7_toss 2 = .ok (.putfield 57, 3) := by decide +kernel
theorem dX7_toss_5 : decode cX7_toss 5 = .ok (.aload_n 0, 1) := by decide +kernel
theorem dX7_toss_6 : decode cX7_toss 6 = .ok (.iload_n 1, 1) := by decide +kernel
theorem dX7_toss_7 : decode cX7_toss 7 = .ok (.invokevirtual 142, 3) := by decide +kernel
theorem dX7_toss_10 : decode cX7_toss 10 = .ok (.ifCond .ge 9, 3) := by decide +kernel
theorem dX7_toss_19 : decode cX7_toss 19 = .ok (.aload_n 0, 1) := by decide +kernel
theorem dX7_toss_20 : decode cX7_toss 20 = .ok (.getfield 38, 3) := by decide +kernel
theorem dX7_toss_23 : decode cX7_toss 23 = .ok (.iload_n 1, 1) := by decide +kernel
theorem dX7_toss_24 : decode cX7_toss 24 = .ok (.iaload, 1) := by decide +kernel
theorem dX7_toss_25 : decode cX7_toss 25 = .ok (.istore_n 2, 1) := by decide +kernel
theorem dX7_toss_26 : decode cX7_toss 26 = .ok (.aload_n 0, 1) := by decide +kernel
theorem dX7_toss_27 : decode cX7_toss 27 = .ok (.getfield 41, 3) := by decide +kernel
theorem dX7_toss_30 : decode cX7_toss 30 = .ok (.iload_n 1, 1) := by decide +kernel
theorem dX7_toss_31 : decode cX7_toss 31 = .ok (.iaload, 1) := by decide +kernel
theorem dX7_toss_32 : decode cX7_toss 32 = .ok (.istore_n 3, 1) := by decide +kernel
theorem dX7_toss_33 : decode cX7_toss 33 = .ok (.iload_n 2, 1) := by decide +kernel
theorem dX7_toss_34 : decode cX7_toss 34 = .ok (.iconst 5, 1) := by decide +kernel
theorem dX7_toss_35 : decode cX7_toss 35 = .ok (.if_icmp .eq 7, 3) := by decide +kernel
theorem dX7_toss_42 : decode cX7_toss 42 = .ok (.bipush (-15), 2) := by decide +kernel
theorem dX7_toss_44 : decode cX7_toss 44 = .ok (.ireturn, 1) := by decide +kernel
theorem dX7_toss_38 : decode cX7_toss 38 = .ok (.iload_n 3, 1) := by decide +kernel
theorem dX7_toss_39 : decode cX7_toss 39 = .ok (.ifCond .ne 6, 3) := by decide +kernel
theorem dX7_toss_45 : decode cX7_toss 45 = .ok (.iload_n 2, 1) := by decide +kernel
theorem dX7_toss_46 : decode cX7_toss 46 = .ok (.iconst 2, 1) := by decide +kernel
theorem dX7_toss_47 : decode cX7_toss 47 = .ok (.if_icmp .ne 10, 3) := by decide +kernel
theorem dX7_toss_57 : decode cX7_toss 57 = .ok (.iload_n 2, 1) := by decide +kernel
theorem dX7_toss_58 : decode cX7_toss 58 = .ok (.bipush 7, 2) := by decide +kernel
theorem dX7_toss_60 : decode cX7_toss 60 = .ok (.if_icmp .ne 15, 3) := by decide +kernel
theorem dX7_toss_75 : decode cX7_toss 75 = .ok (.iload_n 3, 1) := by decide +kernel
theorem dX7_toss_76 : decode cX7_toss 76 = .ok (.ireturn, 1) := by decide +kernel
theorem dX7_toss_63 : decode cX7_toss 63 = .ok (.sipush 200, 3) := by decide +kernel
theorem dX7_toss_66 : decode cX7_toss 66 = .ok (.aload_n 0, 1) := by decide +kernel
theorem dX7_toss_67 : decode cX7_toss 67 = .ok (.iload_n 1, 1) := by decide +kernel
theorem dX7_toss_68 : decode cX7_toss 68 = .ok (.invokevirtual 254, 3) := by decide +kernel
theorem dX7_toss_71 : decode cX7_toss 71 = .ok (.iadd, 1) := by decide +kernel
theorem dX7_toss_72 : decode cX7_toss 72 = .ok (.goto 4, 3) := by decide +kernel
theorem dX7_toss_50 : decode cX7_toss 50 = .ok (.bipush 100, 2) := by decide +kernel
theorem dX7_toss_52 : decode cX7_toss 52 = .ok (.iload_n 3, 1) := by decide +kernel
theorem dX7_toss_53 : decode cX7_toss 53 = .ok (.iadd, 1) := by decide +kernel
theorem dX7_toss_54 : decode cX7_toss 54 = .ok (.goto 22, 3) := by decide +kernel
theorem dX7_toss_13 : decode cX7_toss 13 = .ok (.aload_n 0, 1) := by decide +kernel
theorem dX7_toss_14 : decode cX7_toss 14 = .ok (.iload_n 1, 1) := by decide +kernel
theorem dX7_toss_15 : decode cX7_toss 15 = .ok (.invokevirtual 142, 3) := by decide +kernel
theorem dX7_toss_18 : decode cX7_toss 18 = .ok (.ireturn, 1) := by decide +kernel
set_option maxRecDepth 100000 in
theorem c_X7_toss (l : Launch) (D : va_G) (cy : Nat → Nat) (n : Nat) (ad : Nat → Nat) (F : Nat → va_E) (sz : Nat) (th0 pic : Int32) (sc ps : Scn) (sh : Nat → Shf) (hn : 68 ≤ n) (hX : RM ad cy F th0 pic sc ps sh) (hG : gX sc ps sh) (d : Int32) : Met l yX7_toss (zw yX7_toss cX7_toss 4 (some .int)) (rmL 2) (zPc D cy n ad F sz [.ref (ad 56), .int d]) (va_Qi (fun r F1 => r = zr True (sStR sh d) (sToss (sh (iN d)).2.1) ∧ RM ad cy F1 0 pic sc ps sh ∧ frM F F1) (zB D n ad) (zA n ad sz)) 0 0 (zA n ad sz) := by
  refine zmet (by decide +kernel) (Nat.le_of_ble_eq_true rfl) (fun p e s m args below meth c ls hC hsz hZ hA hr hlocks hnm hl => ?_)
  have hC : zC p m c cX7_toss 4 s args RX7 D cy := hC
  have hx := hC.1.1
  have hb := hC.1.2.1
  have hl : lv_has ls 4 [(0, .ref (ad 56)), (1, .int d)] := hl
  obtain ⟨bs, en, u, st, kk, dw, ho, sv, ia, tk, told, pl, nu, im, hw, kd, fg, so, mn, rw0, bt, hM, h57, h58, h59, h60, h61, h62, h63, h64, h65, h66, h67, hR⟩ := hX
  have hRS := hR.2.2
  have hHW := rX_hw hR
  refine lv_aload_n hx hb dX7_toss_0 rfl (lv_at hl 0 rfl) ?_
  refine lv_iconst (v := 0) hx hb dX7_toss_1 (by decide) ?_
  refine zput (E := oModel ad sc.1 sc.2.1 sc.2.2.2.1 sc.2.2.2.2 0 bs en u st kk dw ho sv pic ia tk) hC hZ pX7_57 (zlt hn rfl) hM rfl rfl rfl (Nat.le_of_ble_eq_true rfl) dX7_toss_2 (fun F_1 hF_2 H locs hZ => ?_)
  have h_3 := zeq hF_2
  refine lv_aload_n hx hb dX7_toss_5 rfl (lv_at hl 0 rfl) ?_
  refine lv_iload_n hx hb dX7_toss_6 rfl (lv_at hl 1 rfl) ?_
  refine zgoi hZ hA (zrunV (As := [.int d]) (rest := []) (k := 56) hC hZ (c_X7_wrongStory l D cy n ad F_1 H.size sc.1 sc.2.1 sc.2.2.2.1 sc.2.2.2.2 0 bs en u st kk dw ho sv pic ia tk hn h_3 hw (zne hF_2 (by decide) h61) d) mX7_wrongStory vX7_wrongStory kX7_142 (zRj_of rfl) (zlt hn rfl) h_3 rfl rfl hl.1 rfl (Nat.le_of_ble_eq_true rfl) dX7_toss_7 ⟨Nat.le_refl _, Nat.le_refl _⟩) (fun r_5 F_4 hp_6 H locs hZ => ?_)
  rw [mStR_eq hHW] at hp_6
  obtain ⟨rfl, rfl⟩ := hp_6
  refine lv_if_ge (tgt := 19) hx hb dX7_toss_10 (by decide) (fun c_10 => ?_) (fun c_10 => ?_)
  · refine lv_aload_n hx hb dX7_toss_19 rfl (lv_at hl 0 rfl) ?_
    refine zget hC hZ fX7_38 (zlt hn rfl) h_3 rfl dX7_toss_20 ?_
    refine lv_iload_n hx hb dX7_toss_23 rfl (lv_at hl 1 rfl) ?_
    have hz_7 : (sStR sh d) = 0 := sStR_ge (Int32.not_lt.mpr c_10)
    have hs := sStR_0 hz_7
    have hd := hs.1
    have ht : (sh (iN d)).2.1 = (kd (iN d), fg (iN d)) := (hRS _ hd.2).2.1 hs.2
    have hgt : gT (kd (iN d), fg (iN d)) := by rw [← ht]; exact (hG.2.2 _ hd.2).1 hs.2
    refine ziald hC hZ (zlt hn rfl) (zne hF_2 (by decide) h62) hd.1 hd.2 (by decide) dX7_toss_24 ?_
    refine lv_istore_n (lv' := [(2, .int (kd (iN d))), (0, .ref (ad 56)), (1, .int d)]) hx hb dX7_toss_25 rfl hl (by decide) rfl (fun ls hl => ?_)
    refine lv_aload_n hx hb dX7_toss_26 rfl (lv_at hl 1 rfl) ?_
    refine zget hC hZ fX7_41 (zlt hn rfl) h_3 rfl dX7_toss_27 ?_
    refine lv_iload_n hx hb dX7_toss_30 rfl (lv_at hl 2 rfl) ?_
    refine ziald hC hZ (zlt hn rfl) (zne hF_2 (by decide) h63) hd.1 hd.2 (by decide) dX7_toss_31 ?_
    refine lv_istore_n (lv' := [(3, .int (fg (iN d))), (2, .int (kd (iN d))), (0, .ref (ad 56)), (1, .int d)]) hx hb dX7_toss_32 rfl hl (by decide) rfl (fun ls hl => ?_)
    refine lv_iload_n hx hb dX7_toss_33 rfl (lv_at hl 1 rfl) ?_
    refine lv_iconst (v := 5) hx hb dX7_toss_34 (by decide) ?_
    refine lv_icmp_eq (tgt := 42) hx hb dX7_toss_35 (by decide) (fun c_35 => ?_) (fun c_35 => ?_)
    · refine lv_bipush (v := (-15)) hx hb dX7_toss_42 (by decide) ?_
      have hv : ((-15) : Int32) = sToss (sh (iN d)).2.1 := by rw [ht]; unfold sToss; simp [c_35]
      have hq : ((-15) : Int32) = zr True (sStR sh d) (sToss (sh (iN d)).2.1) := by exact hv.trans (zr_ok trivial hz_7).symm
      have hfm_8 : frM F F_1 := (frM_up frM_rf hF_2 (by decide) (by decide))
      exact zireti hC hZ hr hlocks ⟨hq, ⟨bs, en, u, st, kk, dw, ho, sv, ia, tk, told, pl, nu, im, hw, kd, fg, so, mn, rw0, bt, h_3, (zne hF_2 (by decide) h57), (zne hF_2 (by decide) h58), (zne hF_2 (by decide) h59), (zne hF_2 (by decide) h60), (zne hF_2 (by decide) h61), (zne hF_2 (by decide) h62), (zne hF_2 (by decide) h63), (zne hF_2 (by decide) h64), (zne hF_2 (by decide) h65), (zne hF_2 (by decide) h66), (zne hF_2 (by decide) h67), hR⟩, hfm_8⟩ dX7_toss_44
    · refine lv_iload_n hx hb dX7_toss_38 rfl (lv_at hl 0 rfl) ?_
      refine lv_if_ne (tgt := 45) hx hb dX7_toss_39 (by decide) (fun c_39 => ?_) (fun c_39 => ?_)
      · refine lv_iload_n hx hb dX7_toss_45 rfl (lv_at hl 1 rfl) ?_
        refine lv_iconst (v := 2) hx hb dX7_toss_46 (by decide) ?_
        refine lv_icmp_ne (tgt := 57) hx hb dX7_toss_47 (by decide) (fun c_47 => ?_) (fun c_47 => ?_)
        · refine lv_iload_n hx hb dX7_toss_57 rfl (lv_at hl 1 rfl) ?_
          refine lv_bipush (v := 7) hx hb dX7_toss_58 (by decide) ?_
          refine lv_icmp_ne (tgt := 75) hx hb dX7_toss_60 (by decide) (fun c_60 => ?_) (fun c_60 => ?_)
          · refine lv_iload_n hx hb dX7_toss_75 rfl (lv_at hl 0 rfl) ?_
            have hv : ((fg (iN d)) : Int32) = sToss (sh (iN d)).2.1 := by rw [ht]; unfold sToss; simp [c_35, c_39, c_47, c_60]
            have hq : ((fg (iN d)) : Int32) = zr True (sStR sh d) (sToss (sh (iN d)).2.1) := by exact hv.trans (zr_ok trivial hz_7).symm
            have hfm_9 : frM F F_1 := (frM_up frM_rf hF_2 (by decide) (by decide))
            exact zireti hC hZ hr hlocks ⟨hq, ⟨bs, en, u, st, kk, dw, ho, sv, ia, tk, told, pl, nu, im, hw, kd, fg, so, mn, rw0, bt, h_3, (zne hF_2 (by decide) h57), (zne hF_2 (by decide) h58), (zne hF_2 (by decide) h59), (zne hF_2 (by decide) h60), (zne hF_2 (by decide) h61), (zne hF_2 (by decide) h62), (zne hF_2 (by decide) h63), (zne hF_2 (by decide) h64), (zne hF_2 (by decide) h65), (zne hF_2 (by decide) h66), (zne hF_2 (by decide) h67), hR⟩, hfm_9⟩ dX7_toss_76
          · refine lv_sipush (v := 200) hx hb dX7_toss_63 (by decide) ?_
            refine lv_aload_n hx hb dX7_toss_66 rfl (lv_at hl 2 rfl) ?_
            refine lv_iload_n hx hb dX7_toss_67 rfl (lv_at hl 3 rfl) ?_
            refine zgoi hZ hA (zrunV (As := [.int d]) (rest := [.int 200]) (k := 56) hC hZ (c_X7_waitOf l D cy n ad F_1 H.size sc.1 sc.2.1 sc.2.2.2.1 sc.2.2.2.2 0 bs en u st kk dw ho sv pic ia tk hn h_3 kd (zne hF_2 (by decide) h62) fg (zne hF_2 (by decide) h63) d hd hgt) mX7_waitOf vX7_waitOf kX7_254 (zRj_of rfl) (zlt hn rfl) h_3 rfl rfl hl.1 rfl (Nat.le_of_ble_eq_true rfl) dX7_toss_68 ⟨Nat.le_refl _, Nat.le_refl _⟩) (fun r_11 F_10 hp_12 H locs hZ => ?_)
            obtain ⟨rfl, rfl⟩ := hp_12
            refine lv_iadd hx hb dX7_toss_71 ?_
            refine lv_goto (tgt := 76) hx hb dX7_toss_72 (by decide) ?_
            have hv : ((200 + (sWait (kd (iN d), fg (iN d)))) : Int32) = sToss (sh (iN d)).2.1 := by rw [ht]; unfold sToss; simp [c_35, c_39, c_47, c_60]
            have hq : ((200 + (sWait (kd (iN d), fg (iN d)))) : Int32) = zr True (sStR sh d) (sToss (sh (iN d)).2.1) := by exact hv.trans (zr_ok trivial hz_7).symm
            have hfm_13 : frM F F_1 := (frM_up frM_rf hF_2 (by decide) (by decide))
            exact zireti hC hZ hr hlocks ⟨hq, ⟨bs, en, u, st, kk, dw, ho, sv, ia, tk, told, pl, nu, im, hw, kd, fg, so, mn, rw0, bt, h_3, (zne hF_2 (by decide) h57), (zne hF_2 (by decide) h58), (zne hF_2 (by decide) h59), (zne hF_2 (by decide) h60), (zne hF_2 (by decide) h61), (zne hF_2 (by decide) h62), (zne hF_2 (by decide) h63), (zne hF_2 (by decide) h64), (zne hF_2 (by decide) h65), (zne hF_2 (by decide) h66), (zne hF_2 (by decide) h67), hR⟩, hfm_13⟩ dX7_toss_76
        · refine lv_bipush (v := 100) hx hb dX7_toss_50 (by decide) ?_
          refine lv_iload_n hx hb dX7_toss_52 rfl (lv_at hl 0 rfl) ?_
          refine lv_iadd hx hb dX7_toss_53 ?_
          refine lv_goto (tgt := 76) hx hb dX7_toss_54 (by decide) ?_
          have hv : ((100 + (fg (iN d))) : Int32) = sToss (sh (iN d)).2.1 := by rw [ht]; unfold sToss; simp [c_35, c_39, c_47]
          have hq : ((100 + (fg (iN d))) : Int32) = zr True (sStR sh d) (sToss (sh (iN d)).2.1) := by exact hv.trans (zr_ok trivial hz_7).symm
          have hfm_14 : frM F F_1 := (frM_up frM_rf hF_2 (by decide) (by decide))
          exact zireti hC hZ hr hlocks ⟨hq, ⟨bs, en, u, st, kk, dw, ho, sv, ia, tk, told, pl, nu, im, hw, kd, fg, so, mn, rw0, bt, h_3, (zne hF_2 (by decide) h57), (zne hF_2 (by decide) h58), (zne hF_2 (by decide) h59), (zne hF_2 (by decide) h60), (zne hF_2 (by decide) h61), (zne hF_2 (by decide) h62), (zne hF_2 (by decide) h63), (zne hF_2 (by decide) h64), (zne hF_2 (by decide) h65), (zne hF_2 (by decide) h66), (zne hF_2 (by decide) h67), hR⟩, hfm_14⟩ dX7_toss_76
      · refine lv_bipush (v := (-15)) hx hb dX7_toss_42 (by decide) ?_
        have hv : ((-15) : Int32) = sToss (sh (iN d)).2.1 := by rw [ht]; unfold sToss; simp [c_35, c_39]
        have hq : ((-15) : Int32) = zr True (sStR sh d) (sToss (sh (iN d)).2.1) := by exact hv.trans (zr_ok trivial hz_7).symm
        have hfm_15 : frM F F_1 := (frM_up frM_rf hF_2 (by decide) (by decide))
        exact zireti hC hZ hr hlocks ⟨hq, ⟨bs, en, u, st, kk, dw, ho, sv, ia, tk, told, pl, nu, im, hw, kd, fg, so, mn, rw0, bt, h_3, (zne hF_2 (by decide) h57), (zne hF_2 (by decide) h58), (zne hF_2 (by decide) h59), (zne hF_2 (by decide) h60), (zne hF_2 (by decide) h61), (zne hF_2 (by decide) h62), (zne hF_2 (by decide) h63), (zne hF_2 (by decide) h64), (zne hF_2 (by decide) h65), (zne hF_2 (by decide) h66), (zne hF_2 (by decide) h67), hR⟩, hfm_15⟩ dX7_toss_44
  · refine lv_aload_n hx hb dX7_toss_13 rfl (lv_at hl 0 rfl) ?_
    refine lv_iload_n hx hb dX7_toss_14 rfl (lv_at hl 1 rfl) ?_
    refine zgoi hZ hA (zrunV (As := [.int d]) (rest := []) (k := 56) hC hZ (c_X7_wrongStory l D cy n ad F_1 H.size sc.1 sc.2.1 sc.2.2.2.1 sc.2.2.2.2 0 bs en u st kk dw ho sv pic ia tk hn h_3 hw (zne hF_2 (by decide) h61) d) mX7_wrongStory vX7_wrongStory kX7_142 (zRj_of rfl) (zlt hn rfl) h_3 rfl rfl hl.1 rfl (Nat.le_of_ble_eq_true rfl) dX7_toss_15 ⟨Nat.le_refl _, Nat.le_refl _⟩) (fun r_17 F_16 hp_18 H locs hZ => ?_)
    rw [mStR_eq hHW] at hp_18
    obtain ⟨rfl, rfl⟩ := hp_18
    have hz_19 : (sStR sh d) < 0 := Int32.not_le.mp c_10
    have hq : ((sStR sh d) : Int32) = zr True (sStR sh d) (sToss (sh (iN d)).2.1) := by exact (zr_rf trivial (neg_n0 hz_19)).symm
    have hfm_20 : frM F F_1 := (frM_up frM_rf hF_2 (by decide) (by decide))
    exact zireti hC hZ hr hlocks ⟨hq, ⟨bs, en, u, st, kk, dw, ho, sv, ia, tk, told, pl, nu, im, hw, kd, fg, so, mn, rw0, bt, h_3, (zne hF_2 (by decide) h57), (zne hF_2 (by decide) h58), (zne hF_2 (by decide) h59), (zne hF_2 (by decide) h60), (zne hF_2 (by decide) h61), (zne hF_2 (by decide) h62), (zne hF_2 (by decide) h63), (zne hF_2 (by decide) h64), (zne hF_2 (by decide) h65), (zne hF_2 (by decide) h66), (zne hF_2 (by decide) h67), hR⟩, hfm_20⟩ dX7_toss_18
