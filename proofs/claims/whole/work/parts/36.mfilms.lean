theorem mX7_films : zMd yX7_films cX7_films 7 (some .int) 3 := ⟨by decide +kernel, gt_of 1006 (by decide +kernel) rfl, gt_of 52 (by decide +kernel) rfl, by decide⟩
theorem dX7_films_0 : decode cX7_films 0 = .ok (.aload_n 0, 1) := by decide +kernel
theorem dX7_films_1 : decode cX7_films 1 = .ok (.iconst 0, 1) := by decide +kernel
theorem dX7_films_2 : decode cX7_films 2 = .ok (.putfield 57, 3) := by decide +kernel
theorem dX7_films_5 : decode cX7_films 5 = .ok (.iload_n 2, 1) := by decide +kernel
theorem dX7_films_6 : decode cX7_films 6 = .ok (.i2l, 1) := by decide +kernel
theorem dX7_films_7 : decode cX7_films 7 = .ok (.lconst 0, 1) := by decide +kernel
theorem dX7_films_8 : decode cX7_films 8 = .ok (.ldc2_w 210, 3) := by decide +kernel
theorem dX7_films_11 : decode cX7_films 11 = .ok (.invokestatic 63, 3) := by decide +kernel
theorem dX7_films_14 : decode cX7_films 14 = .ok (.ifCond .eq 15, 3) := by decide +kernel
theorem dX7_films_17 : decode cX7_films 17 = .ok (.iload_n 3, 1) := by decide +kernel
theorem dX7_films_18 : decode cX7_films 18 = .ok (.i2l, 1) := by decide +kernel
theorem dX7_films_19 : decode cX7_films 19 = .ok (.lconst 0, 1) := by decide +kernel
theorem dX7_films_20 : decode cX7_films 20 = .ok (.ldc2_w 212, 3) := by decide +kernel
theorem qX7_212 : Cond.constantLong RX7 212 9999 ∈ gtbl := gt_of 1008 (by decide +kernel) rfl
theorem dX7_films_23 : decode cX7_films 23 = .ok (.invokestatic 63, 3) := by decide +kernel
theorem dX7_films_26 : decode cX7_films 26 = .ok (.ifCond .ne 7, 3) := by decide +kernel
theorem dX7_films_33 : decode cX7_films 33 = .ok (.aload_n 0, 1) := by decide +kernel
theorem dX7_films_34 : decode cX7_films 34 = .ok (.iload_n 1, 1) := by decide +kernel
theorem dX7_films_35 : decode cX7_films 35 = .ok (.invokevirtual 214, 3) := by decide +kernel
theorem kX7_214 : zLk RX7 214 yX7_wrongFilms := Or.inl (gt_of 1009 (by decide +kernel) rfl)
theorem vX7_wrongFilms : zMi yX7_wrongFilms := ⟨gt_of 1011 (by decide +kernel) rfl, gt_of 35 (by decide +kernel) rfl⟩
theorem dX7_films_38 : decode cX7_films 38 = .ok (.istore 4, 2) := by decide +kernel
theorem dX7_films_40 : decode cX7_films 40 = .ok (.iload 4, 2) := by decide +kernel
theorem dX7_films_42 : decode cX7_films 42 = .ok (.ifCond .ge 6, 3) := by decide +kernel
theorem dX7_films_48 : decode cX7_films 48 = .ok (.iconst 0, 1) := by decide +kernel
theorem dX7_films_49 : decode cX7_films 49 = .ok (.istore 5, 2) := by decide +kernel
theorem dX7_films_51 : decode cX7_films 51 = .ok (.iconst 0, 1) := by decide +kernel
theorem dX7_films_52 : decode cX7_films 52 = .ok (.istore 6, 2) := by decide +kernel
theorem dX7_films_54 : decode cX7_films 54 = .ok (.iload 6, 2) := by decide +kernel
theorem dX7_films_56 : decode cX7_films 56 = .ok (.bipush 8, 2) := by decide +kernel
theorem dX7_films_58 : decode cX7_films 58 = .ok (.if_icmp .ge 34, 3) := by decide +kernel
theorem dX7_films_92 : decode cX7_films 92 = .ok (.iload 5, 2) := by decide +kernel
theorem dX7_films_94 : decode cX7_films 94 = .ok (.ireturn, 1) := by decide +kernel
theorem dX7_films_61 : decode cX7_films 61 = .ok (.iload 5, 2) := by decide +kernel
theorem dX7_films_63 : decode cX7_films 63 = .ok (.aload_n 0, 1) := by decide +kernel
theorem dX7_films_64 : decode cX7_films 64 = .ok (.iload 6, 2) := by decide +kernel
theorem dX7_films_66 : decode cX7_films 66 = .ok (.iload_n 2, 1) := by decide +kernel
theorem dX7_films_67 : decode cX7_films 67 = .ok (.iload_n 1, 1) := by decide +kernel
theorem dX7_films_68 : decode cX7_films 68 = .ok (.iload_n 3, 1) := by decide +kernel
theorem dX7_films_69 : decode cX7_films 69 = .ok (.invokevirtual 217, 3) := by decide +kernel
theorem kX7_217 : zLk RX7 217 yX7_isLet := Or.inl (gt_of 1013 (by decide +kernel) rfl)
theorem vX7_isLet : zMi yX7_isLet := ⟨gt_of 1015 (by decide +kernel) rfl, gt_of 36 (by decide +kernel) rfl⟩
theorem dX7_films_72 : decode cX7_films 72 = .ok (.ifCond .eq 10, 3) := by decide +kernel
theorem dX7_films_75 : decode cX7_films 75 = .ok (.iconst 1, 1) := by decide +kernel
theorem dX7_films_76 : decode cX7_films 76 = .ok (.iload 6, 2) := by decide +kernel
theorem dX7_films_78 : decode cX7_films 78 = .ok (.ishl, 1) := by decide +kernel
theorem dX7_films_79 : decode cX7_films 79 = .ok (.goto 4, 3) := by decide +kernel
theorem dX7_films_83 : decode cX7_films 83 = .ok (.ior, 1) := by decide +kernel
theorem dX7_films_84 : decode cX7_films 84 = .ok (.istore 5, 2) := by decide +kernel
theorem dX7_films_86 : decode cX7_films 86 = .ok (.iinc 6 1, 3) := by decide +kernel
theorem dX7_films_89 : decode cX7_films 89 = .ok (.goto (-35), 3) := by decide +kernel
theorem dX7_films_82 : decode cX7_films 82 = .ok (.iconst 0, 1) := by decide +kernel
theorem dX7_films_45 : decode cX7_films 45 = .ok (.iload 4, 2) := by decide +kernel
theorem dX7_films_47 : decode cX7_films 47 = .ok (.ireturn, 1) := by decide +kernel
theorem dX7_films_29 : decode cX7_films 29 = .ok (.iconst (-1), 1) := by decide +kernel
theorem dX7_films_30 : decode cX7_films 30 = .ok (.goto 8, 3) := by decide +kernel
set_option maxRecDepth 100000 in
theorem c_X7_films (l : Launch) (D : va_G) (cy : Nat → Nat) (n : Nat) (ad : Nat → Nat) (F : Nat → va_E) (sz : Nat) (th0 pic : Int32) (sc ps : Scn) (sh : Nat → Shf) (hn : 68 ≤ n) (hX : RM ad cy F th0 pic sc ps sh) (hG : gX sc ps sh) (d f0 off : Int32) : Met l yX7_films (zw yX7_films cX7_films 7 (some .int)) (rmL 4) (zPc D cy n ad F sz [.ref (ad 56), .int d, .int f0, .int off]) (va_Qi (fun r F1 => r = zr (bIn f0 0 40 ∧ bIn off 0 9999) (sFilmR sc sh d) (zfold (sFilmF sc (sh (iN d)) f0 off) 8 0) ∧ RM ad cy F1 0 pic sc ps sh ∧ frM F F1) (zB D n ad) (zA n ad sz)) 0 0 (zA n ad sz) := by
  refine zmet (by decide +kernel) (Nat.le_of_ble_eq_true rfl) (fun p e s m args below meth c ls hC hsz hZ hA hr hlocks hnm hl => ?_)
  have hC : zC p m c cX7_films 7 s args RX7 D cy := hC
  have hx := hC.1.1
  have hb := hC.1.2.1
  have hl : lv_has ls 7 [(0, .ref (ad 56)), (1, .int d), (2, .int f0), (3, .int off)] := hl
  obtain ⟨bs, en, u, st, kk, dw, ho, sv, ia, tk, told, pl, nu, im, hw, kd, fg, so, mn, rw0, bt, hM, h57, h58, h59, h60, h61, h62, h63, h64, h65, h66, h67, hR⟩ := hX
  have hRS := hR.2.2
  have hHW := rX_hw hR
  refine lv_aload_n hx hb dX7_films_0 rfl (lv_at hl 0 rfl) ?_
  refine lv_iconst (v := 0) hx hb dX7_films_1 (by decide) ?_
  refine zput (E := oModel ad sc.1 sc.2.1 sc.2.2.2.1 sc.2.2.2.2 0 bs en u st kk dw ho sv pic ia tk) hC hZ pX7_57 (zlt hn rfl) hM rfl rfl rfl (Nat.le_of_ble_eq_true rfl) dX7_films_2 (fun F_1 hF_2 H locs hZ => ?_)
  have h_3 := zeq hF_2
  refine lv_iload_n hx hb dX7_films_5 rfl (lv_at hl 2 rfl) ?_
  refine lv_i2l (v := (f0).toInt64) hx hb dX7_films_6 (by rfl) ?_
  refine lv_lconst (v := 0) hx hb dX7_films_7 (by decide) ?_
  refine lv_ldc2 (v := 40) hx hb hC.1.2.2.2.1 (hC.1.2.2.2.2 _ qX7_210) dX7_films_8 ?_
  refine zgoi hZ hA (zrunS (As := [.long ((f0).toInt64), .long 0, .long 40]) (rest := []) hC hZ (c_X7_in l D cy n ad F_1 H.size f0 0 40 0 40 (by decide) (by decide)) mX7_in sX7_in kX7_63 (zRj_of rfl) rfl hl.1 rfl (Nat.le_of_ble_eq_true rfl) dX7_films_11 ⟨Nat.le_refl _, Nat.le_refl _⟩) (fun r_5 F_4 hp_6 H locs hZ => ?_)
  obtain ⟨hp_6, rfl⟩ := hp_6
  by_cases b_7 : bIn f0 0 40
  · rw [if_pos b_7] at hp_6
    subst hp_6
    refine lv_if_eq (tgt := 29) hx hb dX7_films_14 (by decide) (fun h => absurd (show (1 : Int32) = 0 from h) (by decide)) (fun _ => ?_)
    refine lv_iload_n hx hb dX7_films_17 rfl (lv_at hl 3 rfl) ?_
    refine lv_i2l (v := (off).toInt64) hx hb dX7_films_18 (by rfl) ?_
    refine lv_lconst (v := 0) hx hb dX7_films_19 (by decide) ?_
    refine lv_ldc2 (v := 9999) hx hb hC.1.2.2.2.1 (hC.1.2.2.2.2 _ qX7_212) dX7_films_20 ?_
    refine zgoi hZ hA (zrunS (As := [.long ((off).toInt64), .long 0, .long 9999]) (rest := []) hC hZ (c_X7_in l D cy n ad F_1 H.size off 0 9999 0 9999 (by decide) (by decide)) mX7_in sX7_in kX7_63 (zRj_of rfl) rfl hl.1 rfl (Nat.le_of_ble_eq_true rfl) dX7_films_23 ⟨Nat.le_refl _, Nat.le_refl _⟩) (fun r_9 F_8 hp_10 H locs hZ => ?_)
    obtain ⟨hp_10, rfl⟩ := hp_10
    by_cases b_11 : bIn off 0 9999
    · rw [if_pos b_11] at hp_10
      subst hp_10
      refine lv_if_ne (tgt := 33) hx hb dX7_films_26 (by decide) (fun _ => ?_) (fun h => absurd (show (1 : Int32) = 0 from h) (by decide))
      refine lv_aload_n hx hb dX7_films_33 rfl (lv_at hl 0 rfl) ?_
      refine lv_iload_n hx hb dX7_films_34 rfl (lv_at hl 1 rfl) ?_
      refine zgoi hZ hA (zrunV (As := [.int d]) (rest := []) (k := 56) hC hZ (c_X7_wrongFilms l D cy n ad F_1 H.size sc.1 sc.2.1 sc.2.2.2.1 sc.2.2.2.2 0 bs en u st kk dw ho sv pic ia tk hn h_3 hw (zne hF_2 (by decide) h61) mn (zne hF_2 (by decide) h65) d) mX7_wrongFilms vX7_wrongFilms kX7_214 (zRj_of rfl) (zlt hn rfl) h_3 rfl rfl hl.1 rfl (Nat.le_of_ble_eq_true rfl) dX7_films_35 ⟨Nat.le_refl _, Nat.le_refl _⟩) (fun r_13 F_12 hp_14 H locs hZ => ?_)
      rw [mFilmR_eq hRS] at hp_14
      obtain ⟨rfl, rfl⟩ := hp_14
      refine lv_istore (lv' := [(4, .int (sFilmR sc sh d)), (0, .ref (ad 56)), (1, .int d), (2, .int f0), (3, .int off)]) hx hb dX7_films_38 hl (by decide) rfl (fun ls hl => ?_)
      refine lv_iload hx hb dX7_films_40 (lv_at hl 0 rfl) ?_
      refine lv_if_ge (tgt := 48) hx hb dX7_films_42 (by decide) (fun c_42 => ?_) (fun c_42 => ?_)
      · refine lv_iconst (v := 0) hx hb dX7_films_48 (by decide) ?_
        refine lv_istore (lv' := [(5, .int 0), (4, .int (sFilmR sc sh d)), (0, .ref (ad 56)), (1, .int d), (2, .int f0), (3, .int off)]) hx hb dX7_films_49 hl (by decide) rfl (fun ls hl => ?_)
        refine lv_iconst (v := 0) hx hb dX7_films_51 (by decide) ?_
        refine lv_istore (lv' := [(6, .int 0), (5, .int 0), (4, .int (sFilmR sc sh d)), (0, .ref (ad 56)), (1, .int d), (2, .int f0), (3, .int off)]) hx hb dX7_films_52 hl (by decide) rfl (fun ls hl => ?_)
        have hz_15 : (sFilmR sc sh d) = 0 := sFilmR_ge (Int32.not_lt.mpr c_42)
        have hs := sFilmR_0 hz_15
        have hd := hs.1
        have hro := (hRS _ hd.2).2.2 hs.2
        have hfm9 := sFilmR_m hz_15
        have htc := tc_n hG.1
        refine zlp (X := Nat × Int32 × Int32 × Int32 × Int32) 54 (fun _ => []) (fun x ls F1 => lv_has ls 7 [(6, .int (nI x.1)), (5, .int x.2.1), (4, .int (sFilmR sc sh d)), (0, .ref (ad 56)), (1, .int d), (2, .int f0), (3, .int off)] ∧ F1 = va_up F_1 56 (oModel ad sc.1 sc.2.1 sc.2.2.2.1 sc.2.2.2.2 0 bs en u st x.2.2.1 x.2.2.2.1 x.2.2.2.2 sv pic ia tk) ∧ (x.1 ≤ 8) ∧ (x.2.1 = zfold (sFilmF sc (sh (iN d)) f0 off) x.1 0)) (fun x => 8 - x.1) ?_ (0, 0, kk, dw, ho) hZ ⟨hl, (zself h_3), (Nat.zero_le _), rfl⟩
        intro x ih54 ls F3_54 H locs hZ hφ
        obtain ⟨i, bt1, k1, d1, o1⟩ := x
        obtain ⟨hl, hF3_54, hi, hp⟩ := hφ
        have hl : lv_has ls 7 [(6, .int (nI i)), (5, .int bt1), (4, .int (sFilmR sc sh d)), (0, .ref (ad 56)), (1, .int d), (2, .int f0), (3, .int off)] := hl
        have hF3_54 : F3_54 = va_up F_1 56 (oModel ad sc.1 sc.2.1 sc.2.2.2.1 sc.2.2.2.2 0 bs en u st k1 d1 o1 sv pic ia tk) := hF3_54
        have hi : i ≤ 8 := hi
        have hp : bt1 = zfold (sFilmF sc (sh (iN d)) f0 off) i 0 := hp
        have h_16 := zeq hF3_54
        refine lv_iload hx hb dX7_films_54 (lv_at hl 0 rfl) ?_
        refine lv_bipush (v := 8) hx hb dX7_films_56 (by decide) ?_
        refine lv_icmp_ge (tgt := 92) hx hb dX7_films_58 (by decide) (fun c_58 => ?_) (fun c_58 => ?_)
        · refine lv_iload hx hb dX7_films_92 (lv_at hl 1 rfl) ?_
          have hiq : i = 8 := by have := nIge (N := 8) c_58 (by omega) rfl; omega
          have hv : (bt1 : Int32) = zfold (sFilmF sc (sh (iN d)) f0 off) 8 0 := by rw [hp, hiq]
          have hq : (bt1 : Int32) = zr (bIn f0 0 40 ∧ bIn off 0 9999) (sFilmR sc sh d) (zfold (sFilmF sc (sh (iN d)) f0 off) 8 0) := by exact hv.trans (zr_ok ⟨b_7, b_11⟩ hz_15).symm
          have hfm_17 : frM F F3_54 := (frM_up (frM_up frM_rf hF_2 (by decide) (by decide)) hF3_54 (by decide) (by decide))
          exact zireti hC hZ hr hlocks ⟨hq, ⟨bs, en, u, st, k1, d1, o1, sv, ia, tk, told, pl, nu, im, hw, kd, fg, so, mn, rw0, bt, h_16, (zne hF3_54 (by decide) (zne hF_2 (by decide) h57)), (zne hF3_54 (by decide) (zne hF_2 (by decide) h58)), (zne hF3_54 (by decide) (zne hF_2 (by decide) h59)), (zne hF3_54 (by decide) (zne hF_2 (by decide) h60)), (zne hF3_54 (by decide) (zne hF_2 (by decide) h61)), (zne hF3_54 (by decide) (zne hF_2 (by decide) h62)), (zne hF3_54 (by decide) (zne hF_2 (by decide) h63)), (zne hF3_54 (by decide) (zne hF_2 (by decide) h64)), (zne hF3_54 (by decide) (zne hF_2 (by decide) h65)), (zne hF3_54 (by decide) (zne hF_2 (by decide) h66)), (zne hF3_54 (by decide) (zne hF_2 (by decide) h67)), hR⟩, hfm_17⟩ dX7_films_94
        · refine lv_iload hx hb dX7_films_61 (lv_at hl 1 rfl) ?_
          refine lv_aload_n hx hb dX7_films_63 rfl (lv_at hl 3 rfl) ?_
          refine lv_iload hx hb dX7_films_64 (lv_at hl 0 rfl) ?_
          refine lv_iload_n hx hb dX7_films_66 rfl (lv_at hl 5 rfl) ?_
          refine lv_iload_n hx hb dX7_films_67 rfl (lv_at hl 4 rfl) ?_
          refine lv_iload_n hx hb dX7_films_68 rfl (lv_at hl 6 rfl) ?_
          have hoff := bIn_i b_11 (show (0 : Int32).toInt = 0 from rfl) (show (9999 : Int32).toInt = 9999 from rfl)
          refine zgoi hZ hA (zrunV (As := [.int (nI i), .int f0, .int d, .int off]) (rest := [.int bt1]) (k := 56) hC hZ (c_X7_isLet l D cy n ad F3_54 H.size sc.1 sc.2.1 sc.2.2.2.1 sc.2.2.2.2 0 bs en u st k1 d1 o1 sv pic ia tk hn h_16 told (zne hF3_54 (by decide) (zne hF_2 (by decide) h57)) so (zne hF3_54 (by decide) (zne hF_2 (by decide) h64)) rw0 (zne hF3_54 (by decide) (zne hF_2 (by decide) h66)) (nI i, f0) d off (sh (iN d)) sc hd hro.1 hfm9 rfl htc hro.2.2 hR.1 (gTn (by have := nIlt (N := 8) c_58 (by omega) rfl; omega) b_7) hG.1.2.2.2.1 hoff.1 hoff.2) mX7_isLet vX7_isLet kX7_217 (zRj_of rfl) (zlt hn rfl) h_16 rfl rfl hl.1 rfl (Nat.le_of_ble_eq_true rfl) dX7_films_69 ⟨Nat.le_refl _, Nat.le_refl _⟩) (fun r_19 F_18 hp_20 H locs hZ => ?_)
          obtain ⟨kk_21, dw_22, ho_23, h_24, hp_25⟩ := hp_20
          have h_26 := zeq hp_25
          by_cases b_27 : bFits (nI i, f0) (sh (iN d)) sc off
          · rw [if_pos b_27] at h_24
            subst h_24
            refine lv_if_eq (tgt := 82) hx hb dX7_films_72 (by decide) (fun h => absurd (show (1 : Int32) = 0 from h) (by decide)) (fun _ => ?_)
            refine lv_iconst (v := 1) hx hb dX7_films_75 (by decide) ?_
            refine lv_iload hx hb dX7_films_76 (lv_at hl 0 rfl) ?_
            refine lv_ishl hx hb dX7_films_78 ?_
            refine lv_goto (tgt := 83) hx hb dX7_films_79 (by decide) ?_
            refine lv_ior hx hb dX7_films_83 ?_
            refine lv_istore (lv' := [(5, .int (bt1 ||| (1 <<< (nI i &&& 31)))), (6, .int (nI i)), (4, .int (sFilmR sc sh d)), (0, .ref (ad 56)), (1, .int d), (2, .int f0), (3, .int off)]) hx hb dX7_films_84 hl (by decide) rfl (fun ls hl => ?_)
            refine lv_iinc (v := nI (i + 1)) (lv' := [(6, .int (nI (i + 1))), (5, .int (bt1 ||| (1 <<< (nI i &&& 31)))), (4, .int (sFilmR sc sh d)), (0, .ref (ad 56)), (1, .int d), (2, .int f0), (3, .int off)]) hx hb dX7_films_86 hl (k := 1) rfl (nI_1 i) (by decide) rfl (fun ls hl => ?_)
            refine lv_goto (tgt := 54) hx hb dX7_films_89 (by decide) ?_
            have hlt := nIlt (N := 8) c_58 (by omega) rfl
            have he_28 : F_18 = va_up F_1 56 (oModel ad sc.1 sc.2.1 sc.2.2.2.1 sc.2.2.2.2 0 bs en u st kk_21 dw_22 ho_23 sv pic ia tk) := by rw [hp_25, hF3_54]; simp only [bx_uu]
            exact ih54 ((i + 1), (bt1 ||| (1 <<< (nI i &&& 31))), kk_21, dw_22, ho_23) ls _ H locs (by show 8 - (i + 1) < 8 - i; omega) hZ ⟨hl, he_28, hlt, (by show (bt1 ||| (1 <<< (nI i &&& 31))) = (sFilmF sc (sh (iN d)) f0 off) i (zfold (sFilmF sc (sh (iN d)) f0 off) i 0); rw [← hp]; exact (if_pos b_27).symm)⟩
          · rw [if_neg b_27] at h_24
            subst h_24
            refine lv_if_eq (tgt := 82) hx hb dX7_films_72 (by decide) (fun _ => ?_) (fun h => absurd (show (0 : Int32) = 0 by decide) h)
            refine lv_iconst (v := 0) hx hb dX7_films_82 (by decide) ?_
            refine lv_ior hx hb dX7_films_83 ?_
            refine lv_istore (lv' := [(5, .int (bt1 ||| 0)), (6, .int (nI i)), (4, .int (sFilmR sc sh d)), (0, .ref (ad 56)), (1, .int d), (2, .int f0), (3, .int off)]) hx hb dX7_films_84 hl (by decide) rfl (fun ls hl => ?_)
            refine lv_iinc (v := nI (i + 1)) (lv' := [(6, .int (nI (i + 1))), (5, .int (bt1 ||| 0)), (4, .int (sFilmR sc sh d)), (0, .ref (ad 56)), (1, .int d), (2, .int f0), (3, .int off)]) hx hb dX7_films_86 hl (k := 1) rfl (nI_1 i) (by decide) rfl (fun ls hl => ?_)
            refine lv_goto (tgt := 54) hx hb dX7_films_89 (by decide) ?_
            have hlt := nIlt (N := 8) c_58 (by omega) rfl
            have he_29 : F_18 = va_up F_1 56 (oModel ad sc.1 sc.2.1 sc.2.2.2.1 sc.2.2.2.2 0 bs en u st kk_21 dw_22 ho_23 sv pic ia tk) := by rw [hp_25, hF3_54]; simp only [bx_uu]
            exact ih54 ((i + 1), (bt1 ||| 0), kk_21, dw_22, ho_23) ls _ H locs (by show 8 - (i + 1) < 8 - i; omega) hZ ⟨hl, he_29, hlt, (by show (bt1 ||| 0) = (sFilmF sc (sh (iN d)) f0 off) i (zfold (sFilmF sc (sh (iN d)) f0 off) i 0); rw [← hp]; exact Int32.or_zero.trans (if_neg b_27).symm)⟩
      · refine lv_iload hx hb dX7_films_45 (lv_at hl 0 rfl) ?_
        have hz_30 : (sFilmR sc sh d) < 0 := Int32.not_le.mp c_42
        have hq : ((sFilmR sc sh d) : Int32) = zr (bIn f0 0 40 ∧ bIn off 0 9999) (sFilmR sc sh d) (zfold (sFilmF sc (sh (iN d)) f0 off) 8 0) := by exact (zr_rf ⟨b_7, b_11⟩ (neg_n0 hz_30)).symm
        have hfm_31 : frM F F_1 := (frM_up frM_rf hF_2 (by decide) (by decide))
        exact zireti hC hZ hr hlocks ⟨hq, ⟨bs, en, u, st, kk, dw, ho, sv, ia, tk, told, pl, nu, im, hw, kd, fg, so, mn, rw0, bt, h_3, (zne hF_2 (by decide) h57), (zne hF_2 (by decide) h58), (zne hF_2 (by decide) h59), (zne hF_2 (by decide) h60), (zne hF_2 (by decide) h61), (zne hF_2 (by decide) h62), (zne hF_2 (by decide) h63), (zne hF_2 (by decide) h64), (zne hF_2 (by decide) h65), (zne hF_2 (by decide) h66), (zne hF_2 (by decide) h67), hR⟩, hfm_31⟩ dX7_films_47
    · rw [if_neg b_11] at hp_10
      subst hp_10
      refine lv_if_ne (tgt := 33) hx hb dX7_films_26 (by decide) (fun h => absurd (show (0 : Int32) = 0 by decide) h) (fun _ => ?_)
      refine lv_iconst (v := (-1)) hx hb dX7_films_29 (by decide) ?_
      refine lv_goto (tgt := 38) hx hb dX7_films_30 (by decide) ?_
      refine lv_istore (lv' := [(4, .int (-1)), (0, .ref (ad 56)), (1, .int d), (2, .int f0), (3, .int off)]) hx hb dX7_films_38 hl (by decide) rfl (fun ls hl => ?_)
      refine lv_iload hx hb dX7_films_40 (lv_at hl 0 rfl) ?_
      refine lv_if_ge (tgt := 48) hx hb dX7_films_42 (by decide) (fun h => absurd (show (0 : Int32) ≤ (-1) from h) (by decide)) (fun _ => ?_)
      refine lv_iload hx hb dX7_films_45 (lv_at hl 0 rfl) ?_
      have hq : ((-1) : Int32) = zr (bIn f0 0 40 ∧ bIn off 0 9999) (sFilmR sc sh d) (zfold (sFilmF sc (sh (iN d)) f0 off) 8 0) := by exact (zr_no (fun h => b_11 h.2)).symm
      have hfm_32 : frM F F_1 := (frM_up frM_rf hF_2 (by decide) (by decide))
      exact zireti hC hZ hr hlocks ⟨hq, ⟨bs, en, u, st, kk, dw, ho, sv, ia, tk, told, pl, nu, im, hw, kd, fg, so, mn, rw0, bt, h_3, (zne hF_2 (by decide) h57), (zne hF_2 (by decide) h58), (zne hF_2 (by decide) h59), (zne hF_2 (by decide) h60), (zne hF_2 (by decide) h61), (zne hF_2 (by decide) h62), (zne hF_2 (by decide) h63), (zne hF_2 (by decide) h64), (zne hF_2 (by decide) h65), (zne hF_2 (by decide) h66), (zne hF_2 (by decide) h67), hR⟩, hfm_32⟩ dX7_films_47
  · rw [if_neg b_7] at hp_6
    subst hp_6
    refine lv_if_eq (tgt := 29) hx hb dX7_films_14 (by decide) (fun _ => ?_) (fun h => absurd (show (0 : Int32) = 0 by decide) h)
    refine lv_iconst (v := (-1)) hx hb dX7_films_29 (by decide) ?_
    refine lv_goto (tgt := 38) hx hb dX7_films_30 (by decide) ?_
    refine lv_istore (lv' := [(4, .int (-1)), (0, .ref (ad 56)), (1, .int d), (2, .int f0), (3, .int off)]) hx hb dX7_films_38 hl (by decide) rfl (fun ls hl => ?_)
    refine lv_iload hx hb dX7_films_40 (lv_at hl 0 rfl) ?_
    refine lv_if_ge (tgt := 48) hx hb dX7_films_42 (by decide) (fun h => absurd (show (0 : Int32) ≤ (-1) from h) (by decide)) (fun _ => ?_)
    refine lv_iload hx hb dX7_films_45 (lv_at hl 0 rfl) ?_
    have hq : ((-1) : Int32) = zr (bIn f0 0 40 ∧ bIn off 0 9999) (sFilmR sc sh d) (zfold (sFilmF sc (sh (iN d)) f0 off) 8 0) := by exact (zr_no (fun h => b_7 h.1)).symm
    have hfm_33 : frM F F_1 := (frM_up frM_rf hF_2 (by decide) (by decide))
    exact zireti hC hZ hr hlocks ⟨hq, ⟨bs, en, u, st, kk, dw, ho, sv, ia, tk, told, pl, nu, im, hw, kd, fg, so, mn, rw0, bt, h_3, (zne hF_2 (by decide) h57), (zne hF_2 (by decide) h58), (zne hF_2 (by decide) h59), (zne hF_2 (by decide) h60), (zne hF_2 (by decide) h61), (zne hF_2 (by decide) h62), (zne hF_2 (by decide) h63), (zne hF_2 (by decide) h64), (zne hF_2 (by decide) h65), (zne hF_2 (by decide) h66), (zne hF_2 (by decide) h67), hR⟩, hfm_33⟩ dX7_films_47

theorem what2 {x : Int32} (h : bIn x 0 2) (n0 : ¬ x = 0) (n1 : ¬ x = 1) : x = 2 := by
  have a := i32le.mp h.1
  have b := i32le.mp h.2
  have z0 : (0 : Int32).toInt = 0 := rfl
  have z2 : (2 : Int32).toInt = 2 := rfl
  have e0 : ¬ x.toInt = 0 := lv_neT (k := 0) n0 rfl
  have e1 : ¬ x.toInt = 1 := lv_neT (k := 1) n1 rfl
  exact Int32.toInt_inj.mp (by omega)
theorem mX7_numbers : zMd yX7_numbers cX7_numbers 10 (some .int) 4 := ⟨by decide +kernel, gt_of 1027 (by decide +kernel) rfl, gt_of 52 (by decide +kernel) rfl, by decide⟩
theorem dX7_numbers_0 : decode cX7_numbers 0 = .ok (.aload_n 0, 1) := by decide +kernel
theorem dX7_numbers_1 : decode cX7_numbers 1 = .ok (.iconst 0, 1) := by decide +kernel
theorem dX7_numbers_2 : decode cX7_numbers 2 = .ok (.putfield 57, 3) := by decide +kernel
theorem dX7_numbers_5 : decode cX7_numbers 5 = .ok (.iload_n 2, 1) := by decide +kernel
theorem dX7_numbers_6 : decode cX7_numbers 6 = .ok (.i2l, 1) := by decide +kernel
theorem dX7_numbers_7 : decode cX7_numbers 7 = .ok (.lconst 0, 1) := by decide +kernel
theorem dX7_numbers_8 : decode cX7_numbers 8 = .ok (.ldc2_w 138, 3) := by decide +kernel
theorem dX7_numbers_11 : decode cX7_numbers 11 = .ok (.invokestatic 63, 3) := by decide +kernel
theorem dX7_numbers_14 : decode cX7_numbers 14 = .ok (.ifCond .eq 28, 3) := by decide +kernel
theorem dX7_numbers_17 : decode cX7_numbers 17 = .ok (.iload_n 3, 1) := by decide +kernel
theorem dX7_numbers_18 : decode cX7_numbers 18 = .ok (.i2l, 1) := by decide +kernel
theorem dX7_numbers_19 : decode cX7_numbers 19 = .ok (.lconst 0, 1) := by decide +kernel
theorem dX7_numbers_20 : decode cX7_numbers 20 = .ok (.ldc2_w 212, 3) := by decide +kernel
theorem dX7_numbers_23 : decode cX7_numbers 23 = .ok (.invokestatic 63, 3) := by decide +kernel
theorem dX7_numbers_26 : decode cX7_numbers 26 = .ok (.ifCond .eq 16, 3) := by decide +kernel
theorem dX7_numbers_29 : decode cX7_numbers 29 = .ok (.iload 4, 2) := by decide +kernel
theorem dX7_numbers_31 : decode cX7_numbers 31 = .ok (.i2l, 1) := by decide +kernel
theorem dX7_numbers_32 : decode cX7_numbers 32 = .ok (.lconst 0, 1) := by decide +kernel
theorem dX7_numbers_33 : decode cX7_numbers 33 = .ok (.ldc2_w 140, 3) := by decide +kernel
theorem dX7_numbers_36 : decode cX7_numbers 36 = .ok (.invokestatic 63, 3) := by decide +kernel
theorem dX7_numbers_39 : decode cX7_numbers 39 = .ok (.ifCond .ne 7, 3) := by decide +kernel
theorem dX7_numbers_46 : decode cX7_numbers 46 = .ok (.aload_n 0, 1) := by decide +kernel
theorem dX7_numbers_47 : decode cX7_numbers 47 = .ok (.iload_n 1, 1) := by decide +kernel
theorem dX7_numbers_48 : decode cX7_numbers 48 = .ok (.invokevirtual 214, 3) := by decide +kernel
theorem dX7_numbers_51 : decode cX7_numbers 51 = .ok (.istore 5, 2) := by decide +kernel
theorem dX7_numbers_53 : decode cX7_numbers 53 = .ok (.iload 5, 2) := by decide +kernel
theorem dX7_numbers_55 : decode cX7_numbers 55 = .ok (.ifCond .ge 6, 3) := by decide +kernel
theorem dX7_numbers_61 : decode cX7_numbers 61 = .ok (.bipush (-4), 2) := by decide +kernel
theorem dX7_numbers_63 : decode cX7_numbers 63 = .ok (.istore 6, 2) := by decide +kernel
theorem dX7_numbers_65 : decode cX7_numbers 65 = .ok (.bipush (-4), 2) := by decide +kernel
theorem dX7_numbers_67 : decode cX7_numbers 67 = .ok (.istore 7, 2) := by decide +kernel
theorem dX7_numbers_69 : decode cX7_numbers 69 = .ok (.iconst 0, 1) := by decide +kernel
theorem dX7_numbers_70 : decode cX7_numbers 70 = .ok (.istore 8, 2) := by decide +kernel
theorem dX7_numbers_72 : decode cX7_numbers 72 = .ok (.iconst 0, 1) := by decide +kernel
theorem dX7_numbers_73 : decode cX7_numbers 73 = .ok (.istore 9, 2) := by decide +kernel
theorem dX7_numbers_75 : decode cX7_numbers 75 = .ok (.iload 9, 2) := by decide +kernel
theorem dX7_numbers_77 : decode cX7_numbers 77 = .ok (.bipush 40, 2) := by decide +kernel
theorem dX7_numbers_79 : decode cX7_numbers 79 = .ok (.if_icmp .gt 42, 3) := by decide +kernel
theorem dX7_numbers_121 : decode cX7_numbers 121 = .ok (.iload 4, 2) := by decide +kernel
theorem dX7_numbers_123 : decode cX7_numbers 123 = .ok (.ifCond .ne 8, 3) := by decide +kernel
theorem dX7_numbers_131 : decode cX7_numbers 131 = .ok (.iload 4, 2) := by decide +kernel
theorem dX7_numbers_133 : decode cX7_numbers 133 = .ok (.iconst 1, 1) := by decide +kernel
theorem dX7_numbers_134 : decode cX7_numbers 134 = .ok (.if_icmp .ne 8, 3) := by decide +kernel
theorem dX7_numbers_142 : decode cX7_numbers 142 = .ok (.iload 8, 2) := by decide +kernel
theorem dX7_numbers_144 : decode cX7_numbers 144 = .ok (.ireturn, 1) := by decide +kernel
theorem dX7_numbers_137 : decode cX7_numbers 137 = .ok (.iload 7, 2) := by decide +kernel
theorem dX7_numbers_139 : decode cX7_numbers 139 = .ok (.goto 5, 3) := by decide +kernel
theorem dX7_numbers_126 : decode cX7_numbers 126 = .ok (.iload 6, 2) := by decide +kernel
theorem dX7_numbers_128 : decode cX7_numbers 128 = .ok (.goto 16, 3) := by decide +kernel
theorem dX7_numbers_82 : decode cX7_numbers 82 = .ok (.aload_n 0, 1) := by decide +kernel
theorem dX7_numbers_83 : decode cX7_numbers 83 = .ok (.iload_n 2, 1) := by decide +kernel
theorem dX7_numbers_84 : decode cX7_numbers 84 = .ok (.iload 9, 2) := by decide +kernel
theorem dX7_numbers_86 : decode cX7_numbers 86 = .ok (.iload_n 1, 1) := by decide +kernel
theorem dX7_numbers_87 : decode cX7_numbers 87 = .ok (.iload_n 3, 1) := by decide +kernel
theorem dX7_numbers_88 : decode cX7_numbers 88 = .ok (.invokevirtual 217, 3) := by decide +kernel
theorem dX7_numbers_91 : decode cX7_numbers 91 = .ok (.ifCond .eq 24, 3) := by decide +kernel
theorem dX7_numbers_94 : decode cX7_numbers 94 = .ok (.iload 6, 2) := by decide +kernel
theorem dX7_numbers_96 : decode cX7_numbers 96 = .ok (.ifCond .ge 8, 3) := by decide +kernel
theorem dX7_numbers_104 : decode cX7_numbers 104 = .ok (.iload 6, 2) := by decide +kernel
theorem dX7_numbers_106 : decode cX7_numbers 106 = .ok (.istore 6, 2) := by decide +kernel
theorem dX7_numbers_108 : decode cX7_numbers 108 = .ok (.iload 9, 2) := by decide +kernel
theorem dX7_numbers_110 : decode cX7_numbers 110 = .ok (.istore 7, 2) := by decide +kernel
theorem dX7_numbers_112 : decode cX7_numbers 112 = .ok (.iinc 8 1, 3) := by decide +kernel
theorem dX7_numbers_115 : decode cX7_numbers 115 = .ok (.iinc 9 1, 3) := by decide +kernel
theorem dX7_numbers_118 : decode cX7_numbers 118 = .ok (.goto (-43), 3) := by decide +kernel
theorem dX7_numbers_99 : decode cX7_numbers 99 = .ok (.iload 9, 2) := by decide +kernel
theorem dX7_numbers_101 : decode cX7_numbers 101 = .ok (.goto 5, 3) := by decide +kernel
theorem dX7_numbers_58 : decode cX7_numbers 58 = .ok (.iload 5, 2) := by decide +kernel
theorem dX7_numbers_60 : decode cX7_numbers 60 = .ok (.ireturn, 1) := by decide +kernel
theorem dX7_numbers_42 : decode cX7_numbers 42 = .ok (.iconst (-1), 1) := by decide +kernel
theorem dX7_numbers_43 : decode cX7_numbers 43 = .ok (.goto 8, 3) := by decide +kernel
set_option maxRecDepth 100000 in
theorem c_X7_numbers (l : Launch) (D : va_G) (cy : Nat → Nat) (n : Nat) (ad : Nat → Nat) (F : Nat → va_E) (sz : Nat) (th0 pic : Int32) (sc ps : Scn) (sh : Nat → Shf) (hn : 68 ≤ n) (hX : RM ad cy F th0 pic sc ps sh) (hG : gX sc ps sh) (d k0 off what : Int32) : Met l yX7_numbers (zw yX7_numbers cX7_numbers 10 (some .int)) (rmL 4) (zPc D cy n ad F sz [.ref (ad 56), .int d, .int k0, .int off, .int what]) (va_Qi (fun r F1 => r = zr (bIn k0 0 7 ∧ bIn off 0 9999 ∧ bIn what 0 2) (sFilmR sc sh d) (sNumbers sc (sh (iN d)) k0 off what) ∧ RM ad cy F1 0 pic sc ps sh ∧ frM F F1) (zB D n ad) (zA n ad sz)) 0 0 (zA n ad sz) := by
  refine zmet (by decide +kernel) (Nat.le_of_ble_eq_true rfl) (fun p e s m args below meth c ls hC hsz hZ hA hr hlocks hnm hl => ?_)
  have hC : zC p m c cX7_numbers 10 s args RX7 D cy := hC
  have hx := hC.1.1
  have hb := hC.1.2.1
  have hl : lv_has ls 10 [(0, .ref (ad 56)), (1, .int d), (2, .int k0), (3, .int off), (4, .int what)] := hl
  obtain ⟨bs, en, u, st, kk, dw, ho, sv, ia, tk, told, pl, nu, im, hw, kd, fg, so, mn, rw0, bt, hM, h57, h58, h59, h60, h61, h62, h63, h64, h65, h66, h67, hR⟩ := hX
  have hRS := hR.2.2
  have hHW := rX_hw hR
  refine lv_aload_n hx hb dX7_numbers_0 rfl (lv_at hl 0 rfl) ?_
  refine lv_iconst (v := 0) hx hb dX7_numbers_1 (by decide) ?_
  refine zput (E := oModel ad sc.1 sc.2.1 sc.2.2.2.1 sc.2.2.2.2 0 bs en u st kk dw ho sv pic ia tk) hC hZ pX7_57 (zlt hn rfl) hM rfl rfl rfl (Nat.le_of_ble_eq_true rfl) dX7_numbers_2 (fun F_1 hF_2 H locs hZ => ?_)
  have h_3 := zeq hF_2
  refine lv_iload_n hx hb dX7_numbers_5 rfl (lv_at hl 2 rfl) ?_
  refine lv_i2l (v := (k0).toInt64) hx hb dX7_numbers_6 (by rfl) ?_
  refine lv_lconst (v := 0) hx hb dX7_numbers_7 (by decide) ?_
  refine lv_ldc2 (v := 7) hx hb hC.1.2.2.2.1 (hC.1.2.2.2.2 _ qX7_138) dX7_numbers_8 ?_
  refine zgoi hZ hA (zrunS (As := [.long ((k0).toInt64), .long 0, .long 7]) (rest := []) hC hZ (c_X7_in l D cy n ad F_1 H.size k0 0 7 0 7 (by decide) (by decide)) mX7_in sX7_in kX7_63 (zRj_of rfl) rfl hl.1 rfl (Nat.le_of_ble_eq_true rfl) dX7_numbers_11 ⟨Nat.le_refl _, Nat.le_refl _⟩) (fun r_5 F_4 hp_6 H locs hZ => ?_)
  obtain ⟨hp_6, rfl⟩ := hp_6
  by_cases b_7 : bIn k0 0 7
  · rw [if_pos b_7] at hp_6
    subst hp_6
    refine lv_if_eq (tgt := 42) hx hb dX7_numbers_14 (by decide) (fun h => absurd (show (1 : Int32) = 0 from h) (by decide)) (fun _ => ?_)
    refine lv_iload_n hx hb dX7_numbers_17 rfl (lv_at hl 3 rfl) ?_
    refine lv_i2l (v := (off).toInt64) hx hb dX7_numbers_18 (by rfl) ?_
    refine lv_lconst (v := 0) hx hb dX7_numbers_19 (by decide) ?_
    refine lv_ldc2 (v := 9999) hx hb hC.1.2.2.2.1 (hC.1.2.2.2.2 _ qX7_212) dX7_numbers_20 ?_
    refine zgoi hZ hA (zrunS (As := [.long ((off).toInt64), .long 0, .long 9999]) (rest := []) hC hZ (c_X7_in l D cy n ad F_1 H.size off 0 9999 0 9999 (by decide) (by decide)) mX7_in sX7_in kX7_63 (zRj_of rfl) rfl hl.1 rfl (Nat.le_of_ble_eq_true rfl) dX7_numbers_23 ⟨Nat.le_refl _, Nat.le_refl _⟩) (fun r_9 F_8 hp_10 H locs hZ => ?_)
    obtain ⟨hp_10, rfl⟩ := hp_10
    by_cases b_11 : bIn off 0 9999
    · rw [if_pos b_11] at hp_10
      subst hp_10
      refine lv_if_eq (tgt := 42) hx hb dX7_numbers_26 (by decide) (fun h => absurd (show (1 : Int32) = 0 from h) (by decide)) (fun _ => ?_)
      refine lv_iload hx hb dX7_numbers_29 (lv_at hl 4 rfl) ?_
      refine lv_i2l (v := (what).toInt64) hx hb dX7_numbers_31 (by rfl) ?_
      refine lv_lconst (v := 0) hx hb dX7_numbers_32 (by decide) ?_
      refine lv_ldc2 (v := 2) hx hb hC.1.2.2.2.1 (hC.1.2.2.2.2 _ qX7_140) dX7_numbers_33 ?_
      refine zgoi hZ hA (zrunS (As := [.long ((what).toInt64), .long 0, .long 2]) (rest := []) hC hZ (c_X7_in l D cy n ad F_1 H.size what 0 2 0 2 (by decide) (by decide)) mX7_in sX7_in kX7_63 (zRj_of rfl) rfl hl.1 rfl (Nat.le_of_ble_eq_true rfl) dX7_numbers_36 ⟨Nat.le_refl _, Nat.le_refl _⟩) (fun r_13 F_12 hp_14 H locs hZ => ?_)
      obtain ⟨hp_14, rfl⟩ := hp_14
      by_cases b_15 : bIn what 0 2
      · rw [if_pos b_15] at hp_14
        subst hp_14
        refine lv_if_ne (tgt := 46) hx hb dX7_numbers_39 (by decide) (fun _ => ?_) (fun h => absurd (show (1 : Int32) = 0 from h) (by decide))
        refine lv_aload_n hx hb dX7_numbers_46 rfl (lv_at hl 0 rfl) ?_
        refine lv_iload_n hx hb dX7_numbers_47 rfl (lv_at hl 1 rfl) ?_
        refine zgoi hZ hA (zrunV (As := [.int d]) (rest := []) (k := 56) hC hZ (c_X7_wrongFilms l D cy n ad F_1 H.size sc.1 sc.2.1 sc.2.2.2.1 sc.2.2.2.2 0 bs en u st kk dw ho sv pic ia tk hn h_3 hw (zne hF_2 (by decide) h61) mn (zne hF_2 (by decide) h65) d) mX7_wrongFilms vX7_wrongFilms kX7_214 (zRj_of rfl) (zlt hn rfl) h_3 rfl rfl hl.1 rfl (Nat.le_of_ble_eq_true rfl) dX7_numbers_48 ⟨Nat.le_refl _, Nat.le_refl _⟩) (fun r_17 F_16 hp_18 H locs hZ => ?_)
        rw [mFilmR_eq hRS] at hp_18
        obtain ⟨rfl, rfl⟩ := hp_18
        refine lv_istore (lv' := [(5, .int (sFilmR sc sh d)), (0, .ref (ad 56)), (1, .int d), (2, .int k0), (3, .int off), (4, .int what)]) hx hb dX7_numbers_51 hl (by decide) rfl (fun ls hl => ?_)
        refine lv_iload hx hb dX7_numbers_53 (lv_at hl 0 rfl) ?_
        refine lv_if_ge (tgt := 61) hx hb dX7_numbers_55 (by decide) (fun c_55 => ?_) (fun c_55 => ?_)
        · refine lv_bipush (v := (-4)) hx hb dX7_numbers_61 (by decide) ?_
          refine lv_istore (lv' := [(6, .int (-4)), (5, .int (sFilmR sc sh d)), (0, .ref (ad 56)), (1, .int d), (2, .int k0), (3, .int off), (4, .int what)]) hx hb dX7_numbers_63 hl (by decide) rfl (fun ls hl => ?_)
          refine lv_bipush (v := (-4)) hx hb dX7_numbers_65 (by decide) ?_
          refine lv_istore (lv' := [(7, .int (-4)), (6, .int (-4)), (5, .int (sFilmR sc sh d)), (0, .ref (ad 56)), (1, .int d), (2, .int k0), (3, .int off), (4, .int what)]) hx hb dX7_numbers_67 hl (by decide) rfl (fun ls hl => ?_)
          refine lv_iconst (v := 0) hx hb dX7_numbers_69 (by decide) ?_
          refine lv_istore (lv' := [(8, .int 0), (7, .int (-4)), (6, .int (-4)), (5, .int (sFilmR sc sh d)), (0, .ref (ad 56)), (1, .int d), (2, .int k0), (3, .int off), (4, .int what)]) hx hb dX7_numbers_70 hl (by decide) rfl (fun ls hl => ?_)
          refine lv_iconst (v := 0) hx hb dX7_numbers_72 (by decide) ?_
          refine lv_istore (lv' := [(9, .int 0), (8, .int 0), (7, .int (-4)), (6, .int (-4)), (5, .int (sFilmR sc sh d)), (0, .ref (ad 56)), (1, .int d), (2, .int k0), (3, .int off), (4, .int what)]) hx hb dX7_numbers_73 hl (by decide) rfl (fun ls hl => ?_)
          have hz_19 : (sFilmR sc sh d) = 0 := sFilmR_ge (Int32.not_lt.mpr c_55)
          have hs := sFilmR_0 hz_19
          have hd := hs.1
          have hro := (hRS _ hd.2).2.2 hs.2
          have hfm9 := sFilmR_m hz_19
          have htc := tc_n hG.1
          refine zlp (X := Nat × Nat × (Int32 × Int32 × Int32) × Int32 × Int32 × Int32) 75 (fun _ => []) (fun x ls F1 => lv_has ls 10 [(9, .int (nI x.1)), (8, .int x.2.2.1.2.2), (7, .int x.2.2.1.2.1), (6, .int x.2.2.1.1), (5, .int (sFilmR sc sh d)), (0, .ref (ad 56)), (1, .int d), (2, .int k0), (3, .int off), (4, .int what)] ∧ F1 = va_up F_1 56 (oModel ad sc.1 sc.2.1 sc.2.2.2.1 sc.2.2.2.2 0 bs en u st x.2.2.2.1 x.2.2.2.2.1 x.2.2.2.2.2 sv pic ia tk) ∧ (x.1 ≤ 41) ∧ (x.2.2.1 = zfold (sNumF sc (sh (iN d)) k0 off) x.1 (-4, -4, 0)) ∧ (x.2.2.1.2.2 = nI x.2.1 ∧ x.2.1 ≤ x.1 ∧ ((x.2.1 = 0 ∧ x.2.2.1.1 = -4) ∨ (0 < x.2.1 ∧ ¬ x.2.2.1.1 < 0)))) (fun x => 41 - x.1) ?_ (0, 0, (-4, -4, 0), kk, dw, ho) hZ ⟨hl, (zself h_3), (Nat.zero_le _), rfl, ⟨rfl, Nat.le_refl _, Or.inl ⟨rfl, rfl⟩⟩⟩
          intro x ih75 ls F3_75 H locs hZ hφ
          obtain ⟨i, cn, pp, k1, d1, o1⟩ := x
          obtain ⟨hl, hF3_75, hi, hp, hcn⟩ := hφ
          have hl : lv_has ls 10 [(9, .int (nI i)), (8, .int pp.2.2), (7, .int pp.2.1), (6, .int pp.1), (5, .int (sFilmR sc sh d)), (0, .ref (ad 56)), (1, .int d), (2, .int k0), (3, .int off), (4, .int what)] := hl
          have hF3_75 : F3_75 = va_up F_1 56 (oModel ad sc.1 sc.2.1 sc.2.2.2.1 sc.2.2.2.2 0 bs en u st k1 d1 o1 sv pic ia tk) := hF3_75
          have hi : i ≤ 41 := hi
          have hp : pp = zfold (sNumF sc (sh (iN d)) k0 off) i (-4, -4, 0) := hp
          have hcn : pp.2.2 = nI cn ∧ cn ≤ i ∧ ((cn = 0 ∧ pp.1 = -4) ∨ (0 < cn ∧ ¬ pp.1 < 0)) := hcn
          have h_20 := zeq hF3_75
          refine lv_iload hx hb dX7_numbers_75 (lv_at hl 0 rfl) ?_
          refine lv_bipush (v := 40) hx hb dX7_numbers_77 (by decide) ?_
          refine lv_icmp_gt (tgt := 121) hx hb dX7_numbers_79 (by decide) (fun c_79 => ?_) (fun c_79 => ?_)
          · refine lv_iload hx hb dX7_numbers_121 (lv_at hl 9 rfl) ?_
            refine lv_if_ne (tgt := 131) hx hb dX7_numbers_123 (by decide) (fun c_123 => ?_) (fun c_123 => ?_)
            · refine lv_iload hx hb dX7_numbers_131 (lv_at hl 9 rfl) ?_
              refine lv_iconst (v := 1) hx hb dX7_numbers_133 (by decide) ?_
              refine lv_icmp_ne (tgt := 142) hx hb dX7_numbers_134 (by decide) (fun c_134 => ?_) (fun c_134 => ?_)
              · refine lv_iload hx hb dX7_numbers_142 (lv_at hl 1 rfl) ?_
                have hiq : i = 41 := by rcases Nat.lt_or_ge i 41 with h | h; exact absurd c_79 (nI_nlt (a := 40) (b := i) (by omega) (by omega)); omega
                subst hiq
                have hw2 : what = 2 := what2 b_15 c_123 c_134
                have hv : (pp.2.2 : Int32) = sNumbers sc (sh (iN d)) k0 off what := by unfold sNumbers; rw [← hp]; rw [hw2]; rfl
                have hq : (pp.2.2 : Int32) = zr (bIn k0 0 7 ∧ bIn off 0 9999 ∧ bIn what 0 2) (sFilmR sc sh d) (sNumbers sc (sh (iN d)) k0 off what) := by exact hv.trans (zr_ok ⟨b_7, b_11, b_15⟩ hz_19).symm
                have hfm_21 : frM F F3_75 := (frM_up (frM_up frM_rf hF_2 (by decide) (by decide)) hF3_75 (by decide) (by decide))
                exact zireti hC hZ hr hlocks ⟨hq, ⟨bs, en, u, st, k1, d1, o1, sv, ia, tk, told, pl, nu, im, hw, kd, fg, so, mn, rw0, bt, h_20, (zne hF3_75 (by decide) (zne hF_2 (by decide) h57)), (zne hF3_75 (by decide) (zne hF_2 (by decide) h58)), (zne hF3_75 (by decide) (zne hF_2 (by decide) h59)), (zne hF3_75 (by decide) (zne hF_2 (by decide) h60)), (zne hF3_75 (by decide) (zne hF_2 (by decide) h61)), (zne hF3_75 (by decide) (zne hF_2 (by decide) h62)), (zne hF3_75 (by decide) (zne hF_2 (by decide) h63)), (zne hF3_75 (by decide) (zne hF_2 (by decide) h64)), (zne hF3_75 (by decide) (zne hF_2 (by decide) h65)), (zne hF3_75 (by decide) (zne hF_2 (by decide) h66)), (zne hF3_75 (by decide) (zne hF_2 (by decide) h67)), hR⟩, hfm_21⟩ dX7_numbers_144
              · refine lv_iload hx hb dX7_numbers_137 (lv_at hl 2 rfl) ?_
                refine lv_goto (tgt := 144) hx hb dX7_numbers_139 (by decide) ?_
                have hiq : i = 41 := by rcases Nat.lt_or_ge i 41 with h | h; exact absurd c_79 (nI_nlt (a := 40) (b := i) (by omega) (by omega)); omega
                subst hiq
                have hv : (pp.2.1 : Int32) = sNumbers sc (sh (iN d)) k0 off what := by unfold sNumbers; rw [← hp]; rw [c_134]; rfl
                have hq : (pp.2.1 : Int32) = zr (bIn k0 0 7 ∧ bIn off 0 9999 ∧ bIn what 0 2) (sFilmR sc sh d) (sNumbers sc (sh (iN d)) k0 off what) := by exact hv.trans (zr_ok ⟨b_7, b_11, b_15⟩ hz_19).symm
                have hfm_22 : frM F F3_75 := (frM_up (frM_up frM_rf hF_2 (by decide) (by decide)) hF3_75 (by decide) (by decide))
                exact zireti hC hZ hr hlocks ⟨hq, ⟨bs, en, u, st, k1, d1, o1, sv, ia, tk, told, pl, nu, im, hw, kd, fg, so, mn, rw0, bt, h_20, (zne hF3_75 (by decide) (zne hF_2 (by decide) h57)), (zne hF3_75 (by decide) (zne hF_2 (by decide) h58)), (zne hF3_75 (by decide) (zne hF_2 (by decide) h59)), (zne hF3_75 (by decide) (zne hF_2 (by decide) h60)), (zne hF3_75 (by decide) (zne hF_2 (by decide) h61)), (zne hF3_75 (by decide) (zne hF_2 (by decide) h62)), (zne hF3_75 (by decide) (zne hF_2 (by decide) h63)), (zne hF3_75 (by decide) (zne hF_2 (by decide) h64)), (zne hF3_75 (by decide) (zne hF_2 (by decide) h65)), (zne hF3_75 (by decide) (zne hF_2 (by decide) h66)), (zne hF3_75 (by decide) (zne hF_2 (by decide) h67)), hR⟩, hfm_22⟩ dX7_numbers_144
            · refine lv_iload hx hb dX7_numbers_126 (lv_at hl 3 rfl) ?_
              refine lv_goto (tgt := 144) hx hb dX7_numbers_128 (by decide) ?_
              have hiq : i = 41 := by rcases Nat.lt_or_ge i 41 with h | h; exact absurd c_79 (nI_nlt (a := 40) (b := i) (by omega) (by omega)); omega
              subst hiq
              have hv : (pp.1 : Int32) = sNumbers sc (sh (iN d)) k0 off what := by unfold sNumbers; rw [← hp]; rw [c_123]; rfl
              have hq : (pp.1 : Int32) = zr (bIn k0 0 7 ∧ bIn off 0 9999 ∧ bIn what 0 2) (sFilmR sc sh d) (sNumbers sc (sh (iN d)) k0 off what) := by exact hv.trans (zr_ok ⟨b_7, b_11, b_15⟩ hz_19).symm
              have hfm_23 : frM F F3_75 := (frM_up (frM_up frM_rf hF_2 (by decide) (by decide)) hF3_75 (by decide) (by decide))
              exact zireti hC hZ hr hlocks ⟨hq, ⟨bs, en, u, st, k1, d1, o1, sv, ia, tk, told, pl, nu, im, hw, kd, fg, so, mn, rw0, bt, h_20, (zne hF3_75 (by decide) (zne hF_2 (by decide) h57)), (zne hF3_75 (by decide) (zne hF_2 (by decide) h58)), (zne hF3_75 (by decide) (zne hF_2 (by decide) h59)), (zne hF3_75 (by decide) (zne hF_2 (by decide) h60)), (zne hF3_75 (by decide) (zne hF_2 (by decide) h61)), (zne hF3_75 (by decide) (zne hF_2 (by decide) h62)), (zne hF3_75 (by decide) (zne hF_2 (by decide) h63)), (zne hF3_75 (by decide) (zne hF_2 (by decide) h64)), (zne hF3_75 (by decide) (zne hF_2 (by decide) h65)), (zne hF3_75 (by decide) (zne hF_2 (by decide) h66)), (zne hF3_75 (by decide) (zne hF_2 (by decide) h67)), hR⟩, hfm_23⟩ dX7_numbers_144
          · refine lv_aload_n hx hb dX7_numbers_82 rfl (lv_at hl 5 rfl) ?_
            refine lv_iload_n hx hb dX7_numbers_83 rfl (lv_at hl 7 rfl) ?_
            refine lv_iload hx hb dX7_numbers_84 (lv_at hl 0 rfl) ?_
            refine lv_iload_n hx hb dX7_numbers_86 rfl (lv_at hl 6 rfl) ?_
            refine lv_iload_n hx hb dX7_numbers_87 rfl (lv_at hl 8 rfl) ?_
            have hoff := bIn_i b_11 (show (0 : Int32).toInt = 0 from rfl) (show (9999 : Int32).toInt = 9999 from rfl)
            have hlt : i < 41 := by rcases Nat.lt_or_ge i 41 with h | h; exact h; exact absurd (nI_lt (a := 40) (b := i) (by omega) (by omega)) c_79
            refine zgoi hZ hA (zrunV (As := [.int k0, .int (nI i), .int d, .int off]) (rest := []) (k := 56) hC hZ (c_X7_isLet l D cy n ad F3_75 H.size sc.1 sc.2.1 sc.2.2.2.1 sc.2.2.2.2 0 bs en u st k1 d1 o1 sv pic ia tk hn h_20 told (zne hF3_75 (by decide) (zne hF_2 (by decide) h57)) so (zne hF3_75 (by decide) (zne hF_2 (by decide) h64)) rw0 (zne hF3_75 (by decide) (zne hF_2 (by decide) h66)) (k0, nI i) d off (sh (iN d)) sc hd hro.1 hfm9 rfl htc hro.2.2 hR.1 (gTm (by omega) b_7) hG.1.2.2.2.1 hoff.1 hoff.2) mX7_isLet vX7_isLet kX7_217 (zRj_of rfl) (zlt hn rfl) h_20 rfl rfl hl.1 rfl (Nat.le_of_ble_eq_true rfl) dX7_numbers_88 ⟨Nat.le_refl _, Nat.le_refl _⟩) (fun r_25 F_24 hp_26 H locs hZ => ?_)
            obtain ⟨kk_27, dw_28, ho_29, h_30, hp_31⟩ := hp_26
            have h_32 := zeq hp_31
            by_cases b_33 : bFits (k0, nI i) (sh (iN d)) sc off
            · rw [if_pos b_33] at h_30
              subst h_30
              refine lv_if_eq (tgt := 115) hx hb dX7_numbers_91 (by decide) (fun h => absurd (show (1 : Int32) = 0 from h) (by decide)) (fun _ => ?_)
              refine lv_iload hx hb dX7_numbers_94 (lv_at hl 3 rfl) ?_
              refine lv_if_ge (tgt := 104) hx hb dX7_numbers_96 (by decide) (fun c_96 => ?_) (fun c_96 => ?_)
              · refine lv_iload hx hb dX7_numbers_104 (lv_at hl 3 rfl) ?_
                refine lv_istore (lv' := [(6, .int pp.1), (9, .int (nI i)), (8, .int pp.2.2), (7, .int pp.2.1), (5, .int (sFilmR sc sh d)), (0, .ref (ad 56)), (1, .int d), (2, .int k0), (3, .int off), (4, .int what)]) hx hb dX7_numbers_106 hl (by decide) rfl (fun ls hl => ?_)
                refine lv_iload hx hb dX7_numbers_108 (lv_at hl 1 rfl) ?_
                refine lv_istore (lv' := [(7, .int (nI i)), (6, .int pp.1), (9, .int (nI i)), (8, .int pp.2.2), (5, .int (sFilmR sc sh d)), (0, .ref (ad 56)), (1, .int d), (2, .int k0), (3, .int off), (4, .int what)]) hx hb dX7_numbers_110 hl (by decide) rfl (fun ls hl => ?_)
                refine lv_iinc (v := (pp.2.2 + 1)) (lv' := [(8, .int (pp.2.2 + 1)), (7, .int (nI i)), (6, .int pp.1), (9, .int (nI i)), (5, .int (sFilmR sc sh d)), (0, .ref (ad 56)), (1, .int d), (2, .int k0), (3, .int off), (4, .int what)]) hx hb dX7_numbers_112 hl (k := 3) rfl rfl (by decide) rfl (fun ls hl => ?_)
                refine lv_iinc (v := nI (i + 1)) (lv' := [(9, .int (nI (i + 1))), (8, .int (pp.2.2 + 1)), (7, .int (nI i)), (6, .int pp.1), (5, .int (sFilmR sc sh d)), (0, .ref (ad 56)), (1, .int d), (2, .int k0), (3, .int off), (4, .int what)]) hx hb dX7_numbers_115 hl (k := 3) rfl (nI_1 i) (by decide) rfl (fun ls hl => ?_)
                refine lv_goto (tgt := 75) hx hb dX7_numbers_118 (by decide) ?_
                have hc0 : 0 < cn ∧ ¬ pp.1 < 0 := hcn.2.2.resolve_left (fun h => by rw [h.2] at c_96; exact absurd c_96 (by decide))
                have hz9 : ¬ pp.2.2 = 0 := by rw [hcn.1]; exact nI_ne0 hc0.1 (by have := hcn.2.1; omega)
                have he_34 : F_24 = va_up F_1 56 (oModel ad sc.1 sc.2.1 sc.2.2.2.1 sc.2.2.2.2 0 bs en u st kk_27 dw_28 ho_29 sv pic ia tk) := by rw [hp_31, hF3_75]; simp only [bx_uu]
                exact ih75 ((i + 1), (cn + 1), (pp.1, nI i, (pp.2.2 + 1)), kk_27, dw_28, ho_29) ls _ H locs (by show 41 - (i + 1) < 41 - i; omega) hZ ⟨hl, he_34, hlt, (by show (pp.1, nI i, (pp.2.2 + 1)) = (sNumF sc (sh (iN d)) k0 off) i (zfold (sNumF sc (sh (iN d)) k0 off) i (-4, -4, 0)); rw [← hp]; refine Eq.symm ((if_pos b_33).trans ?_); rw [if_neg hz9]), ⟨(by show pp.2.2 + 1 = nI (cn + 1); rw [hcn.1]; exact nI_1 cn), Nat.succ_le_succ hcn.2.1, Or.inr ⟨Nat.succ_pos _, hc0.2⟩⟩⟩
              · refine lv_iload hx hb dX7_numbers_99 (lv_at hl 0 rfl) ?_
                refine lv_goto (tgt := 106) hx hb dX7_numbers_101 (by decide) ?_
                refine lv_istore (lv' := [(6, .int (nI i)), (9, .int (nI i)), (8, .int pp.2.2), (7, .int pp.2.1), (5, .int (sFilmR sc sh d)), (0, .ref (ad 56)), (1, .int d), (2, .int k0), (3, .int off), (4, .int what)]) hx hb dX7_numbers_106 hl (by decide) rfl (fun ls hl => ?_)
                refine lv_iload hx hb dX7_numbers_108 (lv_at hl 1 rfl) ?_
                refine lv_istore (lv' := [(7, .int (nI i)), (6, .int (nI i)), (9, .int (nI i)), (8, .int pp.2.2), (5, .int (sFilmR sc sh d)), (0, .ref (ad 56)), (1, .int d), (2, .int k0), (3, .int off), (4, .int what)]) hx hb dX7_numbers_110 hl (by decide) rfl (fun ls hl => ?_)
                refine lv_iinc (v := (pp.2.2 + 1)) (lv' := [(8, .int (pp.2.2 + 1)), (7, .int (nI i)), (6, .int (nI i)), (9, .int (nI i)), (5, .int (sFilmR sc sh d)), (0, .ref (ad 56)), (1, .int d), (2, .int k0), (3, .int off), (4, .int what)]) hx hb dX7_numbers_112 hl (k := 3) rfl rfl (by decide) rfl (fun ls hl => ?_)
                refine lv_iinc (v := nI (i + 1)) (lv' := [(9, .int (nI (i + 1))), (8, .int (pp.2.2 + 1)), (7, .int (nI i)), (6, .int (nI i)), (5, .int (sFilmR sc sh d)), (0, .ref (ad 56)), (1, .int d), (2, .int k0), (3, .int off), (4, .int what)]) hx hb dX7_numbers_115 hl (k := 3) rfl (nI_1 i) (by decide) rfl (fun ls hl => ?_)
                refine lv_goto (tgt := 75) hx hb dX7_numbers_118 (by decide) ?_
                have hc0 : cn = 0 ∧ pp.1 = -4 := hcn.2.2.resolve_right (fun h => h.2 (Int32.not_le.mp c_96))
                have hz9 : pp.2.2 = 0 := by rw [hcn.1, hc0.1]; rfl
                have he_35 : F_24 = va_up F_1 56 (oModel ad sc.1 sc.2.1 sc.2.2.2.1 sc.2.2.2.2 0 bs en u st kk_27 dw_28 ho_29 sv pic ia tk) := by rw [hp_31, hF3_75]; simp only [bx_uu]
                exact ih75 ((i + 1), (cn + 1), (nI i, nI i, (pp.2.2 + 1)), kk_27, dw_28, ho_29) ls _ H locs (by show 41 - (i + 1) < 41 - i; omega) hZ ⟨hl, he_35, hlt, (by show (nI i, nI i, (pp.2.2 + 1)) = (sNumF sc (sh (iN d)) k0 off) i (zfold (sNumF sc (sh (iN d)) k0 off) i (-4, -4, 0)); rw [← hp]; refine Eq.symm ((if_pos b_33).trans ?_); rw [if_pos hz9]), ⟨(by show pp.2.2 + 1 = nI (cn + 1); rw [hcn.1]; exact nI_1 cn), Nat.succ_le_succ hcn.2.1, Or.inr ⟨Nat.succ_pos _, nI_pos (by omega)⟩⟩⟩
            · rw [if_neg b_33] at h_30
              subst h_30
              refine lv_if_eq (tgt := 115) hx hb dX7_numbers_91 (by decide) (fun _ => ?_) (fun h => absurd (show (0 : Int32) = 0 by decide) h)
              refine lv_iinc (v := nI (i + 1)) (lv' := [(9, .int (nI (i + 1))), (8, .int pp.2.2), (7, .int pp.2.1), (6, .int pp.1), (5, .int (sFilmR sc sh d)), (0, .ref (ad 56)), (1, .int d), (2, .int k0), (3, .int off), (4, .int what)]) hx hb dX7_numbers_115 hl (k := 0) rfl (nI_1 i) (by decide) rfl (fun ls hl => ?_)
              refine lv_goto (tgt := 75) hx hb dX7_numbers_118 (by decide) ?_
              have he_36 : F_24 = va_up F_1 56 (oModel ad sc.1 sc.2.1 sc.2.2.2.1 sc.2.2.2.2 0 bs en u st kk_27 dw_28 ho_29 sv pic ia tk) := by rw [hp_31, hF3_75]; simp only [bx_uu]
              exact ih75 ((i + 1), cn, pp, kk_27, dw_28, ho_29) ls _ H locs (by show 41 - (i + 1) < 41 - i; omega) hZ ⟨hl, he_36, hlt, (by show pp = (sNumF sc (sh (iN d)) k0 off) i (zfold (sNumF sc (sh (iN d)) k0 off) i (-4, -4, 0)); rw [← hp]; exact (if_neg b_33).symm), ⟨hcn.1, Nat.le_succ_of_le hcn.2.1, hcn.2.2⟩⟩
        · refine lv_iload hx hb dX7_numbers_58 (lv_at hl 0 rfl) ?_
          have hz_37 : (sFilmR sc sh d) < 0 := Int32.not_le.mp c_55
          have hq : ((sFilmR sc sh d) : Int32) = zr (bIn k0 0 7 ∧ bIn off 0 9999 ∧ bIn what 0 2) (sFilmR sc sh d) (sNumbers sc (sh (iN d)) k0 off what) := by exact (zr_rf ⟨b_7, b_11, b_15⟩ (neg_n0 hz_37)).symm
          have hfm_38 : frM F F_1 := (frM_up frM_rf hF_2 (by decide) (by decide))
          exact zireti hC hZ hr hlocks ⟨hq, ⟨bs, en, u, st, kk, dw, ho, sv, ia, tk, told, pl, nu, im, hw, kd, fg, so, mn, rw0, bt, h_3, (zne hF_2 (by decide) h57), (zne hF_2 (by decide) h58), (zne hF_2 (by decide) h59), (zne hF_2 (by decide) h60), (zne hF_2 (by decide) h61), (zne hF_2 (by decide) h62), (zne hF_2 (by decide) h63), (zne hF_2 (by decide) h64), (zne hF_2 (by decide) h65), (zne hF_2 (by decide) h66), (zne hF_2 (by decide) h67), hR⟩, hfm_38⟩ dX7_numbers_60
      · rw [if_neg b_15] at hp_14
        subst hp_14
        refine lv_if_ne (tgt := 46) hx hb dX7_numbers_39 (by decide) (fun h => absurd (show (0 : Int32) = 0 by decide) h) (fun _ => ?_)
        refine lv_iconst (v := (-1)) hx hb dX7_numbers_42 (by decide) ?_
        refine lv_goto (tgt := 51) hx hb dX7_numbers_43 (by decide) ?_
        refine lv_istore (lv' := [(5, .int (-1)), (0, .ref (ad 56)), (1, .int d), (2, .int k0), (3, .int off), (4, .int what)]) hx hb dX7_numbers_51 hl (by decide) rfl (fun ls hl => ?_)
        refine lv_iload hx hb dX7_numbers_53 (lv_at hl 0 rfl) ?_
        refine lv_if_ge (tgt := 61) hx hb dX7_numbers_55 (by decide) (fun h => absurd (show (0 : Int32) ≤ (-1) from h) (by decide)) (fun _ => ?_)
        refine lv_iload hx hb dX7_numbers_58 (lv_at hl 0 rfl) ?_
        have hq : ((-1) : Int32) = zr (bIn k0 0 7 ∧ bIn off 0 9999 ∧ bIn what 0 2) (sFilmR sc sh d) (sNumbers sc (sh (iN d)) k0 off what) := by exact (zr_no (fun h => b_15 h.2.2)).symm
        have hfm_39 : frM F F_1 := (frM_up frM_rf hF_2 (by decide) (by decide))
        exact zireti hC hZ hr hlocks ⟨hq, ⟨bs, en, u, st, kk, dw, ho, sv, ia, tk, told, pl, nu, im, hw, kd, fg, so, mn, rw0, bt, h_3, (zne hF_2 (by decide) h57), (zne hF_2 (by decide) h58), (zne hF_2 (by decide) h59), (zne hF_2 (by decide) h60), (zne hF_2 (by decide) h61), (zne hF_2 (by decide) h62), (zne hF_2 (by decide) h63), (zne hF_2 (by decide) h64), (zne hF_2 (by decide) h65), (zne hF_2 (by decide) h66), (zne hF_2 (by decide) h67), hR⟩, hfm_39⟩ dX7_numbers_60
    · rw [if_neg b_11] at hp_10
      subst hp_10
      refine lv_if_eq (tgt := 42) hx hb dX7_numbers_26 (by decide) (fun _ => ?_) (fun h => absurd (show (0 : Int32) = 0 by decide) h)
      refine lv_iconst (v := (-1)) hx hb dX7_numbers_42 (by decide) ?_
      refine lv_goto (tgt := 51) hx hb dX7_numbers_43 (by decide) ?_
      refine lv_istore (lv' := [(5, .int (-1)), (0, .ref (ad 56)), (1, .int d), (2, .int k0), (3, .int off), (4, .int what)]) hx hb dX7_numbers_51 hl (by decide) rfl (fun ls hl => ?_)
      refine lv_iload hx hb dX7_numbers_53 (lv_at hl 0 rfl) ?_
      refine lv_if_ge (tgt := 61) hx hb dX7_numbers_55 (by decide) (fun h => absurd (show (0 : Int32) ≤ (-1) from h) (by decide)) (fun _ => ?_)
      refine lv_iload hx hb dX7_numbers_58 (lv_at hl 0 rfl) ?_
      have hq : ((-1) : Int32) = zr (bIn k0 0 7 ∧ bIn off 0 9999 ∧ bIn what 0 2) (sFilmR sc sh d) (sNumbers sc (sh (iN d)) k0 off what) := by exact (zr_no (fun h => b_11 h.2.1)).symm
      have hfm_40 : frM F F_1 := (frM_up frM_rf hF_2 (by decide) (by decide))
      exact zireti hC hZ hr hlocks ⟨hq, ⟨bs, en, u, st, kk, dw, ho, sv, ia, tk, told, pl, nu, im, hw, kd, fg, so, mn, rw0, bt, h_3, (zne hF_2 (by decide) h57), (zne hF_2 (by decide) h58), (zne hF_2 (by decide) h59), (zne hF_2 (by decide) h60), (zne hF_2 (by decide) h61), (zne hF_2 (by decide) h62), (zne hF_2 (by decide) h63), (zne hF_2 (by decide) h64), (zne hF_2 (by decide) h65), (zne hF_2 (by decide) h66), (zne hF_2 (by decide) h67), hR⟩, hfm_40⟩ dX7_numbers_60
  · rw [if_neg b_7] at hp_6
    subst hp_6
    refine lv_if_eq (tgt := 42) hx hb dX7_numbers_14 (by decide) (fun _ => ?_) (fun h => absurd (show (0 : Int32) = 0 by decide) h)
    refine lv_iconst (v := (-1)) hx hb dX7_numbers_42 (by decide) ?_
    refine lv_goto (tgt := 51) hx hb dX7_numbers_43 (by decide) ?_
    refine lv_istore (lv' := [(5, .int (-1)), (0, .ref (ad 56)), (1, .int d), (2, .int k0), (3, .int off), (4, .int what)]) hx hb dX7_numbers_51 hl (by decide) rfl (fun ls hl => ?_)
    refine lv_iload hx hb dX7_numbers_53 (lv_at hl 0 rfl) ?_
    refine lv_if_ge (tgt := 61) hx hb dX7_numbers_55 (by decide) (fun h => absurd (show (0 : Int32) ≤ (-1) from h) (by decide)) (fun _ => ?_)
    refine lv_iload hx hb dX7_numbers_58 (lv_at hl 0 rfl) ?_
    have hq : ((-1) : Int32) = zr (bIn k0 0 7 ∧ bIn off 0 9999 ∧ bIn what 0 2) (sFilmR sc sh d) (sNumbers sc (sh (iN d)) k0 off what) := by exact (zr_no (fun h => b_7 h.1)).symm
    have hfm_41 : frM F F_1 := (frM_up frM_rf hF_2 (by decide) (by decide))
    exact zireti hC hZ hr hlocks ⟨hq, ⟨bs, en, u, st, kk, dw, ho, sv, ia, tk, told, pl, nu, im, hw, kd, fg, so, mn, rw0, bt, h_3, (zne hF_2 (by decide) h57), (zne hF_2 (by decide) h58), (zne hF_2 (by decide) h59), (zne hF_2 (by decide) h60), (zne hF_2 (by decide) h61), (zne hF_2 (by decide) h62), (zne hF_2 (by decide) h63), (zne hF_2 (by decide) h64), (zne hF_2 (by decide) h65), (zne hF_2 (by decide) h66), (zne hF_2 (by decide) h67), hR⟩, hfm_41⟩ dX7_numbers_60

theorem mX7_most : zMd yX7_most cX7_most 6 (some .int) 1 := ⟨by decide +kernel, gt_of 1031 (by decide +kernel) rfl, gt_of 52 (by decide +kernel) rfl, by decide⟩
theorem dX7_most_0 : decode cX7_most 0 = .ok (.aload_n 0, 1) := by decide +kernel
theorem dX7_most_1 : decode cX7_most 1 = .ok (.iconst 0, 1) := by decide +kernel
theorem dX7_most_2 : decode cX7_most 2 = .ok (.putfield 57, 3) := by decide +kernel
theorem dX7_most_5 : decode cX7_most 5 = .ok (.aload_n 0, 1) := by decide +kernel
theorem dX7_most_6 : decode cX7_most 6 = .ok (.iload_n 1, 1) := by decide +kernel
theorem dX7_most_7 : decode cX7_most 7 = .ok (.invokevirtual 142, 3) := by decide +kernel
theorem dX7_most_10 : decode cX7_most 10 = .ok (.ifCond .ge 9, 3) := by decide +kernel
theorem dX7_most_19 : decode cX7_most 19 = .ok (.bipush (-4), 2) := by decide +kernel
theorem dX7_most_21 : decode cX7_most 21 = .ok (.istore_n 2, 1) := by decide +kernel
theorem dX7_most_22 : decode cX7_most 22 = .ok (.bipush (-4), 2) := by decide +kernel
theorem dX7_most_24 : decode cX7_most 24 = .ok (.istore_n 3, 1) := by decide +kernel
theorem dX7_most_25 : decode cX7_most 25 = .ok (.iconst 0, 1) := by decide +kernel
theorem dX7_most_26 : decode cX7_most 26 = .ok (.istore 4, 2) := by decide +kernel
theorem dX7_most_28 : decode cX7_most 28 = .ok (.iload 4, 2) := by decide +kernel
theorem dX7_most_30 : decode cX7_most 30 = .ok (.bipush 121, 2) := by decide +kernel
theorem dX7_most_32 : decode cX7_most 32 = .ok (.if_icmp .ge 91, 3) := by decide +kernel
theorem dX7_most_123 : decode cX7_most 123 = .ok (.iload_n 2, 1) := by decide +kernel
theorem dX7_most_124 : decode cX7_most 124 = .ok (.ireturn, 1) := by decide +kernel
theorem dX7_most_35 : decode cX7_most 35 = .ok (.aload_n 0, 1) := by decide +kernel
theorem dX7_most_36 : decode cX7_most 36 = .ok (.aload_n 0, 1) := by decide +kernel
theorem dX7_most_37 : decode cX7_most 37 = .ok (.getfield 38, 3) := by decide +kernel
theorem dX7_most_40 : decode cX7_most 40 = .ok (.iload_n 1, 1) := by decide +kernel
theorem dX7_most_41 : decode cX7_most 41 = .ok (.iaload, 1) := by decide +kernel
theorem dX7_most_42 : decode cX7_most 42 = .ok (.aload_n 0, 1) := by decide +kernel
theorem dX7_most_43 : decode cX7_most 43 = .ok (.getfield 41, 3) := by decide +kernel
theorem dX7_most_46 : decode cX7_most 46 = .ok (.iload_n 1, 1) := by decide +kernel
theorem dX7_most_47 : decode cX7_most 47 = .ok (.iaload, 1) := by decide +kernel
theorem dX7_most_48 : decode cX7_most 48 = .ok (.iload 4, 2) := by decide +kernel
theorem dX7_most_50 : decode cX7_most 50 = .ok (.bipush 11, 2) := by decide +kernel
theorem dX7_most_52 : decode cX7_most 52 = .ok (.idiv, 1) := by decide +kernel
theorem dX7_most_53 : decode cX7_most 53 = .ok (.bipush 10, 2) := by decide +kernel
theorem dX7_most_55 : decode cX7_most 55 = .ok (.imul, 1) := by decide +kernel
theorem dX7_most_56 : decode cX7_most 56 = .ok (.iload 4, 2) := by decide +kernel
theorem dX7_most_58 : decode cX7_most 58 = .ok (.bipush 11, 2) := by decide +kernel
theorem dX7_most_60 : decode cX7_most 60 = .ok (.irem, 1) := by decide +kernel
theorem dX7_most_61 : decode cX7_most 61 = .ok (.bipush 10, 2) := by decide +kernel
theorem dX7_most_63 : decode cX7_most 63 = .ok (.imul, 1) := by decide +kernel
theorem dX7_most_64 : decode cX7_most 64 = .ok (.aload_n 0, 1) := by decide +kernel
theorem dX7_most_65 : decode cX7_most 65 = .ok (.getfield 70, 3) := by decide +kernel
theorem dX7_most_68 : decode cX7_most 68 = .ok (.invokevirtual 134, 3) := by decide +kernel
theorem dX7_most_71 : decode cX7_most 71 = .ok (.aload_n 0, 1) := by decide +kernel
theorem dX7_most_72 : decode cX7_most 72 = .ok (.aload_n 0, 1) := by decide +kernel
theorem dX7_most_73 : decode cX7_most 73 = .ok (.getfield 19, 3) := by decide +kernel
theorem dX7_most_76 : decode cX7_most 76 = .ok (.invokevirtual 190, 3) := by decide +kernel
theorem dX7_most_79 : decode cX7_most 79 = .ok (.istore 5, 2) := by decide +kernel
theorem dX7_most_81 : decode cX7_most 81 = .ok (.iload 5, 2) := by decide +kernel
theorem dX7_most_83 : decode cX7_most 83 = .ok (.ifCond .lt 34, 3) := by decide +kernel
theorem dX7_most_117 : decode cX7_most 117 = .ok (.iinc 4 1, 3) := by decide +kernel
theorem dX7_most_120 : decode cX7_most 120 = .ok (.goto (-92), 3) := by decide +kernel
theorem dX7_most_86 : decode cX7_most 86 = .ok (.iload 5, 2) := by decide +kernel
theorem dX7_most_88 : decode cX7_most 88 = .ok (.iload_n 3, 1) := by decide +kernel
theorem dX7_most_89 : decode cX7_most 89 = .ok (.if_icmp .le 28, 3) := by decide +kernel
theorem dX7_most_92 : decode cX7_most 92 = .ok (.sipush 1000, 3) := by decide +kernel
theorem dX7_most_95 : decode cX7_most 95 = .ok (.iload 4, 2) := by decide +kernel
theorem dX7_most_97 : decode cX7_most 97 = .ok (.bipush 11, 2) := by decide +kernel
theorem dX7_most_99 : decode cX7_most 99 = .ok (.idiv, 1) := by decide +kernel
theorem dX7_most_100 : decode cX7_most 100 = .ok (.bipush 10, 2) := by decide +kernel
theorem dX7_most_102 : decode cX7_most 102 = .ok (.imul, 1) := by decide +kernel
theorem dX7_most_103 : decode cX7_most 103 = .ok (.imul, 1) := by decide +kernel
theorem dX7_most_104 : decode cX7_most 104 = .ok (.iload 4, 2) := by decide +kernel
theorem dX7_most_106 : decode cX7_most 106 = .ok (.bipush 11, 2) := by decide +kernel
theorem dX7_most_108 : decode cX7_most 108 = .ok (.irem, 1) := by decide +kernel
theorem dX7_most_109 : decode cX7_most 109 = .ok (.bipush 10, 2) := by decide +kernel
theorem dX7_most_111 : decode cX7_most 111 = .ok (.imul, 1) := by decide +kernel
theorem dX7_most_112 : decode cX7_most 112 = .ok (.iadd, 1) := by decide +kernel
theorem dX7_most_113 : decode cX7_most 113 = .ok (.istore_n 2, 1) := by decide +kernel
theorem dX7_most_114 : decode cX7_most 114 = .ok (.iload 5, 2) := by decide +kernel
theorem dX7_most_116 : decode cX7_most 116 = .ok (.istore_n 3, 1) := by decide +kernel
theorem dX7_most_13 : decode cX7_most 13 = .ok (.aload_n 0, 1) := by decide +kernel
theorem dX7_most_14 : decode cX7_most 14 = .ok (.iload_n 1, 1) := by decide +kernel
theorem dX7_most_15 : decode cX7_most 15 = .ok (.invokevirtual 142, 3) := by decide +kernel
theorem dX7_most_18 : decode cX7_most 18 = .ok (.ireturn, 1) := by decide +kernel
set_option maxRecDepth 100000 in
theorem c_X7_most (l : Launch) (D : va_G) (cy : Nat → Nat) (n : Nat) (ad : Nat → Nat) (F : Nat → va_E) (sz : Nat) (th0 pic : Int32) (sc ps : Scn) (sh : Nat → Shf) (hn : 68 ≤ n) (hX : RM ad cy F th0 pic sc ps sh) (hG : gX sc ps sh) (d : Int32) : Met l yX7_most (zw yX7_most cX7_most 6 (some .int)) (rmL 2) (zPc D cy n ad F sz [.ref (ad 56), .int d]) (va_Qi (fun r F1 => r = zr True (sStR sh d) (sMost (sh (iN d)).2.1 sc.1) ∧ RM ad cy F1 0 pic sc ps sh ∧ frM F F1) (zB D n ad) (zA n ad sz)) 0 0 (zA n ad sz) := by
  refine zmet (by decide +kernel) (Nat.le_of_ble_eq_true rfl) (fun p e s m args below meth c ls hC hsz hZ hA hr hlocks hnm hl => ?_)
  have hC : zC p m c cX7_most 6 s args RX7 D cy := hC
  have hx := hC.1.1
  have hb := hC.1.2.1
  have hl : lv_has ls 6 [(0, .ref (ad 56)), (1, .int d)] := hl
  obtain ⟨bs, en, u, st, kk, dw, ho, sv, ia, tk, told, pl, nu, im, hw, kd, fg, so, mn, rw0, bt, hM, h57, h58, h59, h60, h61, h62, h63, h64, h65, h66, h67, hR⟩ := hX
  have hRS := hR.2.2
  have hHW := rX_hw hR
  refine lv_aload_n hx hb dX7_most_0 rfl (lv_at hl 0 rfl) ?_
  refine lv_iconst (v := 0) hx hb dX7_most_1 (by decide) ?_
  refine zput (E := oModel ad sc.1 sc.2.1 sc.2.2.2.1 sc.2.2.2.2 0 bs en u st kk dw ho sv pic ia tk) hC hZ pX7_57 (zlt hn rfl) hM rfl rfl rfl (Nat.le_of_ble_eq_true rfl) dX7_most_2 (fun F_1 hF_2 H locs hZ => ?_)
  have h_3 := zeq hF_2
  refine lv_aload_n hx hb dX7_most_5 rfl (lv_at hl 0 rfl) ?_
  refine lv_iload_n hx hb dX7_most_6 rfl (lv_at hl 1 rfl) ?_
  refine zgoi hZ hA (zrunV (As := [.int d]) (rest := []) (k := 56) hC hZ (c_X7_wrongStory l D cy n ad F_1 H.size sc.1 sc.2.1 sc.2.2.2.1 sc.2.2.2.2 0 bs en u st kk dw ho sv pic ia tk hn h_3 hw (zne hF_2 (by decide) h61) d) mX7_wrongStory vX7_wrongStory kX7_142 (zRj_of rfl) (zlt hn rfl) h_3 rfl rfl hl.1 rfl (Nat.le_of_ble_eq_true rfl) dX7_most_7 ⟨Nat.le_refl _, Nat.le_refl _⟩) (fun r_5 F_4 hp_6 H locs hZ => ?_)
  rw [mStR_eq hHW] at hp_6
  obtain ⟨rfl, rfl⟩ := hp_6
  refine lv_if_ge (tgt := 19) hx hb dX7_most_10 (by decide) (fun c_10 => ?_) (fun c_10 => ?_)
  · refine lv_bipush (v := (-4)) hx hb dX7_most_19 (by decide) ?_
    refine lv_istore_n (lv' := [(2, .int (-4)), (0, .ref (ad 56)), (1, .int d)]) hx hb dX7_most_21 rfl hl (by decide) rfl (fun ls hl => ?_)
    refine lv_bipush (v := (-4)) hx hb dX7_most_22 (by decide) ?_
    refine lv_istore_n (lv' := [(3, .int (-4)), (2, .int (-4)), (0, .ref (ad 56)), (1, .int d)]) hx hb dX7_most_24 rfl hl (by decide) rfl (fun ls hl => ?_)
    refine lv_iconst (v := 0) hx hb dX7_most_25 (by decide) ?_
    refine lv_istore (lv' := [(4, .int 0), (3, .int (-4)), (2, .int (-4)), (0, .ref (ad 56)), (1, .int d)]) hx hb dX7_most_26 hl (by decide) rfl (fun ls hl => ?_)
    have hz_7 : (sStR sh d) = 0 := sStR_ge (Int32.not_lt.mpr c_10)
    have hs := sStR_0 hz_7
    have hd := hs.1
    have ht : (sh (iN d)).2.1 = (kd (iN d), fg (iN d)) := (hRS _ hd.2).2.1 hs.2
    have hgt : gT (kd (iN d), fg (iN d)) := by rw [← ht]; exact (hG.2.2 _ hd.2).1 hs.2
    refine zlp (X := Nat × (Int32 × Int32) × Int32 × Int32 × Int32) 28 (fun _ => []) (fun x ls F1 => lv_has ls 6 [(4, .int (nI x.1)), (3, .int x.2.1.1), (2, .int x.2.1.2), (0, .ref (ad 56)), (1, .int d)] ∧ F1 = va_up F_1 56 (oModel ad sc.1 sc.2.1 sc.2.2.2.1 sc.2.2.2.2 0 bs en u st x.2.2.1 x.2.2.2.1 x.2.2.2.2 sv pic ia tk) ∧ (x.1 ≤ 121) ∧ (x.2.1 = zfold (sMostF (kd (iN d), fg (iN d)) sc.1) x.1 (-4, -4))) (fun x => 121 - x.1) ?_ (0, (-4, -4), kk, dw, ho) hZ ⟨hl, (zself h_3), (Nat.zero_le _), rfl⟩
    intro x ih28 ls F3_28 H locs hZ hφ
    obtain ⟨k, pp, k1, d1, o1⟩ := x
    obtain ⟨hl, hF3_28, hk, hp⟩ := hφ
    have hl : lv_has ls 6 [(4, .int (nI k)), (3, .int pp.1), (2, .int pp.2), (0, .ref (ad 56)), (1, .int d)] := hl
    have hF3_28 : F3_28 = va_up F_1 56 (oModel ad sc.1 sc.2.1 sc.2.2.2.1 sc.2.2.2.2 0 bs en u st k1 d1 o1 sv pic ia tk) := hF3_28
    have hk : k ≤ 121 := hk
    have hp : pp = zfold (sMostF (kd (iN d), fg (iN d)) sc.1) k (-4, -4) := hp
    have h_8 := zeq hF3_28
    refine lv_iload hx hb dX7_most_28 (lv_at hl 0 rfl) ?_
    refine lv_bipush (v := 121) hx hb dX7_most_30 (by decide) ?_
    refine lv_icmp_ge (tgt := 123) hx hb dX7_most_32 (by decide) (fun c_32 => ?_) (fun c_32 => ?_)
    · refine lv_iload_n hx hb dX7_most_123 rfl (lv_at hl 2 rfl) ?_
      have hkq : k = 121 := by have := nIge (N := 121) c_32 (by omega) rfl; omega
      have hv : (pp.2 : Int32) = sMost (sh (iN d)).2.1 sc.1 := by rw [ht]; unfold sMost; rw [hp, hkq]
      have hq : (pp.2 : Int32) = zr True (sStR sh d) (sMost (sh (iN d)).2.1 sc.1) := by exact hv.trans (zr_ok trivial hz_7).symm
      have hfm_9 : frM F F3_28 := (frM_up (frM_up frM_rf hF_2 (by decide) (by decide)) hF3_28 (by decide) (by decide))
      exact zireti hC hZ hr hlocks ⟨hq, ⟨bs, en, u, st, k1, d1, o1, sv, ia, tk, told, pl, nu, im, hw, kd, fg, so, mn, rw0, bt, h_8, (zne hF3_28 (by decide) (zne hF_2 (by decide) h57)), (zne hF3_28 (by decide) (zne hF_2 (by decide) h58)), (zne hF3_28 (by decide) (zne hF_2 (by decide) h59)), (zne hF3_28 (by decide) (zne hF_2 (by decide) h60)), (zne hF3_28 (by decide) (zne hF_2 (by decide) h61)), (zne hF3_28 (by decide) (zne hF_2 (by decide) h62)), (zne hF3_28 (by decide) (zne hF_2 (by decide) h63)), (zne hF3_28 (by decide) (zne hF_2 (by decide) h64)), (zne hF3_28 (by decide) (zne hF_2 (by decide) h65)), (zne hF3_28 (by decide) (zne hF_2 (by decide) h66)), (zne hF3_28 (by decide) (zne hF_2 (by decide) h67)), hR⟩, hfm_9⟩ dX7_most_124
    · refine lv_aload_n hx hb dX7_most_35 rfl (lv_at hl 3 rfl) ?_
      refine lv_aload_n hx hb dX7_most_36 rfl (lv_at hl 3 rfl) ?_
      refine zget hC hZ fX7_38 (zlt hn rfl) h_8 rfl dX7_most_37 ?_
      refine lv_iload_n hx hb dX7_most_40 rfl (lv_at hl 4 rfl) ?_
      refine ziald hC hZ (zlt hn rfl) (zne hF3_28 (by decide) (zne hF_2 (by decide) h62)) hd.1 hd.2 (by decide) dX7_most_41 ?_
      refine lv_aload_n hx hb dX7_most_42 rfl (lv_at hl 3 rfl) ?_
      refine zget hC hZ fX7_41 (zlt hn rfl) h_8 rfl dX7_most_43 ?_
      refine lv_iload_n hx hb dX7_most_46 rfl (lv_at hl 4 rfl) ?_
      refine ziald hC hZ (zlt hn rfl) (zne hF3_28 (by decide) (zne hF_2 (by decide) h63)) hd.1 hd.2 (by decide) dX7_most_47 ?_
      refine lv_iload hx hb dX7_most_48 (lv_at hl 0 rfl) ?_
      refine lv_bipush (v := 11) hx hb dX7_most_50 (by decide) ?_
      refine lv_idiv hx hb dX7_most_52 (by decide) ?_
      refine lv_bipush (v := 10) hx hb dX7_most_53 (by decide) ?_
      refine lv_imul hx hb dX7_most_55 ?_
      refine lv_iload hx hb dX7_most_56 (lv_at hl 0 rfl) ?_
      refine lv_bipush (v := 11) hx hb dX7_most_58 (by decide) ?_
      refine lv_irem hx hb dX7_most_60 (by decide) ?_
      refine lv_bipush (v := 10) hx hb dX7_most_61 (by decide) ?_
      refine lv_imul hx hb dX7_most_63 ?_
      refine lv_aload_n hx hb dX7_most_64 rfl (lv_at hl 3 rfl) ?_
      refine zget hC hZ fX7_70 (zlt hn rfl) h_8 rfl dX7_most_65 ?_
      refine zgov hZ hA (zrunV (As := [.int (kd (iN d)), .int (fg (iN d)), .int ((nI k / 11) * 10), .int ((nI k - nI k / 11 * 11) * 10), .int sc.1.2.2.1]) (rest := []) (k := 56) hC hZ (c_X7_tell l D cy n ad F3_28 H.size sc.1 sc.2.1 sc.2.2.2.1 sc.2.2.2.2 0 bs en u st k1 d1 o1 sv pic ia tk hn h_8 ((kd (iN d)), (fg (iN d))) (((nI k / 11) * 10), ((nI k - nI k / 11 * 11) * 10), sc.1.2.2.1, 0)) mX7_tell vX7_tell kX7_134 (zRj_of rfl) (zlt hn rfl) h_8 rfl rfl hl.1 rfl (Nat.le_of_ble_eq_true rfl) dX7_most_68 ⟨Nat.le_refl _, Nat.le_refl _⟩) (fun F_10 hp_12 H locs hZ => ?_)
      have h_13 := zeq hp_12
      refine lv_aload_n hx hb dX7_most_71 rfl (lv_at hl 3 rfl) ?_
      refine lv_aload_n hx hb dX7_most_72 rfl (lv_at hl 3 rfl) ?_
      refine zget hC hZ fX7_19 (zlt hn rfl) h_13 rfl dX7_most_73 ?_
      refine zgoi hZ hA (zrunV (As := [.int sc.1.2.2.2]) (rest := []) (k := 56) hC hZ (c_X7_sharedOf l D cy n ad F_10 H.size sc.1 sc.2.1 sc.2.2.2.1 sc.2.2.2.2 0 bs en u st (sKick ((kd (iN d)), (fg (iN d))) (((nI k / 11) * 10), ((nI k - nI k / 11 * 11) * 10), sc.1.2.2.1, 0)) (sDraw ((kd (iN d)), (fg (iN d)))) (sHold ((kd (iN d)), (fg (iN d)))) sv pic ia tk hn h_13 sc.1.2.2.2) mX7_sharedOf vX7_sharedOf kX7_190 (zRj_of rfl) (zlt hn rfl) h_13 rfl rfl hl.1 rfl (Nat.le_of_ble_eq_true rfl) dX7_most_76 ⟨Nat.le_refl _, Nat.le_refl _⟩) (fun r_15 F_14 hp_16 H locs hZ => ?_)
      have hlt := nIlt (N := 121) c_32 (by omega) rfl
      have hgs := gSmost (b := sc.1) hG.1.1 hlt
      have hv9 := mAhead (t := (kd (iN d), fg (iN d))) (mMostB (b := sc.1) hlt) hgt hgs 0
      rw [hv9] at hp_16
      obtain ⟨rfl, rfl⟩ := hp_16
      refine lv_istore (lv' := [(5, .int (sArchAt (kd (iN d), fg (iN d)) (sMostB sc.1 k) 0)), (4, .int (nI k)), (3, .int pp.1), (2, .int pp.2), (0, .ref (ad 56)), (1, .int d)]) hx hb dX7_most_79 hl (by decide) rfl (fun ls hl => ?_)
      refine lv_iload hx hb dX7_most_81 (lv_at hl 0 rfl) ?_
      refine lv_if_lt (tgt := 117) hx hb dX7_most_83 (by decide) (fun c_83 => ?_) (fun c_83 => ?_)
      · refine lv_iinc (v := nI (k + 1)) (lv' := [(4, .int (nI (k + 1))), (5, .int (sArchAt (kd (iN d), fg (iN d)) (sMostB sc.1 k) 0)), (3, .int pp.1), (2, .int pp.2), (0, .ref (ad 56)), (1, .int d)]) hx hb dX7_most_117 hl (k := 1) rfl (nI_1 k) (by decide) rfl (fun ls hl => ?_)
        refine lv_goto (tgt := 28) hx hb dX7_most_120 (by decide) ?_
        exact absurd c_83 (Int32.not_lt.mpr (sArch0_le hgt hgs))
      · refine lv_iload hx hb dX7_most_86 (lv_at hl 0 rfl) ?_
        refine lv_iload_n hx hb dX7_most_88 rfl (lv_at hl 2 rfl) ?_
        refine lv_icmp_le (tgt := 117) hx hb dX7_most_89 (by decide) (fun c_89 => ?_) (fun c_89 => ?_)
        · refine lv_iinc (v := nI (k + 1)) (lv' := [(4, .int (nI (k + 1))), (5, .int (sArchAt (kd (iN d), fg (iN d)) (sMostB sc.1 k) 0)), (3, .int pp.1), (2, .int pp.2), (0, .ref (ad 56)), (1, .int d)]) hx hb dX7_most_117 hl (k := 1) rfl (nI_1 k) (by decide) rfl (fun ls hl => ?_)
          refine lv_goto (tgt := 28) hx hb dX7_most_120 (by decide) ?_
          have he_17 : F_10 = va_up F_1 56 (oModel ad sc.1 sc.2.1 sc.2.2.2.1 sc.2.2.2.2 0 bs en u st (sKick ((kd (iN d)), (fg (iN d))) (((nI k / 11) * 10), ((nI k - nI k / 11 * 11) * 10), sc.1.2.2.1, 0)) (sDraw ((kd (iN d)), (fg (iN d)))) (sHold ((kd (iN d)), (fg (iN d)))) sv pic ia tk) := by rw [hp_12, hF3_28]; simp only [bx_uu]
          exact ih28 ((k + 1), pp, (sKick ((kd (iN d)), (fg (iN d))) (((nI k / 11) * 10), ((nI k - nI k / 11 * 11) * 10), sc.1.2.2.1, 0)), (sDraw ((kd (iN d)), (fg (iN d)))), (sHold ((kd (iN d)), (fg (iN d))))) ls _ H locs (by show 121 - (k + 1) < 121 - k; omega) hZ ⟨(lv_sub hl [0, 2, 3, 4, 5] rfl), he_17, hlt, (by show pp = (sMostF (kd (iN d), fg (iN d)) sc.1) k (zfold (sMostF (kd (iN d), fg (iN d)) sc.1) k (-4, -4)); rw [← hp]; exact (if_neg (Int32.not_lt.mpr c_89)).symm)⟩
        · refine lv_sipush (v := 1000) hx hb dX7_most_92 (by decide) ?_
          refine lv_iload hx hb dX7_most_95 (lv_at hl 1 rfl) ?_
          refine lv_bipush (v := 11) hx hb dX7_most_97 (by decide) ?_
          refine lv_idiv hx hb dX7_most_99 (by decide) ?_
          refine lv_bipush (v := 10) hx hb dX7_most_100 (by decide) ?_
          refine lv_imul hx hb dX7_most_102 ?_
          refine lv_imul hx hb dX7_most_103 ?_
          refine lv_iload hx hb dX7_most_104 (lv_at hl 1 rfl) ?_
          refine lv_bipush (v := 11) hx hb dX7_most_106 (by decide) ?_
          refine lv_irem hx hb dX7_most_108 (by decide) ?_
          refine lv_bipush (v := 10) hx hb dX7_most_109 (by decide) ?_
          refine lv_imul hx hb dX7_most_111 ?_
          refine lv_iadd hx hb dX7_most_112 ?_
          refine lv_istore_n (lv' := [(2, .int ((1000 * ((nI k / 11) * 10)) + ((nI k - nI k / 11 * 11) * 10))), (5, .int (sArchAt (kd (iN d), fg (iN d)) (sMostB sc.1 k) 0)), (4, .int (nI k)), (3, .int pp.1), (0, .ref (ad 56)), (1, .int d)]) hx hb dX7_most_113 rfl hl (by decide) rfl (fun ls hl => ?_)
          refine lv_iload hx hb dX7_most_114 (lv_at hl 1 rfl) ?_
          refine lv_istore_n (lv' := [(3, .int (sArchAt (kd (iN d), fg (iN d)) (sMostB sc.1 k) 0)), (2, .int ((1000 * ((nI k / 11) * 10)) + ((nI k - nI k / 11 * 11) * 10))), (5, .int (sArchAt (kd (iN d), fg (iN d)) (sMostB sc.1 k) 0)), (4, .int (nI k)), (0, .ref (ad 56)), (1, .int d)]) hx hb dX7_most_116 rfl hl (by decide) rfl (fun ls hl => ?_)
          refine lv_iinc (v := nI (k + 1)) (lv' := [(4, .int (nI (k + 1))), (3, .int (sArchAt (kd (iN d), fg (iN d)) (sMostB sc.1 k) 0)), (2, .int ((1000 * ((nI k / 11) * 10)) + ((nI k - nI k / 11 * 11) * 10))), (5, .int (sArchAt (kd (iN d), fg (iN d)) (sMostB sc.1 k) 0)), (0, .ref (ad 56)), (1, .int d)]) hx hb dX7_most_117 hl (k := 3) rfl (nI_1 k) (by decide) rfl (fun ls hl => ?_)
          refine lv_goto (tgt := 28) hx hb dX7_most_120 (by decide) ?_
          have hm9 : ((1000 * ((nI k / 11) * 10)) + ((nI k - nI k / 11 * 11) * 10)) = nI (10 * (k / 11)) * 1000 + nI (10 * (k % 11)) := by rw [nI_d11 hlt, nI_r11 hlt, Int32.mul_comm 1000]
          have he_18 : F_10 = va_up F_1 56 (oModel ad sc.1 sc.2.1 sc.2.2.2.1 sc.2.2.2.2 0 bs en u st (sKick ((kd (iN d)), (fg (iN d))) (((nI k / 11) * 10), ((nI k - nI k / 11 * 11) * 10), sc.1.2.2.1, 0)) (sDraw ((kd (iN d)), (fg (iN d)))) (sHold ((kd (iN d)), (fg (iN d)))) sv pic ia tk) := by rw [hp_12, hF3_28]; simp only [bx_uu]
          exact ih28 ((k + 1), ((sArchAt (kd (iN d), fg (iN d)) (sMostB sc.1 k) 0), ((1000 * ((nI k / 11) * 10)) + ((nI k - nI k / 11 * 11) * 10))), (sKick ((kd (iN d)), (fg (iN d))) (((nI k / 11) * 10), ((nI k - nI k / 11 * 11) * 10), sc.1.2.2.1, 0)), (sDraw ((kd (iN d)), (fg (iN d)))), (sHold ((kd (iN d)), (fg (iN d))))) ls _ H locs (by show 121 - (k + 1) < 121 - k; omega) hZ ⟨(lv_sub hl [0, 1, 2, 4, 5] rfl), he_18, hlt, (by show ((sArchAt (kd (iN d), fg (iN d)) (sMostB sc.1 k) 0), ((1000 * ((nI k / 11) * 10)) + ((nI k - nI k / 11 * 11) * 10))) = (sMostF (kd (iN d), fg (iN d)) sc.1) k (zfold (sMostF (kd (iN d), fg (iN d)) sc.1) k (-4, -4)); rw [← hp, hm9]; exact (if_pos (Int32.not_le.mp c_89)).symm)⟩
  · refine lv_aload_n hx hb dX7_most_13 rfl (lv_at hl 0 rfl) ?_
    refine lv_iload_n hx hb dX7_most_14 rfl (lv_at hl 1 rfl) ?_
    refine zgoi hZ hA (zrunV (As := [.int d]) (rest := []) (k := 56) hC hZ (c_X7_wrongStory l D cy n ad F_1 H.size sc.1 sc.2.1 sc.2.2.2.1 sc.2.2.2.2 0 bs en u st kk dw ho sv pic ia tk hn h_3 hw (zne hF_2 (by decide) h61) d) mX7_wrongStory vX7_wrongStory kX7_142 (zRj_of rfl) (zlt hn rfl) h_3 rfl rfl hl.1 rfl (Nat.le_of_ble_eq_true rfl) dX7_most_15 ⟨Nat.le_refl _, Nat.le_refl _⟩) (fun r_20 F_19 hp_21 H locs hZ => ?_)
    rw [mStR_eq hHW] at hp_21
    obtain ⟨rfl, rfl⟩ := hp_21
    have hz_22 : (sStR sh d) < 0 := Int32.not_le.mp c_10
    have hq : ((sStR sh d) : Int32) = zr True (sStR sh d) (sMost (sh (iN d)).2.1 sc.1) := by exact (zr_rf trivial (neg_n0 hz_22)).symm
    have hfm_23 : frM F F_1 := (frM_up frM_rf hF_2 (by decide) (by decide))
    exact zireti hC hZ hr hlocks ⟨hq, ⟨bs, en, u, st, kk, dw, ho, sv, ia, tk, told, pl, nu, im, hw, kd, fg, so, mn, rw0, bt, h_3, (zne hF_2 (by decide) h57), (zne hF_2 (by decide) h58), (zne hF_2 (by decide) h59), (zne hF_2 (by decide) h60), (zne hF_2 (by decide) h61), (zne hF_2 (by decide) h62), (zne hF_2 (by decide) h63), (zne hF_2 (by decide) h64), (zne hF_2 (by decide) h65), (zne hF_2 (by decide) h66), (zne hF_2 (by decide) h67), hR⟩, hfm_23⟩ dX7_most_18

theorem mX7_lays : zMd yX7_lays cX7_lays 6 (some .int) 1 := ⟨by decide +kernel, gt_of 1035 (by decide +kernel) rfl, gt_of 52 (by decide +kernel) rfl, by decide⟩
theorem dX7_lays_0 : decode cX7_lays 0 = .ok (.aload_n 0, 1) := by decide +kernel
theorem dX7_lays_1 : decode cX7_lays 1 = .ok (.iconst 0, 1) := by decide +kernel
theorem dX7_lays_2 : decode cX7_lays 2 = .ok (.putfield 57, 3) := by decide +kernel
theorem dX7_lays_5 : decode cX7_lays 5 = .ok (.aload_n 0, 1) := by decide +kernel
theorem dX7_lays_6 : decode cX7_lays 6 = .ok (.iload_n 1, 1) := by decide +kernel
theorem dX7_lays_7 : decode cX7_lays 7 = .ok (.invokevirtual 142, 3) := by decide +kernel
theorem dX7_lays_10 : decode cX7_lays 10 = .ok (.ifCond .ge 9, 3) := by decide +kernel
theorem dX7_lays_19 : decode cX7_lays 19 = .ok (.bipush (-4), 2) := by decide +kernel
theorem dX7_lays_21 : decode cX7_lays 21 = .ok (.istore_n 2, 1) := by decide +kernel
theorem dX7_lays_22 : decode cX7_lays 22 = .ok (.bipush (-4), 2) := by decide +kernel
theorem dX7_lays_24 : decode cX7_lays 24 = .ok (.istore_n 3, 1) := by decide +kernel
theorem dX7_lays_25 : decode cX7_lays 25 = .ok (.iconst 0, 1) := by decide +kernel
theorem dX7_lays_26 : decode cX7_lays 26 = .ok (.istore 4, 2) := by decide +kernel
theorem dX7_lays_28 : decode cX7_lays 28 = .ok (.iload 4, 2) := by decide +kernel
theorem dX7_lays_30 : decode cX7_lays 30 = .ok (.iconst 3, 1) := by decide +kernel
theorem dX7_lays_31 : decode cX7_lays 31 = .ok (.if_icmp .ge 62, 3) := by decide +kernel
theorem dX7_lays_93 : decode cX7_lays 93 = .ok (.iload_n 2, 1) := by decide +kernel
theorem dX7_lays_94 : decode cX7_lays 94 = .ok (.ireturn, 1) := by decide +kernel
theorem dX7_lays_34 : decode cX7_lays 34 = .ok (.aload_n 0, 1) := by decide +kernel
theorem dX7_lays_35 : decode cX7_lays 35 = .ok (.aload_n 0, 1) := by decide +kernel
theorem dX7_lays_36 : decode cX7_lays 36 = .ok (.getfield 38, 3) := by decide +kernel
theorem dX7_lays_39 : decode cX7_lays 39 = .ok (.iload_n 1, 1) := by decide +kernel
theorem dX7_lays_40 : decode cX7_lays 40 = .ok (.iaload, 1) := by decide +kernel
theorem dX7_lays_41 : decode cX7_lays 41 = .ok (.aload_n 0, 1) := by decide +kernel
theorem dX7_lays_42 : decode cX7_lays 42 = .ok (.getfield 41, 3) := by decide +kernel
theorem dX7_lays_45 : decode cX7_lays 45 = .ok (.iload_n 1, 1) := by decide +kernel
theorem dX7_lays_46 : decode cX7_lays 46 = .ok (.iaload, 1) := by decide +kernel
theorem dX7_lays_47 : decode cX7_lays 47 = .ok (.aload_n 0, 1) := by decide +kernel
theorem dX7_lays_48 : decode cX7_lays 48 = .ok (.getfield 7, 3) := by decide +kernel
theorem dX7_lays_51 : decode cX7_lays 51 = .ok (.aload_n 0, 1) := by decide +kernel
theorem dX7_lays_52 : decode cX7_lays 52 = .ok (.getfield 13, 3) := by decide +kernel
theorem dX7_lays_55 : decode cX7_lays 55 = .ok (.iload 4, 2) := by decide +kernel
theorem dX7_lays_57 : decode cX7_lays 57 = .ok (.invokevirtual 134, 3) := by decide +kernel
theorem dX7_lays_60 : decode cX7_lays 60 = .ok (.aload_n 0, 1) := by decide +kernel
theorem dX7_lays_61 : decode cX7_lays 61 = .ok (.aload_n 0, 1) := by decide +kernel
theorem dX7_lays_62 : decode cX7_lays 62 = .ok (.getfield 19, 3) := by decide +kernel
theorem dX7_lays_65 : decode cX7_lays 65 = .ok (.invokevirtual 190, 3) := by decide +kernel
theorem dX7_lays_68 : decode cX7_lays 68 = .ok (.istore 5, 2) := by decide +kernel
theorem dX7_lays_70 : decode cX7_lays 70 = .ok (.iload 5, 2) := by decide +kernel
theorem dX7_lays_72 : decode cX7_lays 72 = .ok (.ifCond .lt 15, 3) := by decide +kernel
theorem dX7_lays_87 : decode cX7_lays 87 = .ok (.iinc 4 1, 3) := by decide +kernel
theorem dX7_lays_90 : decode cX7_lays 90 = .ok (.goto (-62), 3) := by decide +kernel
theorem dX7_lays_75 : decode cX7_lays 75 = .ok (.iload 5, 2) := by decide +kernel
theorem dX7_lays_77 : decode cX7_lays 77 = .ok (.iload_n 3, 1) := by decide +kernel
theorem dX7_lays_78 : decode cX7_lays 78 = .ok (.if_icmp .le 9, 3) := by decide +kernel
theorem dX7_lays_81 : decode cX7_lays 81 = .ok (.iload 4, 2) := by decide +kernel
theorem dX7_lays_83 : decode cX7_lays 83 = .ok (.istore_n 2, 1) := by decide +kernel
theorem dX7_lays_84 : decode cX7_lays 84 = .ok (.iload 5, 2) := by decide +kernel
theorem dX7_lays_86 : decode cX7_lays 86 = .ok (.istore_n 3, 1) := by decide +kernel
theorem dX7_lays_13 : decode cX7_lays 13 = .ok (.aload_n 0, 1) := by decide +kernel
theorem dX7_lays_14 : decode cX7_lays 14 = .ok (.iload_n 1, 1) := by decide +kernel
theorem dX7_lays_15 : decode cX7_lays 15 = .ok (.invokevirtual 142, 3) := by decide +kernel
theorem dX7_lays_18 : decode cX7_lays 18 = .ok (.ireturn, 1) := by decide +kernel
set_option maxRecDepth 100000 in
theorem c_X7_lays (l : Launch) (D : va_G) (cy : Nat → Nat) (n : Nat) (ad : Nat → Nat) (F : Nat → va_E) (sz : Nat) (th0 pic : Int32) (sc ps : Scn) (sh : Nat → Shf) (hn : 68 ≤ n) (hX : RM ad cy F th0 pic sc ps sh) (hG : gX sc ps sh) (d : Int32) : Met l yX7_lays (zw yX7_lays cX7_lays 6 (some .int)) (rmL 2) (zPc D cy n ad F sz [.ref (ad 56), .int d]) (va_Qi (fun r F1 => r = zr True (sStR sh d) (sLays (sh (iN d)).2.1 sc.1) ∧ RM ad cy F1 0 pic sc ps sh ∧ frM F F1) (zB D n ad) (zA n ad sz)) 0 0 (zA n ad sz) := by
  refine zmet (by decide +kernel) (Nat.le_of_ble_eq_true rfl) (fun p e s m args below meth c ls hC hsz hZ hA hr hlocks hnm hl => ?_)
  have hC : zC p m c cX7_lays 6 s args RX7 D cy := hC
  have hx := hC.1.1
  have hb := hC.1.2.1
  have hl : lv_has ls 6 [(0, .ref (ad 56)), (1, .int d)] := hl
  obtain ⟨bs, en, u, st, kk, dw, ho, sv, ia, tk, told, pl, nu, im, hw, kd, fg, so, mn, rw0, bt, hM, h57, h58, h59, h60, h61, h62, h63, h64, h65, h66, h67, hR⟩ := hX
  have hRS := hR.2.2
  have hHW := rX_hw hR
  refine lv_aload_n hx hb dX7_lays_0 rfl (lv_at hl 0 rfl) ?_
  refine lv_iconst (v := 0) hx hb dX7_lays_1 (by decide) ?_
  refine zput (E := oModel ad sc.1 sc.2.1 sc.2.2.2.1 sc.2.2.2.2 0 bs en u st kk dw ho sv pic ia tk) hC hZ pX7_57 (zlt hn rfl) hM rfl rfl rfl (Nat.le_of_ble_eq_true rfl) dX7_lays_2 (fun F_1 hF_2 H locs hZ => ?_)
  have h_3 := zeq hF_2
  refine lv_aload_n hx hb dX7_lays_5 rfl (lv_at hl 0 rfl) ?_
  refine lv_iload_n hx hb dX7_lays_6 rfl (lv_at hl 1 rfl) ?_
  refine zgoi hZ hA (zrunV (As := [.int d]) (rest := []) (k := 56) hC hZ (c_X7_wrongStory l D cy n ad F_1 H.size sc.1 sc.2.1 sc.2.2.2.1 sc.2.2.2.2 0 bs en u st kk dw ho sv pic ia tk hn h_3 hw (zne hF_2 (by decide) h61) d) mX7_wrongStory vX7_wrongStory kX7_142 (zRj_of rfl) (zlt hn rfl) h_3 rfl rfl hl.1 rfl (Nat.le_of_ble_eq_true rfl) dX7_lays_7 ⟨Nat.le_refl _, Nat.le_refl _⟩) (fun r_5 F_4 hp_6 H locs hZ => ?_)
  rw [mStR_eq hHW] at hp_6
  obtain ⟨rfl, rfl⟩ := hp_6
  refine lv_if_ge (tgt := 19) hx hb dX7_lays_10 (by decide) (fun c_10 => ?_) (fun c_10 => ?_)
  · refine lv_bipush (v := (-4)) hx hb dX7_lays_19 (by decide) ?_
    refine lv_istore_n (lv' := [(2, .int (-4)), (0, .ref (ad 56)), (1, .int d)]) hx hb dX7_lays_21 rfl hl (by decide) rfl (fun ls hl => ?_)
    refine lv_bipush (v := (-4)) hx hb dX7_lays_22 (by decide) ?_
    refine lv_istore_n (lv' := [(3, .int (-4)), (2, .int (-4)), (0, .ref (ad 56)), (1, .int d)]) hx hb dX7_lays_24 rfl hl (by decide) rfl (fun ls hl => ?_)
    refine lv_iconst (v := 0) hx hb dX7_lays_25 (by decide) ?_
    refine lv_istore (lv' := [(4, .int 0), (3, .int (-4)), (2, .int (-4)), (0, .ref (ad 56)), (1, .int d)]) hx hb dX7_lays_26 hl (by decide) rfl (fun ls hl => ?_)
    have hz_7 : (sStR sh d) = 0 := sStR_ge (Int32.not_lt.mpr c_10)
    have hs := sStR_0 hz_7
    have hd := hs.1
    have ht : (sh (iN d)).2.1 = (kd (iN d), fg (iN d)) := (hRS _ hd.2).2.1 hs.2
    have hgt : gT (kd (iN d), fg (iN d)) := by rw [← ht]; exact (hG.2.2 _ hd.2).1 hs.2
    refine zlp (X := Nat × (Int32 × Int32) × Int32 × Int32 × Int32) 28 (fun _ => []) (fun x ls F1 => lv_has ls 6 [(4, .int (nI x.1)), (3, .int x.2.1.1), (2, .int x.2.1.2), (0, .ref (ad 56)), (1, .int d)] ∧ F1 = va_up F_1 56 (oModel ad sc.1 sc.2.1 sc.2.2.2.1 sc.2.2.2.2 0 bs en u st x.2.2.1 x.2.2.2.1 x.2.2.2.2 sv pic ia tk) ∧ (x.1 ≤ 3) ∧ (x.2.1 = zfold (sLayF (kd (iN d), fg (iN d)) sc.1) x.1 (-4, -4))) (fun x => 3 - x.1) ?_ (0, (-4, -4), kk, dw, ho) hZ ⟨hl, (zself h_3), (Nat.zero_le _), rfl⟩
    intro x ih28 ls F3_28 H locs hZ hφ
    obtain ⟨k, pp, k1, d1, o1⟩ := x
    obtain ⟨hl, hF3_28, hk, hp⟩ := hφ
    have hl : lv_has ls 6 [(4, .int (nI k)), (3, .int pp.1), (2, .int pp.2), (0, .ref (ad 56)), (1, .int d)] := hl
    have hF3_28 : F3_28 = va_up F_1 56 (oModel ad sc.1 sc.2.1 sc.2.2.2.1 sc.2.2.2.2 0 bs en u st k1 d1 o1 sv pic ia tk) := hF3_28
    have hk : k ≤ 3 := hk
    have hp : pp = zfold (sLayF (kd (iN d), fg (iN d)) sc.1) k (-4, -4) := hp
    have h_8 := zeq hF3_28
    refine lv_iload hx hb dX7_lays_28 (lv_at hl 0 rfl) ?_
    refine lv_iconst (v := 3) hx hb dX7_lays_30 (by decide) ?_
    refine lv_icmp_ge (tgt := 93) hx hb dX7_lays_31 (by decide) (fun c_31 => ?_) (fun c_31 => ?_)
    · refine lv_iload_n hx hb dX7_lays_93 rfl (lv_at hl 2 rfl) ?_
      have hkq : k = 3 := by have := nIge (N := 3) c_31 (by omega) rfl; omega
      have hv : (pp.2 : Int32) = sLays (sh (iN d)).2.1 sc.1 := by rw [ht]; unfold sLays; rw [hp, hkq]
      have hq : (pp.2 : Int32) = zr True (sStR sh d) (sLays (sh (iN d)).2.1 sc.1) := by exact hv.trans (zr_ok trivial hz_7).symm
      have hfm_9 : frM F F3_28 := (frM_up (frM_up frM_rf hF_2 (by decide) (by decide)) hF3_28 (by decide) (by decide))
      exact zireti hC hZ hr hlocks ⟨hq, ⟨bs, en, u, st, k1, d1, o1, sv, ia, tk, told, pl, nu, im, hw, kd, fg, so, mn, rw0, bt, h_8, (zne hF3_28 (by decide) (zne hF_2 (by decide) h57)), (zne hF3_28 (by decide) (zne hF_2 (by decide) h58)), (zne hF3_28 (by decide) (zne hF_2 (by decide) h59)), (zne hF3_28 (by decide) (zne hF_2 (by decide) h60)), (zne hF3_28 (by decide) (zne hF_2 (by decide) h61)), (zne hF3_28 (by decide) (zne hF_2 (by decide) h62)), (zne hF3_28 (by decide) (zne hF_2 (by decide) h63)), (zne hF3_28 (by decide) (zne hF_2 (by decide) h64)), (zne hF3_28 (by decide) (zne hF_2 (by decide) h65)), (zne hF3_28 (by decide) (zne hF_2 (by decide) h66)), (zne hF3_28 (by decide) (zne hF_2 (by decide) h67)), hR⟩, hfm_9⟩ dX7_lays_94
    · refine lv_aload_n hx hb dX7_lays_34 rfl (lv_at hl 3 rfl) ?_
      refine lv_aload_n hx hb dX7_lays_35 rfl (lv_at hl 3 rfl) ?_
      refine zget hC hZ fX7_38 (zlt hn rfl) h_8 rfl dX7_lays_36 ?_
      refine lv_iload_n hx hb dX7_lays_39 rfl (lv_at hl 4 rfl) ?_
      refine ziald hC hZ (zlt hn rfl) (zne hF3_28 (by decide) (zne hF_2 (by decide) h62)) hd.1 hd.2 (by decide) dX7_lays_40 ?_
      refine lv_aload_n hx hb dX7_lays_41 rfl (lv_at hl 3 rfl) ?_
      refine zget hC hZ fX7_41 (zlt hn rfl) h_8 rfl dX7_lays_42 ?_
      refine lv_iload_n hx hb dX7_lays_45 rfl (lv_at hl 4 rfl) ?_
      refine ziald hC hZ (zlt hn rfl) (zne hF3_28 (by decide) (zne hF_2 (by decide) h63)) hd.1 hd.2 (by decide) dX7_lays_46 ?_
      refine lv_aload_n hx hb dX7_lays_47 rfl (lv_at hl 3 rfl) ?_
      refine zget hC hZ fX7_7 (zlt hn rfl) h_8 rfl dX7_lays_48 ?_
      refine lv_aload_n hx hb dX7_lays_51 rfl (lv_at hl 3 rfl) ?_
      refine zget hC hZ fX7_13 (zlt hn rfl) h_8 rfl dX7_lays_52 ?_
      refine lv_iload hx hb dX7_lays_55 (lv_at hl 0 rfl) ?_
      refine zgov hZ hA (zrunV (As := [.int (kd (iN d)), .int (fg (iN d)), .int sc.1.1, .int sc.1.2.1, .int (nI k)]) (rest := []) (k := 56) hC hZ (c_X7_tell l D cy n ad F3_28 H.size sc.1 sc.2.1 sc.2.2.2.1 sc.2.2.2.2 0 bs en u st k1 d1 o1 sv pic ia tk hn h_8 ((kd (iN d)), (fg (iN d))) (sc.1.1, sc.1.2.1, nI k, 0)) mX7_tell vX7_tell kX7_134 (zRj_of rfl) (zlt hn rfl) h_8 rfl rfl hl.1 rfl (Nat.le_of_ble_eq_true rfl) dX7_lays_57 ⟨Nat.le_refl _, Nat.le_refl _⟩) (fun F_10 hp_12 H locs hZ => ?_)
      have h_13 := zeq hp_12
      refine lv_aload_n hx hb dX7_lays_60 rfl (lv_at hl 3 rfl) ?_
      refine lv_aload_n hx hb dX7_lays_61 rfl (lv_at hl 3 rfl) ?_
      refine zget hC hZ fX7_19 (zlt hn rfl) h_13 rfl dX7_lays_62 ?_
      refine zgoi hZ hA (zrunV (As := [.int sc.1.2.2.2]) (rest := []) (k := 56) hC hZ (c_X7_sharedOf l D cy n ad F_10 H.size sc.1 sc.2.1 sc.2.2.2.1 sc.2.2.2.2 0 bs en u st (sKick ((kd (iN d)), (fg (iN d))) (sc.1.1, sc.1.2.1, nI k, 0)) (sDraw ((kd (iN d)), (fg (iN d)))) (sHold ((kd (iN d)), (fg (iN d)))) sv pic ia tk hn h_13 sc.1.2.2.2) mX7_sharedOf vX7_sharedOf kX7_190 (zRj_of rfl) (zlt hn rfl) h_13 rfl rfl hl.1 rfl (Nat.le_of_ble_eq_true rfl) dX7_lays_65 ⟨Nat.le_refl _, Nat.le_refl _⟩) (fun r_15 F_14 hp_16 H locs hZ => ?_)
      have hlt := nIlt (N := 3) c_31 (by omega) rfl
      have hgs := gSlay (b := sc.1) hG.1.1 hlt
      have hv9 := mAhead (t := (kd (iN d), fg (iN d))) (show (sc.1.1, sc.1.2.1, nI k, sc.1.2.2.2) = sLayB sc.1 k from rfl) hgt hgs 0
      rw [hv9] at hp_16
      obtain ⟨rfl, rfl⟩ := hp_16
      refine lv_istore (lv' := [(5, .int (sArchAt (kd (iN d), fg (iN d)) (sLayB sc.1 k) 0)), (4, .int (nI k)), (3, .int pp.1), (2, .int pp.2), (0, .ref (ad 56)), (1, .int d)]) hx hb dX7_lays_68 hl (by decide) rfl (fun ls hl => ?_)
      refine lv_iload hx hb dX7_lays_70 (lv_at hl 0 rfl) ?_
      refine lv_if_lt (tgt := 87) hx hb dX7_lays_72 (by decide) (fun c_72 => ?_) (fun c_72 => ?_)
      · refine lv_iinc (v := nI (k + 1)) (lv' := [(4, .int (nI (k + 1))), (5, .int (sArchAt (kd (iN d), fg (iN d)) (sLayB sc.1 k) 0)), (3, .int pp.1), (2, .int pp.2), (0, .ref (ad 56)), (1, .int d)]) hx hb dX7_lays_87 hl (k := 1) rfl (nI_1 k) (by decide) rfl (fun ls hl => ?_)
        refine lv_goto (tgt := 28) hx hb dX7_lays_90 (by decide) ?_
        exact absurd c_72 (Int32.not_lt.mpr (sArch0_le hgt hgs))
      · refine lv_iload hx hb dX7_lays_75 (lv_at hl 0 rfl) ?_
        refine lv_iload_n hx hb dX7_lays_77 rfl (lv_at hl 2 rfl) ?_
        refine lv_icmp_le (tgt := 87) hx hb dX7_lays_78 (by decide) (fun c_78 => ?_) (fun c_78 => ?_)
        · refine lv_iinc (v := nI (k + 1)) (lv' := [(4, .int (nI (k + 1))), (5, .int (sArchAt (kd (iN d), fg (iN d)) (sLayB sc.1 k) 0)), (3, .int pp.1), (2, .int pp.2), (0, .ref (ad 56)), (1, .int d)]) hx hb dX7_lays_87 hl (k := 1) rfl (nI_1 k) (by decide) rfl (fun ls hl => ?_)
          refine lv_goto (tgt := 28) hx hb dX7_lays_90 (by decide) ?_
          have he_17 : F_10 = va_up F_1 56 (oModel ad sc.1 sc.2.1 sc.2.2.2.1 sc.2.2.2.2 0 bs en u st (sKick ((kd (iN d)), (fg (iN d))) (sc.1.1, sc.1.2.1, nI k, 0)) (sDraw ((kd (iN d)), (fg (iN d)))) (sHold ((kd (iN d)), (fg (iN d)))) sv pic ia tk) := by rw [hp_12, hF3_28]; simp only [bx_uu]
          exact ih28 ((k + 1), pp, (sKick ((kd (iN d)), (fg (iN d))) (sc.1.1, sc.1.2.1, nI k, 0)), (sDraw ((kd (iN d)), (fg (iN d)))), (sHold ((kd (iN d)), (fg (iN d))))) ls _ H locs (by show 3 - (k + 1) < 3 - k; omega) hZ ⟨(lv_sub hl [0, 2, 3, 4, 5] rfl), he_17, hlt, (by show pp = (sLayF (kd (iN d), fg (iN d)) sc.1) k (zfold (sLayF (kd (iN d), fg (iN d)) sc.1) k (-4, -4)); rw [← hp]; exact (if_neg (Int32.not_lt.mpr c_78)).symm)⟩
        · refine lv_iload hx hb dX7_lays_81 (lv_at hl 1 rfl) ?_
          refine lv_istore_n (lv' := [(2, .int (nI k)), (5, .int (sArchAt (kd (iN d), fg (iN d)) (sLayB sc.1 k) 0)), (4, .int (nI k)), (3, .int pp.1), (0, .ref (ad 56)), (1, .int d)]) hx hb dX7_lays_83 rfl hl (by decide) rfl (fun ls hl => ?_)
          refine lv_iload hx hb dX7_lays_84 (lv_at hl 1 rfl) ?_
          refine lv_istore_n (lv' := [(3, .int (sArchAt (kd (iN d), fg (iN d)) (sLayB sc.1 k) 0)), (2, .int (nI k)), (5, .int (sArchAt (kd (iN d), fg (iN d)) (sLayB sc.1 k) 0)), (4, .int (nI k)), (0, .ref (ad 56)), (1, .int d)]) hx hb dX7_lays_86 rfl hl (by decide) rfl (fun ls hl => ?_)
          refine lv_iinc (v := nI (k + 1)) (lv' := [(4, .int (nI (k + 1))), (3, .int (sArchAt (kd (iN d), fg (iN d)) (sLayB sc.1 k) 0)), (2, .int (nI k)), (5, .int (sArchAt (kd (iN d), fg (iN d)) (sLayB sc.1 k) 0)), (0, .ref (ad 56)), (1, .int d)]) hx hb dX7_lays_87 hl (k := 3) rfl (nI_1 k) (by decide) rfl (fun ls hl => ?_)
          refine lv_goto (tgt := 28) hx hb dX7_lays_90 (by decide) ?_
          have he_18 : F_10 = va_up F_1 56 (oModel ad sc.1 sc.2.1 sc.2.2.2.1 sc.2.2.2.2 0 bs en u st (sKick ((kd (iN d)), (fg (iN d))) (sc.1.1, sc.1.2.1, nI k, 0)) (sDraw ((kd (iN d)), (fg (iN d)))) (sHold ((kd (iN d)), (fg (iN d)))) sv pic ia tk) := by rw [hp_12, hF3_28]; simp only [bx_uu]
          exact ih28 ((k + 1), ((sArchAt (kd (iN d), fg (iN d)) (sLayB sc.1 k) 0), nI k), (sKick ((kd (iN d)), (fg (iN d))) (sc.1.1, sc.1.2.1, nI k, 0)), (sDraw ((kd (iN d)), (fg (iN d)))), (sHold ((kd (iN d)), (fg (iN d))))) ls _ H locs (by show 3 - (k + 1) < 3 - k; omega) hZ ⟨(lv_sub hl [0, 1, 2, 4, 5] rfl), he_18, hlt, (by show ((sArchAt (kd (iN d), fg (iN d)) (sLayB sc.1 k) 0), nI k) = (sLayF (kd (iN d), fg (iN d)) sc.1) k (zfold (sLayF (kd (iN d), fg (iN d)) sc.1) k (-4, -4)); rw [← hp]; exact (if_pos (Int32.not_le.mp c_78)).symm)⟩
  · refine lv_aload_n hx hb dX7_lays_13 rfl (lv_at hl 0 rfl) ?_
    refine lv_iload_n hx hb dX7_lays_14 rfl (lv_at hl 1 rfl) ?_
    refine zgoi hZ hA (zrunV (As := [.int d]) (rest := []) (k := 56) hC hZ (c_X7_wrongStory l D cy n ad F_1 H.size sc.1 sc.2.1 sc.2.2.2.1 sc.2.2.2.2 0 bs en u st kk dw ho sv pic ia tk hn h_3 hw (zne hF_2 (by decide) h61) d) mX7_wrongStory vX7_wrongStory kX7_142 (zRj_of rfl) (zlt hn rfl) h_3 rfl rfl hl.1 rfl (Nat.le_of_ble_eq_true rfl) dX7_lays_15 ⟨Nat.le_refl _, Nat.le_refl _⟩) (fun r_20 F_19 hp_21 H locs hZ => ?_)
    rw [mStR_eq hHW] at hp_21
    obtain ⟨rfl, rfl⟩ := hp_21
    have hz_22 : (sStR sh d) < 0 := Int32.not_le.mp c_10
    have hq : ((sStR sh d) : Int32) = zr True (sStR sh d) (sLays (sh (iN d)).2.1 sc.1) := by exact (zr_rf trivial (neg_n0 hz_22)).symm
    have hfm_23 : frM F F_1 := (frM_up frM_rf hF_2 (by decide) (by decide))
    exact zireti hC hZ hr hlocks ⟨hq, ⟨bs, en, u, st, kk, dw, ho, sv, ia, tk, told, pl, nu, im, hw, kd, fg, so, mn, rw0, bt, h_3, (zne hF_2 (by decide) h57), (zne hF_2 (by decide) h58), (zne hF_2 (by decide) h59), (zne hF_2 (by decide) h60), (zne hF_2 (by decide) h61), (zne hF_2 (by decide) h62), (zne hF_2 (by decide) h63), (zne hF_2 (by decide) h64), (zne hF_2 (by decide) h65), (zne hF_2 (by decide) h66), (zne hF_2 (by decide) h67), hR⟩, hfm_23⟩ dX7_lays_18
