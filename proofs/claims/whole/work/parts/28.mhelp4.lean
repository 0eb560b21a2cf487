theorem mX7_carry : zMd yX7_carry cX7_carry 2 (some .int) 1 := ⟨by decide +kernel, gt_of 1092 (by decide +kernel) rfl, gt_of 52 (by decide +kernel) rfl, by decide⟩
theorem dX7_carry_0 : decode cX7_carry 0 = .ok (.aload_n 0, 1) := by decide +kernel
theorem dX7_carry_1 : decode cX7_carry 1 = .ok (.getfield 235, 3) := by decide +kernel
theorem fX7_235 : zFld RX7 235 7 31 := ⟨RX7, TX7, 39, rfl, inX7, by decide, rfl, Or.inl (gt_of 789 (by decide +kernel) rfl)⟩
theorem dX7_carry_4 : decode cX7_carry 4 = .ok (.ifCond .eq 13, 3) := by decide +kernel
theorem dX7_carry_7 : decode cX7_carry 7 = .ok (.aload_n 0, 1) := by decide +kernel
theorem dX7_carry_8 : decode cX7_carry 8 = .ok (.getfield 32, 3) := by decide +kernel
theorem fX7_32 : zFld RX7 32 7 29 := ⟨RX7, TX7, 39, rfl, inX7, by decide, rfl, Or.inl (gt_of 787 (by decide +kernel) rfl)⟩
theorem dX7_carry_11 : decode cX7_carry 11 = .ok (.aload_n 0, 1) := by decide +kernel
theorem dX7_carry_12 : decode cX7_carry 12 = .ok (.getfield 238, 3) := by decide +kernel
theorem fX7_238 : zFld RX7 238 7 30 := ⟨RX7, TX7, 39, rfl, inX7, by decide, rfl, Or.inl (gt_of 788 (by decide +kernel) rfl)⟩
theorem dX7_carry_15 : decode cX7_carry 15 = .ok (.iload_n 1, 1) := by decide +kernel
theorem dX7_carry_16 : decode cX7_carry 16 = .ok (.iastore, 1) := by decide +kernel
theorem dX7_carry_17 : decode cX7_carry 17 = .ok (.aload_n 0, 1) := by decide +kernel
theorem dX7_carry_18 : decode cX7_carry 18 = .ok (.dup, 1) := by decide +kernel
theorem dX7_carry_19 : decode cX7_carry 19 = .ok (.getfield 238, 3) := by decide +kernel
theorem dX7_carry_22 : decode cX7_carry 22 = .ok (.iconst 1, 1) := by decide +kernel
theorem dX7_carry_23 : decode cX7_carry 23 = .ok (.iadd, 1) := by decide +kernel
theorem dX7_carry_24 : decode cX7_carry 24 = .ok (.putfield 238, 3) := by decide +kernel
theorem pX7_238 : zFldP RX7 238 7 30 false .int := ⟨RX7, TX7, 39, tyX7, rfl, inX7, by decide, rfl, Or.inl (gt_of 788 (by decide +kernel) rfl), tyX7_ok, nmX7, rfl, by decide +kernel, fun h => by cases h⟩
theorem dX7_carry_27 : decode cX7_carry 27 = .ok (.aload_n 0, 1) := by decide +kernel
theorem dX7_carry_28 : decode cX7_carry 28 = .ok (.getfield 32, 3) := by decide +kernel
theorem dX7_carry_31 : decode cX7_carry 31 = .ok (.aload_n 0, 1) := by decide +kernel
theorem dX7_carry_32 : decode cX7_carry 32 = .ok (.getfield 238, 3) := by decide +kernel
theorem dX7_carry_35 : decode cX7_carry 35 = .ok (.iconst 1, 1) := by decide +kernel
theorem dX7_carry_36 : decode cX7_carry 36 = .ok (.isub, 1) := by decide +kernel
theorem dX7_carry_37 : decode cX7_carry 37 = .ok (.iaload, 1) := by decide +kernel
theorem dX7_carry_38 : decode cX7_carry 38 = .ok (.ireturn, 1) := by decide +kernel
set_option maxRecDepth 100000 in
theorem c_X7_carry (l : Launch) (D : va_G) (cy : Nat → Nat) (n : Nat) (ad : Nat → Nat) (F : Nat → va_E) (sz : Nat) (b : Stg) (ln tc : Int32) (co : Crs) (th bs en : Int32) (u : Int32 × Int32) (st kk dw ho : Int32) (sv : Crs) (pic ia tk : Int32) (hn : 68 ≤ n) (hM : F 56 = oModel ad b ln tc co th bs en u st kk dw ho sv pic ia tk) (im : Nat → Int32) (h60 : F 60 = oInts cy 43 im) (v : Int32) (a : Nat) (ha : a < 43) (hia : ia = nI a) (htk : ¬ tk = 0) : Met l yX7_carry (zw yX7_carry cX7_carry 2 (some .int)) (rmL 0) (zPc D cy n ad F sz [.ref (ad 56), .int v]) (va_Qi (fun r F1 => r = v ∧ F1 = va_up (va_up F 60 (oInts cy 43 (upd im a v))) 56 (oModel ad b ln tc co th bs en u st kk dw ho sv pic (nI (a + 1)) tk)) (zB D n ad) (zA n ad sz)) 0 0 (zA n ad sz) := by
  refine zmet (by decide +kernel) (Nat.le_of_ble_eq_true rfl) (fun p e s m args below meth c ls hC hsz hZ hA hr hlocks hnm hl => ?_)
  have hC : zC p m c cX7_carry 2 s args RX7 D cy := hC
  have hx := hC.1.1
  have hb := hC.1.2.1
  have hl : lv_has ls 2 [(0, .ref (ad 56)), (1, .int v)] := hl
  subst hia
  refine lv_aload_n hx hb dX7_carry_0 rfl (lv_at hl 0 rfl) ?_
  refine zget hC hZ fX7_235 (zlt hn rfl) hM rfl dX7_carry_1 ?_
  refine lv_if_eq (tgt := 17) hx hb dX7_carry_4 (by decide) (fun h => absurd h htk) (fun _ => ?_)
  refine lv_aload_n hx hb dX7_carry_7 rfl (lv_at hl 0 rfl) ?_
  refine zget hC hZ fX7_32 (zlt hn rfl) hM rfl dX7_carry_8 ?_
  refine lv_aload_n hx hb dX7_carry_11 rfl (lv_at hl 0 rfl) ?_
  refine zget hC hZ fX7_238 (zlt hn rfl) hM rfl dX7_carry_12 ?_
  refine lv_iload_n hx hb dX7_carry_15 rfl (lv_at hl 1 rfl) ?_
  refine ziast hC hZ (zlt hn rfl) h60 rfl ha (by decide) dX7_carry_16 (fun F_1 hF_2 H locs hZ => ?_)
  have h_3 := zeq hF_2
  refine lv_aload_n hx hb dX7_carry_17 rfl (lv_at hl 0 rfl) ?_
  refine lv_dup hx hb dX7_carry_18 rfl ?_
  refine zget hC hZ fX7_238 (zlt hn rfl) (zne hF_2 (by decide) hM) rfl dX7_carry_19 ?_
  refine lv_iconst (v := 1) hx hb dX7_carry_22 (by decide) ?_
  refine lv_iadd hx hb dX7_carry_23 ?_
  refine zput (E := oModel ad b ln tc co th bs en u st kk dw ho sv pic ((nI a) + 1) tk) hC hZ pX7_238 (zlt hn rfl) (zne hF_2 (by decide) hM) rfl rfl rfl (Nat.le_of_ble_eq_true rfl) dX7_carry_24 (fun F_4 hF_5 H locs hZ => ?_)
  have h_6 := zeq hF_5
  refine lv_aload_n hx hb dX7_carry_27 rfl (lv_at hl 0 rfl) ?_
  refine zget hC hZ fX7_32 (zlt hn rfl) h_6 rfl dX7_carry_28 ?_
  refine lv_aload_n hx hb dX7_carry_31 rfl (lv_at hl 0 rfl) ?_
  refine zget hC hZ fX7_238 (zlt hn rfl) h_6 rfl dX7_carry_32 ?_
  refine lv_iconst (v := 1) hx hb dX7_carry_35 (by decide) ?_
  refine lv_isub hx hb dX7_carry_36 ?_
  refine ziald hC hZ (zlt hn rfl) (zne hF_5 (by decide) h_3) (Int32.add_sub_cancel _ _) ha (by decide) dX7_carry_37 ?_
  have h1 : nI a + 1 = nI (a + 1) := nI_1 a
  have hq : F_4 = va_up (va_up F 60 (oInts cy 43 (upd im a v))) 56 (oModel ad b ln tc co th bs en u st kk dw ho sv pic (nI (a + 1)) tk) := by rw [← h1, hF_5, hF_2]
  exact zireti hC hZ hr hlocks ⟨upd_at _ _ _, hq⟩ dX7_carry_38

set_option maxRecDepth 100000 in
theorem c_X7_carryR (l : Launch) (D : va_G) (cy : Nat → Nat) (n : Nat) (ad : Nat → Nat) (F : Nat → va_E) (sz : Nat) (b : Stg) (ln tc : Int32) (co : Crs) (th bs en : Int32) (u : Int32 × Int32) (st kk dw ho : Int32) (sv : Crs) (pic ia tk : Int32) (hn : 68 ≤ n) (hM : F 56 = oModel ad b ln tc co th bs en u st kk dw ho sv pic ia tk) (im : Nat → Int32) (h60 : F 60 = oInts cy 43 im) (v : Int32) (a : Nat) (ha : a < 43) (hia : ia = nI a) (htk : tk = 0) : Met l yX7_carry (zw yX7_carry cX7_carry 2 (some .int)) (rmL 0) (zPc D cy n ad F sz [.ref (ad 56), .int v]) (va_Qi (fun r F1 => r = im a ∧ F1 = va_up F 56 (oModel ad b ln tc co th bs en u st kk dw ho sv pic (nI (a + 1)) tk)) (zB D n ad) (zA n ad sz)) 0 0 (zA n ad sz) := by
  refine zmet (by decide +kernel) (Nat.le_of_ble_eq_true rfl) (fun p e s m args below meth c ls hC hsz hZ hA hr hlocks hnm hl => ?_)
  have hC : zC p m c cX7_carry 2 s args RX7 D cy := hC
  have hx := hC.1.1
  have hb := hC.1.2.1
  have hl : lv_has ls 2 [(0, .ref (ad 56)), (1, .int v)] := hl
  subst hia
  refine lv_aload_n hx hb dX7_carry_0 rfl (lv_at hl 0 rfl) ?_
  refine zget hC hZ fX7_235 (zlt hn rfl) hM rfl dX7_carry_1 ?_
  refine lv_if_eq (tgt := 17) hx hb dX7_carry_4 (by decide) (fun _ => ?_) (fun h => absurd htk h)
  refine lv_aload_n hx hb dX7_carry_17 rfl (lv_at hl 0 rfl) ?_
  refine lv_dup hx hb dX7_carry_18 rfl ?_
  refine zget hC hZ fX7_238 (zlt hn rfl) hM rfl dX7_carry_19 ?_
  refine lv_iconst (v := 1) hx hb dX7_carry_22 (by decide) ?_
  refine lv_iadd hx hb dX7_carry_23 ?_
  refine zput (E := oModel ad b ln tc co th bs en u st kk dw ho sv pic ((nI a) + 1) tk) hC hZ pX7_238 (zlt hn rfl) hM rfl rfl rfl (Nat.le_of_ble_eq_true rfl) dX7_carry_24 (fun F_1 hF_2 H locs hZ => ?_)
  have h_3 := zeq hF_2
  refine lv_aload_n hx hb dX7_carry_27 rfl (lv_at hl 0 rfl) ?_
  refine zget hC hZ fX7_32 (zlt hn rfl) h_3 rfl dX7_carry_28 ?_
  refine lv_aload_n hx hb dX7_carry_31 rfl (lv_at hl 0 rfl) ?_
  refine zget hC hZ fX7_238 (zlt hn rfl) h_3 rfl dX7_carry_32 ?_
  refine lv_iconst (v := 1) hx hb dX7_carry_35 (by decide) ?_
  refine lv_isub hx hb dX7_carry_36 ?_
  refine ziald hC hZ (zlt hn rfl) (zne hF_2 (by decide) h60) (Int32.add_sub_cancel _ _) ha (by decide) dX7_carry_37 ?_
  have h1 : nI a + 1 = nI (a + 1) := nI_1 a
  have hq : F_1 = va_up (F) 56 (oModel ad b ln tc co th bs en u st kk dw ho sv pic (nI (a + 1)) tk) := by rw [← h1, hF_2]
  exact zireti hC hZ hr hlocks ⟨rfl, hq⟩ dX7_carry_38

theorem mX7_carryAll : zMd yX7_carryAll cX7_carryAll 2 none 0 := ⟨by decide +kernel, gt_of 1088 (by decide +kernel) rfl, gt_of 52 (by decide +kernel) rfl, by decide⟩
theorem dX7_carryAll_0 : decode cX7_carryAll 0 = .ok (.aload_n 0, 1) := by decide +kernel
theorem dX7_carryAll_1 : decode cX7_carryAll 1 = .ok (.iconst 0, 1) := by decide +kernel
theorem dX7_carryAll_2 : decode cX7_carryAll 2 = .ok (.putfield 238, 3) := by decide +kernel
theorem dX7_carryAll_5 : decode cX7_carryAll 5 = .ok (.aload_n 0, 1) := by decide +kernel
theorem dX7_carryAll_6 : decode cX7_carryAll 6 = .ok (.aload_n 0, 1) := by decide +kernel
theorem dX7_carryAll_7 : decode cX7_carryAll 7 = .ok (.aload_n 0, 1) := by decide +kernel
theorem dX7_carryAll_8 : decode cX7_carryAll 8 = .ok (.getfield 7, 3) := by decide +kernel
theorem dX7_carryAll_11 : decode cX7_carryAll 11 = .ok (.invokevirtual 241, 3) := by decide +kernel
theorem kX7_241 : zLk RX7 241 yX7_carry := Or.inl (gt_of 1089 (by decide +kernel) rfl)
theorem vX7_carry : zMi yX7_carry := ⟨gt_of 1091 (by decide +kernel) rfl, gt_of 42 (by decide +kernel) rfl⟩
theorem dX7_carryAll_14 : decode cX7_carryAll 14 = .ok (.putfield 7, 3) := by decide +kernel
theorem pX7_7 : zFldP RX7 7 7 0 false .int := ⟨RX7, TX7, 39, tyX7, rfl, inX7, by decide, rfl, Or.inl (gt_of 758 (by decide +kernel) rfl), tyX7_ok, nmX7, rfl, by decide +kernel, fun h => by cases h⟩
theorem dX7_carryAll_17 : decode cX7_carryAll 17 = .ok (.aload_n 0, 1) := by decide +kernel
theorem dX7_carryAll_18 : decode cX7_carryAll 18 = .ok (.aload_n 0, 1) := by decide +kernel
theorem dX7_carryAll_19 : decode cX7_carryAll 19 = .ok (.aload_n 0, 1) := by decide +kernel
theorem dX7_carryAll_20 : decode cX7_carryAll 20 = .ok (.getfield 13, 3) := by decide +kernel
theorem dX7_carryAll_23 : decode cX7_carryAll 23 = .ok (.invokevirtual 241, 3) := by decide +kernel
theorem dX7_carryAll_26 : decode cX7_carryAll 26 = .ok (.putfield 13, 3) := by decide +kernel
theorem pX7_13 : zFldP RX7 13 7 1 false .int := ⟨RX7, TX7, 39, tyX7, rfl, inX7, by decide, rfl, Or.inl (gt_of 759 (by decide +kernel) rfl), tyX7_ok, nmX7, rfl, by decide +kernel, fun h => by cases h⟩
theorem dX7_carryAll_29 : decode cX7_carryAll 29 = .ok (.aload_n 0, 1) := by decide +kernel
theorem dX7_carryAll_30 : decode cX7_carryAll 30 = .ok (.aload_n 0, 1) := by decide +kernel
theorem dX7_carryAll_31 : decode cX7_carryAll 31 = .ok (.aload_n 0, 1) := by decide +kernel
theorem dX7_carryAll_32 : decode cX7_carryAll 32 = .ok (.getfield 70, 3) := by decide +kernel
theorem dX7_carryAll_35 : decode cX7_carryAll 35 = .ok (.invokevirtual 241, 3) := by decide +kernel
theorem dX7_carryAll_38 : decode cX7_carryAll 38 = .ok (.putfield 70, 3) := by decide +kernel
theorem pX7_70 : zFldP RX7 70 7 2 false .int := ⟨RX7, TX7, 39, tyX7, rfl, inX7, by decide, rfl, Or.inl (gt_of 760 (by decide +kernel) rfl), tyX7_ok, nmX7, rfl, by decide +kernel, fun h => by cases h⟩
theorem dX7_carryAll_41 : decode cX7_carryAll 41 = .ok (.aload_n 0, 1) := by decide +kernel
theorem dX7_carryAll_42 : decode cX7_carryAll 42 = .ok (.aload_n 0, 1) := by decide +kernel
theorem dX7_carryAll_43 : decode cX7_carryAll 43 = .ok (.aload_n 0, 1) := by decide +kernel
theorem dX7_carryAll_44 : decode cX7_carryAll 44 = .ok (.getfield 16, 3) := by decide +kernel
theorem dX7_carryAll_47 : decode cX7_carryAll 47 = .ok (.invokevirtual 241, 3) := by decide +kernel
theorem dX7_carryAll_50 : decode cX7_carryAll 50 = .ok (.putfield 16, 3) := by decide +kernel
theorem pX7_16 : zFldP RX7 16 7 3 false .int := ⟨RX7, TX7, 39, tyX7, rfl, inX7, by decide, rfl, Or.inl (gt_of 761 (by decide +kernel) rfl), tyX7_ok, nmX7, rfl, by decide +kernel, fun h => by cases h⟩
theorem dX7_carryAll_53 : decode cX7_carryAll 53 = .ok (.aload_n 0, 1) := by decide +kernel
theorem dX7_carryAll_54 : decode cX7_carryAll 54 = .ok (.aload_n 0, 1) := by decide +kernel
theorem dX7_carryAll_55 : decode cX7_carryAll 55 = .ok (.aload_n 0, 1) := by decide +kernel
theorem dX7_carryAll_56 : decode cX7_carryAll 56 = .ok (.getfield 19, 3) := by decide +kernel
theorem dX7_carryAll_59 : decode cX7_carryAll 59 = .ok (.invokevirtual 241, 3) := by decide +kernel
theorem dX7_carryAll_62 : decode cX7_carryAll 62 = .ok (.putfield 19, 3) := by decide +kernel
theorem pX7_19 : zFldP RX7 19 7 4 false .int := ⟨RX7, TX7, 39, tyX7, rfl, inX7, by decide, rfl, Or.inl (gt_of 762 (by decide +kernel) rfl), tyX7_ok, nmX7, rfl, by decide +kernel, fun h => by cases h⟩
theorem dX7_carryAll_65 : decode cX7_carryAll 65 = .ok (.aload_n 0, 1) := by decide +kernel
theorem dX7_carryAll_66 : decode cX7_carryAll 66 = .ok (.aload_n 0, 1) := by decide +kernel
theorem dX7_carryAll_67 : decode cX7_carryAll 67 = .ok (.aload_n 0, 1) := by decide +kernel
theorem dX7_carryAll_68 : decode cX7_carryAll 68 = .ok (.getfield 120, 3) := by decide +kernel
theorem dX7_carryAll_71 : decode cX7_carryAll 71 = .ok (.invokevirtual 241, 3) := by decide +kernel
theorem dX7_carryAll_74 : decode cX7_carryAll 74 = .ok (.putfield 120, 3) := by decide +kernel
theorem pX7_120 : zFldP RX7 120 7 5 false .int := ⟨RX7, TX7, 39, tyX7, rfl, inX7, by decide, rfl, Or.inl (gt_of 763 (by decide +kernel) rfl), tyX7_ok, nmX7, rfl, by decide +kernel, fun h => by cases h⟩
theorem dX7_carryAll_77 : decode cX7_carryAll 77 = .ok (.aload_n 0, 1) := by decide +kernel
theorem dX7_carryAll_78 : decode cX7_carryAll 78 = .ok (.aload_n 0, 1) := by decide +kernel
theorem dX7_carryAll_79 : decode cX7_carryAll 79 = .ok (.aload_n 0, 1) := by decide +kernel
theorem dX7_carryAll_80 : decode cX7_carryAll 80 = .ok (.getfield 148, 3) := by decide +kernel
theorem dX7_carryAll_83 : decode cX7_carryAll 83 = .ok (.invokevirtual 241, 3) := by decide +kernel
theorem dX7_carryAll_86 : decode cX7_carryAll 86 = .ok (.putfield 148, 3) := by decide +kernel
theorem dX7_carryAll_89 : decode cX7_carryAll 89 = .ok (.aload_n 0, 1) := by decide +kernel
theorem dX7_carryAll_90 : decode cX7_carryAll 90 = .ok (.aload_n 0, 1) := by decide +kernel
theorem dX7_carryAll_91 : decode cX7_carryAll 91 = .ok (.aload_n 0, 1) := by decide +kernel
theorem dX7_carryAll_92 : decode cX7_carryAll 92 = .ok (.getfield 154, 3) := by decide +kernel
theorem dX7_carryAll_95 : decode cX7_carryAll 95 = .ok (.invokevirtual 241, 3) := by decide +kernel
theorem dX7_carryAll_98 : decode cX7_carryAll 98 = .ok (.putfield 154, 3) := by decide +kernel
theorem dX7_carryAll_101 : decode cX7_carryAll 101 = .ok (.aload_n 0, 1) := by decide +kernel
theorem dX7_carryAll_102 : decode cX7_carryAll 102 = .ok (.aload_n 0, 1) := by decide +kernel
theorem dX7_carryAll_103 : decode cX7_carryAll 103 = .ok (.aload_n 0, 1) := by decide +kernel
theorem dX7_carryAll_104 : decode cX7_carryAll 104 = .ok (.getfield 151, 3) := by decide +kernel
theorem dX7_carryAll_107 : decode cX7_carryAll 107 = .ok (.invokevirtual 241, 3) := by decide +kernel
theorem dX7_carryAll_110 : decode cX7_carryAll 110 = .ok (.putfield 151, 3) := by decide +kernel
theorem dX7_carryAll_113 : decode cX7_carryAll 113 = .ok (.aload_n 0, 1) := by decide +kernel
theorem dX7_carryAll_114 : decode cX7_carryAll 114 = .ok (.aload_n 0, 1) := by decide +kernel
theorem dX7_carryAll_115 : decode cX7_carryAll 115 = .ok (.aload_n 0, 1) := by decide +kernel
theorem dX7_carryAll_116 : decode cX7_carryAll 116 = .ok (.getfield 67, 3) := by decide +kernel
theorem dX7_carryAll_119 : decode cX7_carryAll 119 = .ok (.invokevirtual 241, 3) := by decide +kernel
theorem dX7_carryAll_122 : decode cX7_carryAll 122 = .ok (.putfield 67, 3) := by decide +kernel
theorem dX7_carryAll_125 : decode cX7_carryAll 125 = .ok (.aload_n 0, 1) := by decide +kernel
theorem dX7_carryAll_126 : decode cX7_carryAll 126 = .ok (.aload_n 0, 1) := by decide +kernel
theorem dX7_carryAll_127 : decode cX7_carryAll 127 = .ok (.aload_n 0, 1) := by decide +kernel
theorem dX7_carryAll_128 : decode cX7_carryAll 128 = .ok (.getfield 160, 3) := by decide +kernel
theorem dX7_carryAll_131 : decode cX7_carryAll 131 = .ok (.invokevirtual 241, 3) := by decide +kernel
theorem dX7_carryAll_134 : decode cX7_carryAll 134 = .ok (.putfield 160, 3) := by decide +kernel
theorem dX7_carryAll_137 : decode cX7_carryAll 137 = .ok (.iconst 0, 1) := by decide +kernel
theorem dX7_carryAll_138 : decode cX7_carryAll 138 = .ok (.istore_n 1, 1) := by decide +kernel
theorem dX7_carryAll_139 : decode cX7_carryAll 139 = .ok (.iload_n 1, 1) := by decide +kernel
theorem dX7_carryAll_140 : decode cX7_carryAll 140 = .ok (.bipush 32, 2) := by decide +kernel
theorem dX7_carryAll_142 : decode cX7_carryAll 142 = .ok (.if_icmp .ge 25, 3) := by decide +kernel
theorem dX7_carryAll_167 : decode cX7_carryAll 167 = .ok (.return_, 1) := by decide +kernel
theorem dX7_carryAll_145 : decode cX7_carryAll 145 = .ok (.aload_n 0, 1) := by decide +kernel
theorem dX7_carryAll_146 : decode cX7_carryAll 146 = .ok (.getfield 22, 3) := by decide +kernel
theorem dX7_carryAll_149 : decode cX7_carryAll 149 = .ok (.iload_n 1, 1) := by decide +kernel
theorem dX7_carryAll_150 : decode cX7_carryAll 150 = .ok (.aload_n 0, 1) := by decide +kernel
theorem dX7_carryAll_151 : decode cX7_carryAll 151 = .ok (.aload_n 0, 1) := by decide +kernel
theorem dX7_carryAll_152 : decode cX7_carryAll 152 = .ok (.getfield 22, 3) := by decide +kernel
theorem dX7_carryAll_155 : decode cX7_carryAll 155 = .ok (.iload_n 1, 1) := by decide +kernel
theorem dX7_carryAll_156 : decode cX7_carryAll 156 = .ok (.iaload, 1) := by decide +kernel
theorem dX7_carryAll_157 : decode cX7_carryAll 157 = .ok (.invokevirtual 241, 3) := by decide +kernel
theorem dX7_carryAll_160 : decode cX7_carryAll 160 = .ok (.iastore, 1) := by decide +kernel
theorem dX7_carryAll_161 : decode cX7_carryAll 161 = .ok (.iinc 1 1, 3) := by decide +kernel
theorem dX7_carryAll_164 : decode cX7_carryAll 164 = .ok (.goto (-25), 3) := by decide +kernel
set_option maxRecDepth 100000 in
theorem c_X7_carryAll (l : Launch) (D : va_G) (cy : Nat → Nat) (n : Nat) (ad : Nat → Nat) (F : Nat → va_E) (sz : Nat) (b : Stg) (ln tc : Int32) (co : Crs) (th bs en : Int32) (u : Int32 × Int32) (st kk dw ho : Int32) (sv : Crs) (pic ia tk : Int32) (hn : 68 ≤ n) (hM : F 56 = oModel ad b ln tc co th bs en u st kk dw ho sv pic ia tk) (told : Nat → Int32) (h57 : F 57 = oInts cy 32 told) (im : Nat → Int32) (h60 : F 60 = oInts cy 43 im) (htk : ¬ tk = 0) : Met l yX7_carryAll (zw yX7_carryAll cX7_carryAll 2 none) (rmL 1) (zPc D cy n ad F sz [.ref (ad 56)]) (va_Qv (fun F1 => ∃ f, F1 60 = oInts cy 43 f ∧ F1 57 = oInts cy 32 told ∧ f 0 = b.1 ∧ f 1 = b.2.1 ∧ f 2 = b.2.2.1 ∧ f 3 = ln ∧ f 4 = b.2.2.2 ∧ f 5 = tc ∧ f 6 = co.1 ∧ f 7 = co.2.1 ∧ f 8 = co.2.2.1 ∧ f 9 = co.2.2.2.1 ∧ f 10 = co.2.2.2.2 ∧ (∀ k, k < 32 → f (11 + k) = told k) ∧ F1 56 = oModel ad b ln tc co th bs en u st kk dw ho sv pic (nI 43) tk ∧ frP [56, 57, 60] F F1) (zB D n ad) (zA n ad sz)) 0 0 (zA n ad sz) := by
  refine zmet (by decide +kernel) (Nat.le_of_ble_eq_true rfl) (fun p e s m args below meth c ls hC hsz hZ hA hr hlocks hnm hl => ?_)
  have hC : zC p m c cX7_carryAll 2 s args RX7 D cy := hC
  have hx := hC.1.1
  have hb := hC.1.2.1
  have hl : lv_has ls 2 [(0, .ref (ad 56))] := hl
  refine lv_aload_n hx hb dX7_carryAll_0 rfl (lv_at hl 0 rfl) ?_
  refine lv_iconst (v := 0) hx hb dX7_carryAll_1 (by decide) ?_
  refine zput (E := oModel ad b ln tc co th bs en u st kk dw ho sv pic 0 tk) hC hZ pX7_238 (zlt hn rfl) hM rfl rfl rfl (Nat.le_of_ble_eq_true rfl) dX7_carryAll_2 (fun F_1 hF_2 H locs hZ => ?_)
  have h_3 := zeq hF_2
  refine lv_aload_n hx hb dX7_carryAll_5 rfl (lv_at hl 0 rfl) ?_
  refine lv_aload_n hx hb dX7_carryAll_6 rfl (lv_at hl 0 rfl) ?_
  refine lv_aload_n hx hb dX7_carryAll_7 rfl (lv_at hl 0 rfl) ?_
  refine zget hC hZ fX7_7 (zlt hn rfl) h_3 rfl dX7_carryAll_8 ?_
  refine zgoi hZ hA (zrunV (As := [.int b.1]) (rest := [.ref (ad 56)]) (k := 56) hC hZ (c_X7_carry l D cy n ad F_1 H.size b ln tc co th bs en u st kk dw ho sv pic 0 tk hn h_3 im (zne hF_2 (by decide) h60) b.1 0 (by decide) rfl htk) mX7_carry vX7_carry kX7_241 (zRj_of rfl) (zlt hn rfl) h_3 rfl rfl hl.1 rfl (Nat.le_of_ble_eq_true rfl) dX7_carryAll_11 ⟨Nat.le_refl _, Nat.le_refl _⟩) (fun r_5 F_4 hp_6 H locs hZ => ?_)
  obtain ⟨hr9, hp_7⟩ := hp_6
  have hr9 := hr9.symm
  subst hr9
  obtain ⟨im_8, him_8⟩ : ∃ g, g = upd im 0 b.1 := ⟨_, rfl⟩
  rw [← him_8] at hp_7
  obtain ⟨G_9, hG_10⟩ : ∃ g, g = va_up F_1 60 (oInts cy 43 im_8) := ⟨_, rfl⟩
  rw [← hG_10] at hp_7
  have h_11 := zeq hG_10
  have h_12 := zeq hp_7
  refine zput (E := oModel ad b ln tc co th bs en u st kk dw ho sv pic (nI 1) tk) hC hZ pX7_7 (zlt hn rfl) h_12 rfl rfl rfl (Nat.le_of_ble_eq_true rfl) dX7_carryAll_14 (fun F_13 hF_14 H locs hZ => ?_)
  have h_15 := zeq hF_14
  refine lv_aload_n hx hb dX7_carryAll_17 rfl (lv_at hl 0 rfl) ?_
  refine lv_aload_n hx hb dX7_carryAll_18 rfl (lv_at hl 0 rfl) ?_
  refine lv_aload_n hx hb dX7_carryAll_19 rfl (lv_at hl 0 rfl) ?_
  refine zget hC hZ fX7_13 (zlt hn rfl) h_15 rfl dX7_carryAll_20 ?_
  refine zgoi hZ hA (zrunV (As := [.int b.2.1]) (rest := [.ref (ad 56)]) (k := 56) hC hZ (c_X7_carry l D cy n ad F_13 H.size b ln tc co th bs en u st kk dw ho sv pic (nI 1) tk hn h_15 im_8 (zne hF_14 (by decide) (zne hp_7 (by decide) h_11)) b.2.1 1 (by decide) rfl htk) mX7_carry vX7_carry kX7_241 (zRj_of rfl) (zlt hn rfl) h_15 rfl rfl hl.1 rfl (Nat.le_of_ble_eq_true rfl) dX7_carryAll_23 ⟨Nat.le_refl _, Nat.le_refl _⟩) (fun r_17 F_16 hp_18 H locs hZ => ?_)
  obtain ⟨hr9, hp_19⟩ := hp_18
  have hr9 := hr9.symm
  subst hr9
  obtain ⟨im_20, him_20⟩ : ∃ g, g = upd im_8 1 b.2.1 := ⟨_, rfl⟩
  rw [← him_20] at hp_19
  obtain ⟨G_21, hG_22⟩ : ∃ g, g = va_up F_13 60 (oInts cy 43 im_20) := ⟨_, rfl⟩
  rw [← hG_22] at hp_19
  have h_23 := zeq hG_22
  have h_24 := zne hG_22 (by decide) (zne hF_14 (by decide) (zne hp_7 (by decide) (zne hG_10 (by decide) (zne hF_2 (by decide) h57))))
  have h_25 := zeq hp_19
  refine zput (E := oModel ad b ln tc co th bs en u st kk dw ho sv pic (nI 2) tk) hC hZ pX7_13 (zlt hn rfl) h_25 rfl rfl rfl (Nat.le_of_ble_eq_true rfl) dX7_carryAll_26 (fun F_26 hF_27 H locs hZ => ?_)
  have h_28 := zeq hF_27
  refine lv_aload_n hx hb dX7_carryAll_29 rfl (lv_at hl 0 rfl) ?_
  refine lv_aload_n hx hb dX7_carryAll_30 rfl (lv_at hl 0 rfl) ?_
  refine lv_aload_n hx hb dX7_carryAll_31 rfl (lv_at hl 0 rfl) ?_
  refine zget hC hZ fX7_70 (zlt hn rfl) h_28 rfl dX7_carryAll_32 ?_
  refine zgoi hZ hA (zrunV (As := [.int b.2.2.1]) (rest := [.ref (ad 56)]) (k := 56) hC hZ (c_X7_carry l D cy n ad F_26 H.size b ln tc co th bs en u st kk dw ho sv pic (nI 2) tk hn h_28 im_20 (zne hF_27 (by decide) (zne hp_19 (by decide) h_23)) b.2.2.1 2 (by decide) rfl htk) mX7_carry vX7_carry kX7_241 (zRj_of rfl) (zlt hn rfl) h_28 rfl rfl hl.1 rfl (Nat.le_of_ble_eq_true rfl) dX7_carryAll_35 ⟨Nat.le_refl _, Nat.le_refl _⟩) (fun r_30 F_29 hp_31 H locs hZ => ?_)
  obtain ⟨hr9, hp_32⟩ := hp_31
  have hr9 := hr9.symm
  subst hr9
  obtain ⟨im_33, him_33⟩ : ∃ g, g = upd im_20 2 b.2.2.1 := ⟨_, rfl⟩
  rw [← him_33] at hp_32
  obtain ⟨G_34, hG_35⟩ : ∃ g, g = va_up F_26 60 (oInts cy 43 im_33) := ⟨_, rfl⟩
  rw [← hG_35] at hp_32
  have h_36 := zeq hG_35
  have h_37 := zeq hp_32
  refine zput (E := oModel ad b ln tc co th bs en u st kk dw ho sv pic (nI 3) tk) hC hZ pX7_70 (zlt hn rfl) h_37 rfl rfl rfl (Nat.le_of_ble_eq_true rfl) dX7_carryAll_38 (fun F_38 hF_39 H locs hZ => ?_)
  have h_40 := zeq hF_39
  have h_41 := zne hF_39 (by decide) (zne hp_32 (by decide) (zne hG_35 (by decide) (zne hF_27 (by decide) (zne hp_19 (by decide) h_24))))
  refine lv_aload_n hx hb dX7_carryAll_41 rfl (lv_at hl 0 rfl) ?_
  refine lv_aload_n hx hb dX7_carryAll_42 rfl (lv_at hl 0 rfl) ?_
  refine lv_aload_n hx hb dX7_carryAll_43 rfl (lv_at hl 0 rfl) ?_
  refine zget hC hZ fX7_16 (zlt hn rfl) h_40 rfl dX7_carryAll_44 ?_
  refine zgoi hZ hA (zrunV (As := [.int ln]) (rest := [.ref (ad 56)]) (k := 56) hC hZ (c_X7_carry l D cy n ad F_38 H.size b ln tc co th bs en u st kk dw ho sv pic (nI 3) tk hn h_40 im_33 (zne hF_39 (by decide) (zne hp_32 (by decide) h_36)) ln 3 (by decide) rfl htk) mX7_carry vX7_carry kX7_241 (zRj_of rfl) (zlt hn rfl) h_40 rfl rfl hl.1 rfl (Nat.le_of_ble_eq_true rfl) dX7_carryAll_47 ⟨Nat.le_refl _, Nat.le_refl _⟩) (fun r_43 F_42 hp_44 H locs hZ => ?_)
  obtain ⟨hr9, hp_45⟩ := hp_44
  have hr9 := hr9.symm
  subst hr9
  obtain ⟨im_46, him_46⟩ : ∃ g, g = upd im_33 3 ln := ⟨_, rfl⟩
  rw [← him_46] at hp_45
  obtain ⟨G_47, hG_48⟩ : ∃ g, g = va_up F_38 60 (oInts cy 43 im_46) := ⟨_, rfl⟩
  rw [← hG_48] at hp_45
  have h_49 := zeq hG_48
  have h_50 := zeq hp_45
  refine zput (E := oModel ad b ln tc co th bs en u st kk dw ho sv pic (nI 4) tk) hC hZ pX7_16 (zlt hn rfl) h_50 rfl rfl rfl (Nat.le_of_ble_eq_true rfl) dX7_carryAll_50 (fun F_51 hF_52 H locs hZ => ?_)
  have h_53 := zeq hF_52
  refine lv_aload_n hx hb dX7_carryAll_53 rfl (lv_at hl 0 rfl) ?_
  refine lv_aload_n hx hb dX7_carryAll_54 rfl (lv_at hl 0 rfl) ?_
  refine lv_aload_n hx hb dX7_carryAll_55 rfl (lv_at hl 0 rfl) ?_
  refine zget hC hZ fX7_19 (zlt hn rfl) h_53 rfl dX7_carryAll_56 ?_
  refine zgoi hZ hA (zrunV (As := [.int b.2.2.2]) (rest := [.ref (ad 56)]) (k := 56) hC hZ (c_X7_carry l D cy n ad F_51 H.size b ln tc co th bs en u st kk dw ho sv pic (nI 4) tk hn h_53 im_46 (zne hF_52 (by decide) (zne hp_45 (by decide) h_49)) b.2.2.2 4 (by decide) rfl htk) mX7_carry vX7_carry kX7_241 (zRj_of rfl) (zlt hn rfl) h_53 rfl rfl hl.1 rfl (Nat.le_of_ble_eq_true rfl) dX7_carryAll_59 ⟨Nat.le_refl _, Nat.le_refl _⟩) (fun r_55 F_54 hp_56 H locs hZ => ?_)
  obtain ⟨hr9, hp_57⟩ := hp_56
  have hr9 := hr9.symm
  subst hr9
  obtain ⟨im_58, him_58⟩ : ∃ g, g = upd im_46 4 b.2.2.2 := ⟨_, rfl⟩
  rw [← him_58] at hp_57
  obtain ⟨G_59, hG_60⟩ : ∃ g, g = va_up F_51 60 (oInts cy 43 im_58) := ⟨_, rfl⟩
  rw [← hG_60] at hp_57
  have h_61 := zeq hG_60
  have h_62 := zeq hp_57
  have h_63 := zne hp_57 (by decide) (zne hG_60 (by decide) (zne hF_52 (by decide) (zne hp_45 (by decide) (zne hG_48 (by decide) h_41))))
  refine zput (E := oModel ad b ln tc co th bs en u st kk dw ho sv pic (nI 5) tk) hC hZ pX7_19 (zlt hn rfl) h_62 rfl rfl rfl (Nat.le_of_ble_eq_true rfl) dX7_carryAll_62 (fun F_64 hF_65 H locs hZ => ?_)
  have h_66 := zeq hF_65
  refine lv_aload_n hx hb dX7_carryAll_65 rfl (lv_at hl 0 rfl) ?_
  refine lv_aload_n hx hb dX7_carryAll_66 rfl (lv_at hl 0 rfl) ?_
  refine lv_aload_n hx hb dX7_carryAll_67 rfl (lv_at hl 0 rfl) ?_
  refine zget hC hZ fX7_120 (zlt hn rfl) h_66 rfl dX7_carryAll_68 ?_
  refine zgoi hZ hA (zrunV (As := [.int tc]) (rest := [.ref (ad 56)]) (k := 56) hC hZ (c_X7_carry l D cy n ad F_64 H.size b ln tc co th bs en u st kk dw ho sv pic (nI 5) tk hn h_66 im_58 (zne hF_65 (by decide) (zne hp_57 (by decide) h_61)) tc 5 (by decide) rfl htk) mX7_carry vX7_carry kX7_241 (zRj_of rfl) (zlt hn rfl) h_66 rfl rfl hl.1 rfl (Nat.le_of_ble_eq_true rfl) dX7_carryAll_71 ⟨Nat.le_refl _, Nat.le_refl _⟩) (fun r_68 F_67 hp_69 H locs hZ => ?_)
  obtain ⟨hr9, hp_70⟩ := hp_69
  have hr9 := hr9.symm
  subst hr9
  obtain ⟨im_71, him_71⟩ : ∃ g, g = upd im_58 5 tc := ⟨_, rfl⟩
  rw [← him_71] at hp_70
  obtain ⟨G_72, hG_73⟩ : ∃ g, g = va_up F_64 60 (oInts cy 43 im_71) := ⟨_, rfl⟩
  rw [← hG_73] at hp_70
  have h_74 := zeq hG_73
  have h_75 := zeq hp_70
  refine zput (E := oModel ad b ln tc co th bs en u st kk dw ho sv pic (nI 6) tk) hC hZ pX7_120 (zlt hn rfl) h_75 rfl rfl rfl (Nat.le_of_ble_eq_true rfl) dX7_carryAll_74 (fun F_76 hF_77 H locs hZ => ?_)
  have h_78 := zeq hF_77
  refine lv_aload_n hx hb dX7_carryAll_77 rfl (lv_at hl 0 rfl) ?_
  refine lv_aload_n hx hb dX7_carryAll_78 rfl (lv_at hl 0 rfl) ?_
  refine lv_aload_n hx hb dX7_carryAll_79 rfl (lv_at hl 0 rfl) ?_
  refine zget hC hZ fX7_148 (zlt hn rfl) h_78 rfl dX7_carryAll_80 ?_
  refine zgoi hZ hA (zrunV (As := [.int co.1]) (rest := [.ref (ad 56)]) (k := 56) hC hZ (c_X7_carry l D cy n ad F_76 H.size b ln tc co th bs en u st kk dw ho sv pic (nI 6) tk hn h_78 im_71 (zne hF_77 (by decide) (zne hp_70 (by decide) h_74)) co.1 6 (by decide) rfl htk) mX7_carry vX7_carry kX7_241 (zRj_of rfl) (zlt hn rfl) h_78 rfl rfl hl.1 rfl (Nat.le_of_ble_eq_true rfl) dX7_carryAll_83 ⟨Nat.le_refl _, Nat.le_refl _⟩) (fun r_80 F_79 hp_81 H locs hZ => ?_)
  obtain ⟨hr9, hp_82⟩ := hp_81
  have hr9 := hr9.symm
  subst hr9
  obtain ⟨im_83, him_83⟩ : ∃ g, g = upd im_71 6 co.1 := ⟨_, rfl⟩
  rw [← him_83] at hp_82
  obtain ⟨G_84, hG_85⟩ : ∃ g, g = va_up F_76 60 (oInts cy 43 im_83) := ⟨_, rfl⟩
  rw [← hG_85] at hp_82
  have h_86 := zeq hG_85
  have h_87 := zne hG_85 (by decide) (zne hF_77 (by decide) (zne hp_70 (by decide) (zne hG_73 (by decide) (zne hF_65 (by decide) h_63))))
  have h_88 := zeq hp_82
  refine zput (E := oModel ad b ln tc co th bs en u st kk dw ho sv pic (nI 7) tk) hC hZ pX7_148 (zlt hn rfl) h_88 rfl rfl rfl (Nat.le_of_ble_eq_true rfl) dX7_carryAll_86 (fun F_89 hF_90 H locs hZ => ?_)
  have h_91 := zeq hF_90
  refine lv_aload_n hx hb dX7_carryAll_89 rfl (lv_at hl 0 rfl) ?_
  refine lv_aload_n hx hb dX7_carryAll_90 rfl (lv_at hl 0 rfl) ?_
  refine lv_aload_n hx hb dX7_carryAll_91 rfl (lv_at hl 0 rfl) ?_
  refine zget hC hZ fX7_154 (zlt hn rfl) h_91 rfl dX7_carryAll_92 ?_
  refine zgoi hZ hA (zrunV (As := [.int co.2.1]) (rest := [.ref (ad 56)]) (k := 56) hC hZ (c_X7_carry l D cy n ad F_89 H.size b ln tc co th bs en u st kk dw ho sv pic (nI 7) tk hn h_91 im_83 (zne hF_90 (by decide) (zne hp_82 (by decide) h_86)) co.2.1 7 (by decide) rfl htk) mX7_carry vX7_carry kX7_241 (zRj_of rfl) (zlt hn rfl) h_91 rfl rfl hl.1 rfl (Nat.le_of_ble_eq_true rfl) dX7_carryAll_95 ⟨Nat.le_refl _, Nat.le_refl _⟩) (fun r_93 F_92 hp_94 H locs hZ => ?_)
  obtain ⟨hr9, hp_95⟩ := hp_94
  have hr9 := hr9.symm
  subst hr9
  obtain ⟨im_96, him_96⟩ : ∃ g, g = upd im_83 7 co.2.1 := ⟨_, rfl⟩
  rw [← him_96] at hp_95
  obtain ⟨G_97, hG_98⟩ : ∃ g, g = va_up F_89 60 (oInts cy 43 im_96) := ⟨_, rfl⟩
  rw [← hG_98] at hp_95
  have h_99 := zeq hG_98
  have h_100 := zeq hp_95
  refine zput (E := oModel ad b ln tc co th bs en u st kk dw ho sv pic (nI 8) tk) hC hZ pX7_154 (zlt hn rfl) h_100 rfl rfl rfl (Nat.le_of_ble_eq_true rfl) dX7_carryAll_98 (fun F_101 hF_102 H locs hZ => ?_)
  have h_103 := zeq hF_102
  have h_104 := zne hF_102 (by decide) (zne hp_95 (by decide) (zne hG_98 (by decide) (zne hF_90 (by decide) (zne hp_82 (by decide) h_87))))
  refine lv_aload_n hx hb dX7_carryAll_101 rfl (lv_at hl 0 rfl) ?_
  refine lv_aload_n hx hb dX7_carryAll_102 rfl (lv_at hl 0 rfl) ?_
  refine lv_aload_n hx hb dX7_carryAll_103 rfl (lv_at hl 0 rfl) ?_
  refine zget hC hZ fX7_151 (zlt hn rfl) h_103 rfl dX7_carryAll_104 ?_
  refine zgoi hZ hA (zrunV (As := [.int co.2.2.1]) (rest := [.ref (ad 56)]) (k := 56) hC hZ (c_X7_carry l D cy n ad F_101 H.size b ln tc co th bs en u st kk dw ho sv pic (nI 8) tk hn h_103 im_96 (zne hF_102 (by decide) (zne hp_95 (by decide) h_99)) co.2.2.1 8 (by decide) rfl htk) mX7_carry vX7_carry kX7_241 (zRj_of rfl) (zlt hn rfl) h_103 rfl rfl hl.1 rfl (Nat.le_of_ble_eq_true rfl) dX7_carryAll_107 ⟨Nat.le_refl _, Nat.le_refl _⟩) (fun r_106 F_105 hp_107 H locs hZ => ?_)
  obtain ⟨hr9, hp_108⟩ := hp_107
  have hr9 := hr9.symm
  subst hr9
  obtain ⟨im_109, him_109⟩ : ∃ g, g = upd im_96 8 co.2.2.1 := ⟨_, rfl⟩
  rw [← him_109] at hp_108
  obtain ⟨G_110, hG_111⟩ : ∃ g, g = va_up F_101 60 (oInts cy 43 im_109) := ⟨_, rfl⟩
  rw [← hG_111] at hp_108
  have h_112 := zeq hG_111
  have h_113 := zeq hp_108
  refine zput (E := oModel ad b ln tc co th bs en u st kk dw ho sv pic (nI 9) tk) hC hZ pX7_151 (zlt hn rfl) h_113 rfl rfl rfl (Nat.le_of_ble_eq_true rfl) dX7_carryAll_110 (fun F_114 hF_115 H locs hZ => ?_)
  have h_116 := zeq hF_115
  refine lv_aload_n hx hb dX7_carryAll_113 rfl (lv_at hl 0 rfl) ?_
  refine lv_aload_n hx hb dX7_carryAll_114 rfl (lv_at hl 0 rfl) ?_
  refine lv_aload_n hx hb dX7_carryAll_115 rfl (lv_at hl 0 rfl) ?_
  refine zget hC hZ fX7_67 (zlt hn rfl) h_116 rfl dX7_carryAll_116 ?_
  refine zgoi hZ hA (zrunV (As := [.int co.2.2.2.1]) (rest := [.ref (ad 56)]) (k := 56) hC hZ (c_X7_carry l D cy n ad F_114 H.size b ln tc co th bs en u st kk dw ho sv pic (nI 9) tk hn h_116 im_109 (zne hF_115 (by decide) (zne hp_108 (by decide) h_112)) co.2.2.2.1 9 (by decide) rfl htk) mX7_carry vX7_carry kX7_241 (zRj_of rfl) (zlt hn rfl) h_116 rfl rfl hl.1 rfl (Nat.le_of_ble_eq_true rfl) dX7_carryAll_119 ⟨Nat.le_refl _, Nat.le_refl _⟩) (fun r_118 F_117 hp_119 H locs hZ => ?_)
  obtain ⟨hr9, hp_120⟩ := hp_119
  have hr9 := hr9.symm
  subst hr9
  obtain ⟨im_121, him_121⟩ : ∃ g, g = upd im_109 9 co.2.2.2.1 := ⟨_, rfl⟩
  rw [← him_121] at hp_120
  obtain ⟨G_122, hG_123⟩ : ∃ g, g = va_up F_114 60 (oInts cy 43 im_121) := ⟨_, rfl⟩
  rw [← hG_123] at hp_120
  have h_124 := zeq hG_123
  have h_125 := zne hG_123 (by decide) (zne hF_115 (by decide) (zne hp_108 (by decide) (zne hG_111 (by decide) h_104)))
  have h_126 := zeq hp_120
  refine zput (E := oModel ad b ln tc co th bs en u st kk dw ho sv pic (nI 10) tk) hC hZ pX7_67 (zlt hn rfl) h_126 rfl rfl rfl (Nat.le_of_ble_eq_true rfl) dX7_carryAll_122 (fun F_127 hF_128 H locs hZ => ?_)
  have h_129 := zeq hF_128
  refine lv_aload_n hx hb dX7_carryAll_125 rfl (lv_at hl 0 rfl) ?_
  refine lv_aload_n hx hb dX7_carryAll_126 rfl (lv_at hl 0 rfl) ?_
  refine lv_aload_n hx hb dX7_carryAll_127 rfl (lv_at hl 0 rfl) ?_
  refine zget hC hZ fX7_160 (zlt hn rfl) h_129 rfl dX7_carryAll_128 ?_
  refine zgoi hZ hA (zrunV (As := [.int co.2.2.2.2]) (rest := [.ref (ad 56)]) (k := 56) hC hZ (c_X7_carry l D cy n ad F_127 H.size b ln tc co th bs en u st kk dw ho sv pic (nI 10) tk hn h_129 im_121 (zne hF_128 (by decide) (zne hp_120 (by decide) h_124)) co.2.2.2.2 10 (by decide) rfl htk) mX7_carry vX7_carry kX7_241 (zRj_of rfl) (zlt hn rfl) h_129 rfl rfl hl.1 rfl (Nat.le_of_ble_eq_true rfl) dX7_carryAll_131 ⟨Nat.le_refl _, Nat.le_refl _⟩) (fun r_131 F_130 hp_132 H locs hZ => ?_)
  obtain ⟨hr9, hp_133⟩ := hp_132
  have hr9 := hr9.symm
  subst hr9
  obtain ⟨im_134, him_134⟩ : ∃ g, g = upd im_121 10 co.2.2.2.2 := ⟨_, rfl⟩
  rw [← him_134] at hp_133
  obtain ⟨G_135, hG_136⟩ : ∃ g, g = va_up F_127 60 (oInts cy 43 im_134) := ⟨_, rfl⟩
  rw [← hG_136] at hp_133
  have h_137 := zeq hG_136
  have h_138 := zeq hp_133
  have h_139 := zne hp_133 (by decide) (zne hG_136 (by decide) (zne hF_128 (by decide) (zne hp_120 (by decide) h_125)))
  refine zput (E := oModel ad b ln tc co th bs en u st kk dw ho sv pic (nI 11) tk) hC hZ pX7_160 (zlt hn rfl) h_138 rfl rfl rfl (Nat.le_of_ble_eq_true rfl) dX7_carryAll_134 (fun F_140 hF_141 H locs hZ => ?_)
  have h_142 := zeq hF_141
  refine lv_iconst (v := 0) hx hb dX7_carryAll_137 (by decide) ?_
  refine lv_istore_n (lv' := [(1, .int 0), (0, .ref (ad 56))]) hx hb dX7_carryAll_138 rfl hl (by decide) rfl (fun ls hl => ?_)
  have hfr_143 : frP [56, 57, 60] F F_140 := (frP_up (frP_up (frP_up (frP_up (frP_up (frP_up (frP_up (frP_up (frP_up (frP_up (frP_up (frP_up (frP_up (frP_up (frP_up (frP_up (frP_up (frP_up (frP_up (frP_up (frP_up (frP_up (frP_up (frP_up (frP_up (frP_up (frP_up (frP_up (frP_up (frP_up (frP_up (frP_up (frP_up (frP_up frP_rf hF_2 (by decide)) hG_10 (by decide)) hp_7 (by decide)) hF_14 (by decide)) hG_22 (by decide)) hp_19 (by decide)) hF_27 (by decide)) hG_35 (by decide)) hp_32 (by decide)) hF_39 (by decide)) hG_48 (by decide)) hp_45 (by decide)) hF_52 (by decide)) hG_60 (by decide)) hp_57 (by decide)) hF_65 (by decide)) hG_73 (by decide)) hp_70 (by decide)) hF_77 (by decide)) hG_85 (by decide)) hp_82 (by decide)) hF_90 (by decide)) hG_98 (by decide)) hp_95 (by decide)) hF_102 (by decide)) hG_111 (by decide)) hp_108 (by decide)) hF_115 (by decide)) hG_123 (by decide)) hp_120 (by decide)) hF_128 (by decide)) hG_136 (by decide)) hp_133 (by decide)) hF_141 (by decide))
  refine zlp (X := Nat × (Nat → Int32)) 139 (fun _ => []) (fun x ls F1 => lv_has ls 2 [(1, .int (nI x.1)), (0, .ref (ad 56))] ∧ F1 56 = oModel ad b ln tc co th bs en u st kk dw ho sv pic (nI (11 + x.1)) tk ∧ F1 57 = oInts cy 32 told ∧ F1 60 = oInts cy 43 x.2 ∧ x.1 ≤ 32 ∧ frP [56, 57, 60] F F1 ∧ (∀ k, k < 11 → x.2 k = im_134 k) ∧ (∀ k, k < x.1 → x.2 (11 + k) = told k)) (fun x => 32 - x.1) ?_ (0, im_134) hZ ⟨hl, h_142, (zne hF_141 (by decide) h_139), (zne hF_141 (by decide) (zne hp_133 (by decide) h_137)), Nat.zero_le _, hfr_143, fun k _ => rfl, fun k hk => absurd hk (Nat.not_lt_zero _)⟩
  intro x ih ls F3 H locs hZ hφ
  obtain ⟨i, f⟩ := x
  obtain ⟨hl, h56, h57, h60, hi, hfr, hf1, hf2⟩ := hφ
  have hl : lv_has ls 2 [(1, .int (nI i)), (0, .ref (ad 56))] := hl
  have h56 : F3 56 = oModel ad b ln tc co th bs en u st kk dw ho sv pic (nI (11 + i)) tk := h56
  have h57 : F3 57 = oInts cy 32 told := h57
  have h60 : F3 60 = oInts cy 43 f := h60
  have hi : i ≤ 32 := hi
  have hf1 : ∀ k, k < 11 → f k = im_134 k := hf1
  have hf2 : ∀ k, k < i → f (11 + k) = told k := hf2
  refine lv_iload_n hx hb dX7_carryAll_139 rfl (lv_at hl 0 rfl) ?_
  refine lv_bipush (v := 32) hx hb dX7_carryAll_140 (by decide) ?_
  refine lv_icmp_ge (tgt := 167) hx hb dX7_carryAll_142 (by decide) (fun c_142 => ?_) (fun c_142 => ?_)
  · have hi32 : i = 32 := by have := nIge (N := 32) c_142 (by omega) rfl; omega
    subst hi32
    have g0 : f 0 = b.1 := by refine (hf1 0 (by decide)).trans ?_; simp [him_134, him_121, him_109, him_96, him_83, him_71, him_58, him_46, him_33, him_20, him_8, upd]
    have g1 : f 1 = b.2.1 := by refine (hf1 1 (by decide)).trans ?_; simp [him_134, him_121, him_109, him_96, him_83, him_71, him_58, him_46, him_33, him_20, him_8, upd]
    have g2 : f 2 = b.2.2.1 := by refine (hf1 2 (by decide)).trans ?_; simp [him_134, him_121, him_109, him_96, him_83, him_71, him_58, him_46, him_33, him_20, him_8, upd]
    have g3 : f 3 = ln := by refine (hf1 3 (by decide)).trans ?_; simp [him_134, him_121, him_109, him_96, him_83, him_71, him_58, him_46, him_33, him_20, him_8, upd]
    have g4 : f 4 = b.2.2.2 := by refine (hf1 4 (by decide)).trans ?_; simp [him_134, him_121, him_109, him_96, him_83, him_71, him_58, him_46, him_33, him_20, him_8, upd]
    have g5 : f 5 = tc := by refine (hf1 5 (by decide)).trans ?_; simp [him_134, him_121, him_109, him_96, him_83, him_71, him_58, him_46, him_33, him_20, him_8, upd]
    have g6 : f 6 = co.1 := by refine (hf1 6 (by decide)).trans ?_; simp [him_134, him_121, him_109, him_96, him_83, him_71, him_58, him_46, him_33, him_20, him_8, upd]
    have g7 : f 7 = co.2.1 := by refine (hf1 7 (by decide)).trans ?_; simp [him_134, him_121, him_109, him_96, him_83, him_71, him_58, him_46, him_33, him_20, him_8, upd]
    have g8 : f 8 = co.2.2.1 := by refine (hf1 8 (by decide)).trans ?_; simp [him_134, him_121, him_109, him_96, him_83, him_71, him_58, him_46, him_33, him_20, him_8, upd]
    have g9 : f 9 = co.2.2.2.1 := by refine (hf1 9 (by decide)).trans ?_; simp [him_134, him_121, him_109, him_96, him_83, him_71, him_58, him_46, him_33, him_20, him_8, upd]
    have g10 : f 10 = co.2.2.2.2 := by refine (hf1 10 (by decide)).trans ?_; simp [him_134, him_121, him_109, him_96, him_83, him_71, him_58, him_46, him_33, him_20, him_8, upd]
    exact zvret hC hZ hr hlocks ⟨f, h60, h57, g0, g1, g2, g3, g4, g5, g6, g7, g8, g9, g10, hf2, h56, hfr⟩ dX7_carryAll_167
  · refine lv_aload_n hx hb dX7_carryAll_145 rfl (lv_at hl 1 rfl) ?_
    refine zget hC hZ fX7_22 (zlt hn rfl) h56 rfl dX7_carryAll_146 ?_
    refine lv_iload_n hx hb dX7_carryAll_149 rfl (lv_at hl 0 rfl) ?_
    refine lv_aload_n hx hb dX7_carryAll_150 rfl (lv_at hl 1 rfl) ?_
    refine lv_aload_n hx hb dX7_carryAll_151 rfl (lv_at hl 1 rfl) ?_
    refine zget hC hZ fX7_22 (zlt hn rfl) h56 rfl dX7_carryAll_152 ?_
    refine lv_iload_n hx hb dX7_carryAll_155 rfl (lv_at hl 0 rfl) ?_
    have hlt9 : i < 32 := nIlt (N := 32) c_142 (by omega) rfl
    refine ziald hC hZ (zlt hn rfl) h57 rfl hlt9 (by decide) dX7_carryAll_156 ?_
    refine zgoi hZ hA (zrunV (As := [.int (told i)]) (rest := [.int (nI i), .ref (ad 57)]) (k := 56) hC hZ (c_X7_carry l D cy n ad F3 H.size b ln tc co th bs en u st kk dw ho sv pic (nI (11 + i)) tk hn h56 f h60 (told i) (11 + i) (by omega) rfl htk) mX7_carry vX7_carry kX7_241 (zRj_of rfl) (zlt hn rfl) h56 rfl rfl hl.1 rfl (Nat.le_of_ble_eq_true rfl) dX7_carryAll_157 ⟨Nat.le_refl _, Nat.le_refl _⟩) (fun r_145 F_144 hp_146 H locs hZ => ?_)
    obtain ⟨hr9, hp_147⟩ := hp_146
    have hr9 := hr9.symm
    subst hr9
    obtain ⟨im_148, him_148⟩ : ∃ g, g = upd f (11 + i) (told i) := ⟨_, rfl⟩
    rw [← him_148] at hp_147
    obtain ⟨G_149, hG_150⟩ : ∃ g, g = va_up F3 60 (oInts cy 43 im_148) := ⟨_, rfl⟩
    rw [← hG_150] at hp_147
    have h_151 := zeq hG_150
    have h_152 := zeq hp_147
    refine ziast hC hZ (zlt hn rfl) (zne hp_147 (by decide) (zne hG_150 (by decide) h57)) rfl hlt9 (by decide) dX7_carryAll_160 (fun F_153 hF_154 H locs hZ => ?_)
    have h_155 := zeq hF_154
    refine lv_iinc (v := nI (i + 1)) (lv' := [(1, .int (nI (i + 1))), (0, .ref (ad 56))]) hx hb dX7_carryAll_161 hl (k := 0) rfl (nI_1 i) (by decide) rfl (fun ls hl => ?_)
    refine lv_goto (tgt := 139) hx hb dX7_carryAll_164 (by decide) ?_
    have hlt : i < 32 := nIlt (N := 32) c_142 (by omega) rfl
    have h57x : F_153 57 = oInts cy 32 told := by have := h_155; rw [upd_sf] at this; exact this
    have he : ∀ k, im_148 k = upd f (11 + i) (told i) k := fun k => by rw [him_148]
    exact ih (i + 1, im_148) ls _ H locs (by show 32 - (i + 1) < 32 - i; omega) hZ ⟨(lv_sub hl [0, 1] rfl), (zne hF_154 (by decide) h_152), h57x, (zne hF_154 (by decide) (zne hp_147 (by decide) h_151)), hlt, (frP_up (frP_up (frP_up hfr hG_150 (by decide)) hp_147 (by decide)) hF_154 (by decide)), fun k hk => (by show im_148 k = _; rw [he k, upd_nt f _ (by omega)]; exact hf1 k hk), fun k hk => (by show im_148 (11 + k) = _; rw [he]; rcases Nat.lt_or_ge k i with h9 | h9; rw [upd_nt f _ (by omega)]; exact hf2 k h9; have e9 : k = i := (by have hk : k < i + 1 := hk; omega); rw [e9]; exact upd_at _ _ _)⟩

set_option maxRecDepth 100000 in
theorem c_X7_carryAllR (l : Launch) (D : va_G) (cy : Nat → Nat) (n : Nat) (ad : Nat → Nat) (F : Nat → va_E) (sz : Nat) (b : Stg) (ln tc : Int32) (co : Crs) (th bs en : Int32) (u : Int32 × Int32) (st kk dw ho : Int32) (sv : Crs) (pic ia tk : Int32) (hn : 68 ≤ n) (hM : F 56 = oModel ad b ln tc co th bs en u st kk dw ho sv pic ia tk) (told : Nat → Int32) (h57 : F 57 = oInts cy 32 told) (im : Nat → Int32) (h60 : F 60 = oInts cy 43 im) (htk : tk = 0) : Met l yX7_carryAll (zw yX7_carryAll cX7_carryAll 2 none) (rmL 1) (zPc D cy n ad F sz [.ref (ad 56)]) (va_Qv (fun F1 => ∃ f, F1 57 = oInts cy 32 f ∧ (∀ k, k < 32 → f k = im (11 + k)) ∧ F1 56 = oModel ad ((im 0, im 1, im 2, im 4) : Stg) (im 3) (im 5) ((im 6, im 7, im 8, im 9, im 10) : Crs) th bs en u st kk dw ho sv pic (nI 43) tk ∧ F1 60 = oInts cy 43 im ∧ frP [56, 57, 60] F F1) (zB D n ad) (zA n ad sz)) 0 0 (zA n ad sz) := by
  refine zmet (by decide +kernel) (Nat.le_of_ble_eq_true rfl) (fun p e s m args below meth c ls hC hsz hZ hA hr hlocks hnm hl => ?_)
  have hC : zC p m c cX7_carryAll 2 s args RX7 D cy := hC
  have hx := hC.1.1
  have hb := hC.1.2.1
  have hl : lv_has ls 2 [(0, .ref (ad 56))] := hl
  refine lv_aload_n hx hb dX7_carryAll_0 rfl (lv_at hl 0 rfl) ?_
  refine lv_iconst (v := 0) hx hb dX7_carryAll_1 (by decide) ?_
  refine zput (E := oModel ad b ln tc co th bs en u st kk dw ho sv pic 0 tk) hC hZ pX7_238 (zlt hn rfl) hM rfl rfl rfl (Nat.le_of_ble_eq_true rfl) dX7_carryAll_2 (fun F_1 hF_2 H locs hZ => ?_)
  have h_3 := zeq hF_2
  refine lv_aload_n hx hb dX7_carryAll_5 rfl (lv_at hl 0 rfl) ?_
  refine lv_aload_n hx hb dX7_carryAll_6 rfl (lv_at hl 0 rfl) ?_
  refine lv_aload_n hx hb dX7_carryAll_7 rfl (lv_at hl 0 rfl) ?_
  refine zget hC hZ fX7_7 (zlt hn rfl) h_3 rfl dX7_carryAll_8 ?_
  refine zgoi hZ hA (zrunV (As := [.int b.1]) (rest := [.ref (ad 56)]) (k := 56) hC hZ (c_X7_carryR l D cy n ad F_1 H.size b ln tc co th bs en u st kk dw ho sv pic 0 tk hn h_3 im (zne hF_2 (by decide) h60) b.1 0 (by decide) rfl htk) mX7_carry vX7_carry kX7_241 (zRj_of rfl) (zlt hn rfl) h_3 rfl rfl hl.1 rfl (Nat.le_of_ble_eq_true rfl) dX7_carryAll_11 ⟨Nat.le_refl _, Nat.le_refl _⟩) (fun r_5 F_4 hp_6 H locs hZ => ?_)
  obtain ⟨rfl, hp_7⟩ := hp_6
  have h_8 := zeq hp_7
  refine zput (E := oModel ad ((im 0), b.2.1, b.2.2.1, b.2.2.2) ln tc co th bs en u st kk dw ho sv pic (nI 1) tk) hC hZ pX7_7 (zlt hn rfl) h_8 rfl rfl rfl (Nat.le_of_ble_eq_true rfl) dX7_carryAll_14 (fun F_9 hF_10 H locs hZ => ?_)
  have h_11 := zeq hF_10
  refine lv_aload_n hx hb dX7_carryAll_17 rfl (lv_at hl 0 rfl) ?_
  refine lv_aload_n hx hb dX7_carryAll_18 rfl (lv_at hl 0 rfl) ?_
  refine lv_aload_n hx hb dX7_carryAll_19 rfl (lv_at hl 0 rfl) ?_
  refine zget hC hZ fX7_13 (zlt hn rfl) h_11 rfl dX7_carryAll_20 ?_
  refine zgoi hZ hA (zrunV (As := [.int b.2.1]) (rest := [.ref (ad 56)]) (k := 56) hC hZ (c_X7_carryR l D cy n ad F_9 H.size ((im 0), b.2.1, b.2.2.1, b.2.2.2) ln tc co th bs en u st kk dw ho sv pic (nI 1) tk hn h_11 im (zne hF_10 (by decide) (zne hp_7 (by decide) (zne hF_2 (by decide) h60))) b.2.1 1 (by decide) rfl htk) mX7_carry vX7_carry kX7_241 (zRj_of rfl) (zlt hn rfl) h_11 rfl rfl hl.1 rfl (Nat.le_of_ble_eq_true rfl) dX7_carryAll_23 ⟨Nat.le_refl _, Nat.le_refl _⟩) (fun r_13 F_12 hp_14 H locs hZ => ?_)
  obtain ⟨rfl, hp_15⟩ := hp_14
  have h_16 := zeq hp_15
  refine zput (E := oModel ad ((im 0), (im 1), b.2.2.1, b.2.2.2) ln tc co th bs en u st kk dw ho sv pic (nI 2) tk) hC hZ pX7_13 (zlt hn rfl) h_16 rfl rfl rfl (Nat.le_of_ble_eq_true rfl) dX7_carryAll_26 (fun F_17 hF_18 H locs hZ => ?_)
  have h_19 := zeq hF_18
  have h_20 := zne hF_18 (by decide) (zne hp_15 (by decide) (zne hF_10 (by decide) (zne hp_7 (by decide) (zne hF_2 (by decide) h57))))
  have h_21 := zne hF_18 (by decide) (zne hp_15 (by decide) (zne hF_10 (by decide) (zne hp_7 (by decide) (zne hF_2 (by decide) h60))))
  refine lv_aload_n hx hb dX7_carryAll_29 rfl (lv_at hl 0 rfl) ?_
  refine lv_aload_n hx hb dX7_carryAll_30 rfl (lv_at hl 0 rfl) ?_
  refine lv_aload_n hx hb dX7_carryAll_31 rfl (lv_at hl 0 rfl) ?_
  refine zget hC hZ fX7_70 (zlt hn rfl) h_19 rfl dX7_carryAll_32 ?_
  refine zgoi hZ hA (zrunV (As := [.int b.2.2.1]) (rest := [.ref (ad 56)]) (k := 56) hC hZ (c_X7_carryR l D cy n ad F_17 H.size ((im 0), (im 1), b.2.2.1, b.2.2.2) ln tc co th bs en u st kk dw ho sv pic (nI 2) tk hn h_19 im h_21 b.2.2.1 2 (by decide) rfl htk) mX7_carry vX7_carry kX7_241 (zRj_of rfl) (zlt hn rfl) h_19 rfl rfl hl.1 rfl (Nat.le_of_ble_eq_true rfl) dX7_carryAll_35 ⟨Nat.le_refl _, Nat.le_refl _⟩) (fun r_23 F_22 hp_24 H locs hZ => ?_)
  obtain ⟨rfl, hp_25⟩ := hp_24
  have h_26 := zeq hp_25
  refine zput (E := oModel ad ((im 0), (im 1), (im 2), b.2.2.2) ln tc co th bs en u st kk dw ho sv pic (nI 3) tk) hC hZ pX7_70 (zlt hn rfl) h_26 rfl rfl rfl (Nat.le_of_ble_eq_true rfl) dX7_carryAll_38 (fun F_27 hF_28 H locs hZ => ?_)
  have h_29 := zeq hF_28
  refine lv_aload_n hx hb dX7_carryAll_41 rfl (lv_at hl 0 rfl) ?_
  refine lv_aload_n hx hb dX7_carryAll_42 rfl (lv_at hl 0 rfl) ?_
  refine lv_aload_n hx hb dX7_carryAll_43 rfl (lv_at hl 0 rfl) ?_
  refine zget hC hZ fX7_16 (zlt hn rfl) h_29 rfl dX7_carryAll_44 ?_
  refine zgoi hZ hA (zrunV (As := [.int ln]) (rest := [.ref (ad 56)]) (k := 56) hC hZ (c_X7_carryR l D cy n ad F_27 H.size ((im 0), (im 1), (im 2), b.2.2.2) ln tc co th bs en u st kk dw ho sv pic (nI 3) tk hn h_29 im (zne hF_28 (by decide) (zne hp_25 (by decide) h_21)) ln 3 (by decide) rfl htk) mX7_carry vX7_carry kX7_241 (zRj_of rfl) (zlt hn rfl) h_29 rfl rfl hl.1 rfl (Nat.le_of_ble_eq_true rfl) dX7_carryAll_47 ⟨Nat.le_refl _, Nat.le_refl _⟩) (fun r_31 F_30 hp_32 H locs hZ => ?_)
  obtain ⟨rfl, hp_33⟩ := hp_32
  have h_34 := zeq hp_33
  refine zput (E := oModel ad ((im 0), (im 1), (im 2), b.2.2.2) (im 3) tc co th bs en u st kk dw ho sv pic (nI 4) tk) hC hZ pX7_16 (zlt hn rfl) h_34 rfl rfl rfl (Nat.le_of_ble_eq_true rfl) dX7_carryAll_50 (fun F_35 hF_36 H locs hZ => ?_)
  have h_37 := zeq hF_36
  refine lv_aload_n hx hb dX7_carryAll_53 rfl (lv_at hl 0 rfl) ?_
  refine lv_aload_n hx hb dX7_carryAll_54 rfl (lv_at hl 0 rfl) ?_
  refine lv_aload_n hx hb dX7_carryAll_55 rfl (lv_at hl 0 rfl) ?_
  refine zget hC hZ fX7_19 (zlt hn rfl) h_37 rfl dX7_carryAll_56 ?_
  refine zgoi hZ hA (zrunV (As := [.int b.2.2.2]) (rest := [.ref (ad 56)]) (k := 56) hC hZ (c_X7_carryR l D cy n ad F_35 H.size ((im 0), (im 1), (im 2), b.2.2.2) (im 3) tc co th bs en u st kk dw ho sv pic (nI 4) tk hn h_37 im (zne hF_36 (by decide) (zne hp_33 (by decide) (zne hF_28 (by decide) (zne hp_25 (by decide) h_21)))) b.2.2.2 4 (by decide) rfl htk) mX7_carry vX7_carry kX7_241 (zRj_of rfl) (zlt hn rfl) h_37 rfl rfl hl.1 rfl (Nat.le_of_ble_eq_true rfl) dX7_carryAll_59 ⟨Nat.le_refl _, Nat.le_refl _⟩) (fun r_39 F_38 hp_40 H locs hZ => ?_)
  obtain ⟨rfl, hp_41⟩ := hp_40
  have h_42 := zeq hp_41
  have h_43 := zne hp_41 (by decide) (zne hF_36 (by decide) (zne hp_33 (by decide) (zne hF_28 (by decide) (zne hp_25 (by decide) h_20))))
  have h_44 := zne hp_41 (by decide) (zne hF_36 (by decide) (zne hp_33 (by decide) (zne hF_28 (by decide) (zne hp_25 (by decide) h_21))))
  refine zput (E := oModel ad ((im 0), (im 1), (im 2), (im 4)) (im 3) tc co th bs en u st kk dw ho sv pic (nI 5) tk) hC hZ pX7_19 (zlt hn rfl) h_42 rfl rfl rfl (Nat.le_of_ble_eq_true rfl) dX7_carryAll_62 (fun F_45 hF_46 H locs hZ => ?_)
  have h_47 := zeq hF_46
  refine lv_aload_n hx hb dX7_carryAll_65 rfl (lv_at hl 0 rfl) ?_
  refine lv_aload_n hx hb dX7_carryAll_66 rfl (lv_at hl 0 rfl) ?_
  refine lv_aload_n hx hb dX7_carryAll_67 rfl (lv_at hl 0 rfl) ?_
  refine zget hC hZ fX7_120 (zlt hn rfl) h_47 rfl dX7_carryAll_68 ?_
  refine zgoi hZ hA (zrunV (As := [.int tc]) (rest := [.ref (ad 56)]) (k := 56) hC hZ (c_X7_carryR l D cy n ad F_45 H.size ((im 0), (im 1), (im 2), (im 4)) (im 3) tc co th bs en u st kk dw ho sv pic (nI 5) tk hn h_47 im (zne hF_46 (by decide) h_44) tc 5 (by decide) rfl htk) mX7_carry vX7_carry kX7_241 (zRj_of rfl) (zlt hn rfl) h_47 rfl rfl hl.1 rfl (Nat.le_of_ble_eq_true rfl) dX7_carryAll_71 ⟨Nat.le_refl _, Nat.le_refl _⟩) (fun r_49 F_48 hp_50 H locs hZ => ?_)
  obtain ⟨rfl, hp_51⟩ := hp_50
  have h_52 := zeq hp_51
  refine zput (E := oModel ad ((im 0), (im 1), (im 2), (im 4)) (im 3) (im 5) co th bs en u st kk dw ho sv pic (nI 6) tk) hC hZ pX7_120 (zlt hn rfl) h_52 rfl rfl rfl (Nat.le_of_ble_eq_true rfl) dX7_carryAll_74 (fun F_53 hF_54 H locs hZ => ?_)
  have h_55 := zeq hF_54
  refine lv_aload_n hx hb dX7_carryAll_77 rfl (lv_at hl 0 rfl) ?_
  refine lv_aload_n hx hb dX7_carryAll_78 rfl (lv_at hl 0 rfl) ?_
  refine lv_aload_n hx hb dX7_carryAll_79 rfl (lv_at hl 0 rfl) ?_
  refine zget hC hZ fX7_148 (zlt hn rfl) h_55 rfl dX7_carryAll_80 ?_
  refine zgoi hZ hA (zrunV (As := [.int co.1]) (rest := [.ref (ad 56)]) (k := 56) hC hZ (c_X7_carryR l D cy n ad F_53 H.size ((im 0), (im 1), (im 2), (im 4)) (im 3) (im 5) co th bs en u st kk dw ho sv pic (nI 6) tk hn h_55 im (zne hF_54 (by decide) (zne hp_51 (by decide) (zne hF_46 (by decide) h_44))) co.1 6 (by decide) rfl htk) mX7_carry vX7_carry kX7_241 (zRj_of rfl) (zlt hn rfl) h_55 rfl rfl hl.1 rfl (Nat.le_of_ble_eq_true rfl) dX7_carryAll_83 ⟨Nat.le_refl _, Nat.le_refl _⟩) (fun r_57 F_56 hp_58 H locs hZ => ?_)
  obtain ⟨rfl, hp_59⟩ := hp_58
  have h_60 := zeq hp_59
  refine zput (E := oModel ad ((im 0), (im 1), (im 2), (im 4)) (im 3) (im 5) ((im 6), co.2.1, co.2.2.1, co.2.2.2.1, co.2.2.2.2) th bs en u st kk dw ho sv pic (nI 7) tk) hC hZ pX7_148 (zlt hn rfl) h_60 rfl rfl rfl (Nat.le_of_ble_eq_true rfl) dX7_carryAll_86 (fun F_61 hF_62 H locs hZ => ?_)
  have h_63 := zeq hF_62
  have h_64 := zne hF_62 (by decide) (zne hp_59 (by decide) (zne hF_54 (by decide) (zne hp_51 (by decide) (zne hF_46 (by decide) h_43))))
  have h_65 := zne hF_62 (by decide) (zne hp_59 (by decide) (zne hF_54 (by decide) (zne hp_51 (by decide) (zne hF_46 (by decide) h_44))))
  refine lv_aload_n hx hb dX7_carryAll_89 rfl (lv_at hl 0 rfl) ?_
  refine lv_aload_n hx hb dX7_carryAll_90 rfl (lv_at hl 0 rfl) ?_
  refine lv_aload_n hx hb dX7_carryAll_91 rfl (lv_at hl 0 rfl) ?_
  refine zget hC hZ fX7_154 (zlt hn rfl) h_63 rfl dX7_carryAll_92 ?_
  refine zgoi hZ hA (zrunV (As := [.int co.2.1]) (rest := [.ref (ad 56)]) (k := 56) hC hZ (c_X7_carryR l D cy n ad F_61 H.size ((im 0), (im 1), (im 2), (im 4)) (im 3) (im 5) ((im 6), co.2.1, co.2.2.1, co.2.2.2.1, co.2.2.2.2) th bs en u st kk dw ho sv pic (nI 7) tk hn h_63 im h_65 co.2.1 7 (by decide) rfl htk) mX7_carry vX7_carry kX7_241 (zRj_of rfl) (zlt hn rfl) h_63 rfl rfl hl.1 rfl (Nat.le_of_ble_eq_true rfl) dX7_carryAll_95 ⟨Nat.le_refl _, Nat.le_refl _⟩) (fun r_67 F_66 hp_68 H locs hZ => ?_)
  obtain ⟨rfl, hp_69⟩ := hp_68
  have h_70 := zeq hp_69
  refine zput (E := oModel ad ((im 0), (im 1), (im 2), (im 4)) (im 3) (im 5) ((im 6), (im 7), co.2.2.1, co.2.2.2.1, co.2.2.2.2) th bs en u st kk dw ho sv pic (nI 8) tk) hC hZ pX7_154 (zlt hn rfl) h_70 rfl rfl rfl (Nat.le_of_ble_eq_true rfl) dX7_carryAll_98 (fun F_71 hF_72 H locs hZ => ?_)
  have h_73 := zeq hF_72
  refine lv_aload_n hx hb dX7_carryAll_101 rfl (lv_at hl 0 rfl) ?_
  refine lv_aload_n hx hb dX7_carryAll_102 rfl (lv_at hl 0 rfl) ?_
  refine lv_aload_n hx hb dX7_carryAll_103 rfl (lv_at hl 0 rfl) ?_
  refine zget hC hZ fX7_151 (zlt hn rfl) h_73 rfl dX7_carryAll_104 ?_
  refine zgoi hZ hA (zrunV (As := [.int co.2.2.1]) (rest := [.ref (ad 56)]) (k := 56) hC hZ (c_X7_carryR l D cy n ad F_71 H.size ((im 0), (im 1), (im 2), (im 4)) (im 3) (im 5) ((im 6), (im 7), co.2.2.1, co.2.2.2.1, co.2.2.2.2) th bs en u st kk dw ho sv pic (nI 8) tk hn h_73 im (zne hF_72 (by decide) (zne hp_69 (by decide) h_65)) co.2.2.1 8 (by decide) rfl htk) mX7_carry vX7_carry kX7_241 (zRj_of rfl) (zlt hn rfl) h_73 rfl rfl hl.1 rfl (Nat.le_of_ble_eq_true rfl) dX7_carryAll_107 ⟨Nat.le_refl _, Nat.le_refl _⟩) (fun r_75 F_74 hp_76 H locs hZ => ?_)
  obtain ⟨rfl, hp_77⟩ := hp_76
  have h_78 := zeq hp_77
  refine zput (E := oModel ad ((im 0), (im 1), (im 2), (im 4)) (im 3) (im 5) ((im 6), (im 7), (im 8), co.2.2.2.1, co.2.2.2.2) th bs en u st kk dw ho sv pic (nI 9) tk) hC hZ pX7_151 (zlt hn rfl) h_78 rfl rfl rfl (Nat.le_of_ble_eq_true rfl) dX7_carryAll_110 (fun F_79 hF_80 H locs hZ => ?_)
  have h_81 := zeq hF_80
  refine lv_aload_n hx hb dX7_carryAll_113 rfl (lv_at hl 0 rfl) ?_
  refine lv_aload_n hx hb dX7_carryAll_114 rfl (lv_at hl 0 rfl) ?_
  refine lv_aload_n hx hb dX7_carryAll_115 rfl (lv_at hl 0 rfl) ?_
  refine zget hC hZ fX7_67 (zlt hn rfl) h_81 rfl dX7_carryAll_116 ?_
  refine zgoi hZ hA (zrunV (As := [.int co.2.2.2.1]) (rest := [.ref (ad 56)]) (k := 56) hC hZ (c_X7_carryR l D cy n ad F_79 H.size ((im 0), (im 1), (im 2), (im 4)) (im 3) (im 5) ((im 6), (im 7), (im 8), co.2.2.2.1, co.2.2.2.2) th bs en u st kk dw ho sv pic (nI 9) tk hn h_81 im (zne hF_80 (by decide) (zne hp_77 (by decide) (zne hF_72 (by decide) (zne hp_69 (by decide) h_65)))) co.2.2.2.1 9 (by decide) rfl htk) mX7_carry vX7_carry kX7_241 (zRj_of rfl) (zlt hn rfl) h_81 rfl rfl hl.1 rfl (Nat.le_of_ble_eq_true rfl) dX7_carryAll_119 ⟨Nat.le_refl _, Nat.le_refl _⟩) (fun r_83 F_82 hp_84 H locs hZ => ?_)
  obtain ⟨rfl, hp_85⟩ := hp_84
  have h_86 := zeq hp_85
  have h_87 := zne hp_85 (by decide) (zne hF_80 (by decide) (zne hp_77 (by decide) (zne hF_72 (by decide) (zne hp_69 (by decide) h_64))))
  have h_88 := zne hp_85 (by decide) (zne hF_80 (by decide) (zne hp_77 (by decide) (zne hF_72 (by decide) (zne hp_69 (by decide) h_65))))
  refine zput (E := oModel ad ((im 0), (im 1), (im 2), (im 4)) (im 3) (im 5) ((im 6), (im 7), (im 8), (im 9), co.2.2.2.2) th bs en u st kk dw ho sv pic (nI 10) tk) hC hZ pX7_67 (zlt hn rfl) h_86 rfl rfl rfl (Nat.le_of_ble_eq_true rfl) dX7_carryAll_122 (fun F_89 hF_90 H locs hZ => ?_)
  have h_91 := zeq hF_90
  refine lv_aload_n hx hb dX7_carryAll_125 rfl (lv_at hl 0 rfl) ?_
  refine lv_aload_n hx hb dX7_carryAll_126 rfl (lv_at hl 0 rfl) ?_
  refine lv_aload_n hx hb dX7_carryAll_127 rfl (lv_at hl 0 rfl) ?_
  refine zget hC hZ fX7_160 (zlt hn rfl) h_91 rfl dX7_carryAll_128 ?_
  refine zgoi hZ hA (zrunV (As := [.int co.2.2.2.2]) (rest := [.ref (ad 56)]) (k := 56) hC hZ (c_X7_carryR l D cy n ad F_89 H.size ((im 0), (im 1), (im 2), (im 4)) (im 3) (im 5) ((im 6), (im 7), (im 8), (im 9), co.2.2.2.2) th bs en u st kk dw ho sv pic (nI 10) tk hn h_91 im (zne hF_90 (by decide) h_88) co.2.2.2.2 10 (by decide) rfl htk) mX7_carry vX7_carry kX7_241 (zRj_of rfl) (zlt hn rfl) h_91 rfl rfl hl.1 rfl (Nat.le_of_ble_eq_true rfl) dX7_carryAll_131 ⟨Nat.le_refl _, Nat.le_refl _⟩) (fun r_93 F_92 hp_94 H locs hZ => ?_)
  obtain ⟨rfl, hp_95⟩ := hp_94
  have h_96 := zeq hp_95
  refine zput (E := oModel ad ((im 0), (im 1), (im 2), (im 4)) (im 3) (im 5) ((im 6), (im 7), (im 8), (im 9), (im 10)) th bs en u st kk dw ho sv pic (nI 11) tk) hC hZ pX7_160 (zlt hn rfl) h_96 rfl rfl rfl (Nat.le_of_ble_eq_true rfl) dX7_carryAll_134 (fun F_97 hF_98 H locs hZ => ?_)
  have h_99 := zeq hF_98
  refine lv_iconst (v := 0) hx hb dX7_carryAll_137 (by decide) ?_
  refine lv_istore_n (lv' := [(1, .int 0), (0, .ref (ad 56))]) hx hb dX7_carryAll_138 rfl hl (by decide) rfl (fun ls hl => ?_)
  have hfr_100 : frP [56, 57, 60] F F_97 := (frP_up (frP_up (frP_up (frP_up (frP_up (frP_up (frP_up (frP_up (frP_up (frP_up (frP_up (frP_up (frP_up (frP_up (frP_up (frP_up (frP_up (frP_up (frP_up (frP_up (frP_up (frP_up (frP_up frP_rf hF_2 (by decide)) hp_7 (by decide)) hF_10 (by decide)) hp_15 (by decide)) hF_18 (by decide)) hp_25 (by decide)) hF_28 (by decide)) hp_33 (by decide)) hF_36 (by decide)) hp_41 (by decide)) hF_46 (by decide)) hp_51 (by decide)) hF_54 (by decide)) hp_59 (by decide)) hF_62 (by decide)) hp_69 (by decide)) hF_72 (by decide)) hp_77 (by decide)) hF_80 (by decide)) hp_85 (by decide)) hF_90 (by decide)) hp_95 (by decide)) hF_98 (by decide))
  refine zlp (X := Nat × (Nat → Int32)) 139 (fun _ => []) (fun x ls F1 => lv_has ls 2 [(1, .int (nI x.1)), (0, .ref (ad 56))] ∧ F1 56 = oModel ad ((im 0), (im 1), (im 2), (im 4)) (im 3) (im 5) ((im 6), (im 7), (im 8), (im 9), (im 10)) th bs en u st kk dw ho sv pic (nI (11 + x.1)) tk ∧ F1 57 = oInts cy 32 x.2 ∧ F1 60 = oInts cy 43 im ∧ x.1 ≤ 32 ∧ frP [56, 57, 60] F F1 ∧ (∀ k, k < x.1 → x.2 k = im (11 + k))) (fun x => 32 - x.1) ?_ (0, told) hZ ⟨hl, h_99, (zne hF_98 (by decide) (zne hp_95 (by decide) (zne hF_90 (by decide) h_87))), (zne hF_98 (by decide) (zne hp_95 (by decide) (zne hF_90 (by decide) h_88))), Nat.zero_le _, hfr_100, fun k hk => absurd hk (Nat.not_lt_zero _)⟩
  intro x ih ls F3 H locs hZ hφ
  obtain ⟨i, f⟩ := x
  obtain ⟨hl, h56, h57, h60, hi, hfr, hf2⟩ := hφ
  have hl : lv_has ls 2 [(1, .int (nI i)), (0, .ref (ad 56))] := hl
  have h56 : F3 56 = oModel ad ((im 0), (im 1), (im 2), (im 4)) (im 3) (im 5) ((im 6), (im 7), (im 8), (im 9), (im 10)) th bs en u st kk dw ho sv pic (nI (11 + i)) tk := h56
  have h57 : F3 57 = oInts cy 32 f := h57
  have h60 : F3 60 = oInts cy 43 im := h60
  have hi : i ≤ 32 := hi
  have hf2 : ∀ k, k < i → f k = im (11 + k) := hf2
  refine lv_iload_n hx hb dX7_carryAll_139 rfl (lv_at hl 0 rfl) ?_
  refine lv_bipush (v := 32) hx hb dX7_carryAll_140 (by decide) ?_
  refine lv_icmp_ge (tgt := 167) hx hb dX7_carryAll_142 (by decide) (fun c_142 => ?_) (fun c_142 => ?_)
  · have hi32 : i = 32 := by have := nIge (N := 32) c_142 (by omega) rfl; omega
    subst hi32
    exact zvret hC hZ hr hlocks ⟨f, h57, hf2, h56, h60, hfr⟩ dX7_carryAll_167
  · refine lv_aload_n hx hb dX7_carryAll_145 rfl (lv_at hl 1 rfl) ?_
    refine zget hC hZ fX7_22 (zlt hn rfl) h56 rfl dX7_carryAll_146 ?_
    refine lv_iload_n hx hb dX7_carryAll_149 rfl (lv_at hl 0 rfl) ?_
    refine lv_aload_n hx hb dX7_carryAll_150 rfl (lv_at hl 1 rfl) ?_
    refine lv_aload_n hx hb dX7_carryAll_151 rfl (lv_at hl 1 rfl) ?_
    refine zget hC hZ fX7_22 (zlt hn rfl) h56 rfl dX7_carryAll_152 ?_
    refine lv_iload_n hx hb dX7_carryAll_155 rfl (lv_at hl 0 rfl) ?_
    have hlt9 : i < 32 := nIlt (N := 32) c_142 (by omega) rfl
    refine ziald hC hZ (zlt hn rfl) h57 rfl hlt9 (by decide) dX7_carryAll_156 ?_
    refine zgoi hZ hA (zrunV (As := [.int (f i)]) (rest := [.int (nI i), .ref (ad 57)]) (k := 56) hC hZ (c_X7_carryR l D cy n ad F3 H.size ((im 0), (im 1), (im 2), (im 4)) (im 3) (im 5) ((im 6), (im 7), (im 8), (im 9), (im 10)) th bs en u st kk dw ho sv pic (nI (11 + i)) tk hn h56 im h60 (f i) (11 + i) (by omega) rfl htk) mX7_carry vX7_carry kX7_241 (zRj_of rfl) (zlt hn rfl) h56 rfl rfl hl.1 rfl (Nat.le_of_ble_eq_true rfl) dX7_carryAll_157 ⟨Nat.le_refl _, Nat.le_refl _⟩) (fun r_102 F_101 hp_103 H locs hZ => ?_)
    obtain ⟨rfl, hp_104⟩ := hp_103
    have h_105 := zeq hp_104
    refine ziast hC hZ (zlt hn rfl) (zne hp_104 (by decide) h57) rfl hlt9 (by decide) dX7_carryAll_160 (fun F_106 hF_107 H locs hZ => ?_)
    have h_108 := zeq hF_107
    refine lv_iinc (v := nI (i + 1)) (lv' := [(1, .int (nI (i + 1))), (0, .ref (ad 56))]) hx hb dX7_carryAll_161 hl (k := 0) rfl (nI_1 i) (by decide) rfl (fun ls hl => ?_)
    refine lv_goto (tgt := 139) hx hb dX7_carryAll_164 (by decide) ?_
    have hlt : i < 32 := nIlt (N := 32) c_142 (by omega) rfl
    exact ih (i + 1, upd f i (im (11 + i))) ls _ H locs (by show 32 - (i + 1) < 32 - i; omega) hZ ⟨(lv_sub hl [0, 1] rfl), (zne hF_107 (by decide) h_105), h_108, (zne hF_107 (by decide) (zne hp_104 (by decide) h60)), hlt, (frP_up (frP_up hfr hp_104 (by decide)) hF_107 (by decide)), fun k hk => (by show upd f i (im (11 + i)) k = _; rcases Nat.lt_or_ge k i with h9 | h9; rw [upd_nt f _ (by omega)]; exact hf2 k h9; have e9 : k = i := (by have hk : k < i + 1 := hk; omega); rw [e9]; exact upd_at _ _ _)⟩
