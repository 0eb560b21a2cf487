theorem mX7_readStatement : zMd yX7_readStatement cX7_readStatement 2 none 0 := ⟨by decide +kernel, gt_of 901 (by decide +kernel) rfl, gt_of 52 (by decide +kernel) rfl, by decide⟩
theorem dX7_readStatement_0 : decode cX7_readStatement 0 = .ok (.iconst 4, 1) := by decide +kernel
theorem dX7_readStatement_1 : decode cX7_readStatement 1 = .ok (.aload_n 0, 1) := by decide +kernel
theorem dX7_readStatement_2 : decode cX7_readStatement 2 = .ok (.getfield 97, 3) := by decide +kernel
theorem fX7_97 : zFld RX7 97 7 17 := ⟨RX7, TX7, 39, rfl, inX7, by decide, rfl, Or.inl (gt_of 775 (by decide +kernel) rfl)⟩
theorem dX7_readStatement_5 : decode cX7_readStatement 5 = .ok (.imul, 1) := by decide +kernel
theorem dX7_readStatement_6 : decode cX7_readStatement 6 = .ok (.istore_n 1, 1) := by decide +kernel
theorem dX7_readStatement_7 : decode cX7_readStatement 7 = .ok (.aload_n 0, 1) := by decide +kernel
theorem dX7_readStatement_8 : decode cX7_readStatement 8 = .ok (.getfield 26, 3) := by decide +kernel
theorem fX7_26 : zFld RX7 26 7 18 := ⟨RX7, TX7, 39, rfl, inX7, by decide, rfl, Or.inl (gt_of 776 (by decide +kernel) rfl)⟩
theorem dX7_readStatement_11 : decode cX7_readStatement 11 = .ok (.aload_n 0, 1) := by decide +kernel
theorem dX7_readStatement_12 : decode cX7_readStatement 12 = .ok (.getfield 97, 3) := by decide +kernel
theorem dX7_readStatement_15 : decode cX7_readStatement 15 = .ok (.aload_n 0, 1) := by decide +kernel
theorem dX7_readStatement_16 : decode cX7_readStatement 16 = .ok (.getfield 73, 3) := by decide +kernel
theorem dX7_readStatement_19 : decode cX7_readStatement 19 = .ok (.iastore, 1) := by decide +kernel
theorem dX7_readStatement_20 : decode cX7_readStatement 20 = .ok (.aload_n 0, 1) := by decide +kernel
theorem dX7_readStatement_21 : decode cX7_readStatement 21 = .ok (.bipush 114, 2) := by decide +kernel
theorem dX7_readStatement_23 : decode cX7_readStatement 23 = .ok (.invokevirtual 100, 3) := by decide +kernel
theorem kX7_100 : zLk RX7 100 yX7_take := Or.inl (gt_of 902 (by decide +kernel) rfl)
theorem vX7_take : zMi yX7_take := ⟨gt_of 904 (by decide +kernel) rfl, gt_of 21 (by decide +kernel) rfl⟩
theorem dX7_readStatement_46 : decode cX7_readStatement 46 = .ok (.iastore, 1) := by decide +kernel
theorem dX7_readStatement_74 : decode cX7_readStatement 74 = .ok (.iastore, 1) := by decide +kernel
theorem dX7_readStatement_102 : decode cX7_readStatement 102 = .ok (.iastore, 1) := by decide +kernel
theorem dX7_readStatement_130 : decode cX7_readStatement 130 = .ok (.iastore, 1) := by decide +kernel
theorem dX7_readStatement_131 : decode cX7_readStatement 131 = .ok (.aload_n 0, 1) := by decide +kernel
theorem dX7_readStatement_132 : decode cX7_readStatement 132 = .ok (.bipush 59, 2) := by decide +kernel
theorem dX7_readStatement_134 : decode cX7_readStatement 134 = .ok (.invokevirtual 100, 3) := by decide +kernel
theorem dX7_readStatement_137 : decode cX7_readStatement 137 = .ok (.aload_n 0, 1) := by decide +kernel
theorem dX7_readStatement_138 : decode cX7_readStatement 138 = .ok (.dup, 1) := by decide +kernel
theorem dX7_readStatement_139 : decode cX7_readStatement 139 = .ok (.getfield 97, 3) := by decide +kernel
theorem dX7_readStatement_142 : decode cX7_readStatement 142 = .ok (.iconst 1, 1) := by decide +kernel
theorem dX7_readStatement_143 : decode cX7_readStatement 143 = .ok (.iadd, 1) := by decide +kernel
theorem dX7_readStatement_144 : decode cX7_readStatement 144 = .ok (.putfield 97, 3) := by decide +kernel
theorem pX7_97 : zFldP RX7 97 7 17 false .int := ⟨RX7, TX7, 39, tyX7, rfl, inX7, by decide, rfl, Or.inl (gt_of 775 (by decide +kernel) rfl), tyX7_ok, nmX7, rfl, by decide +kernel, fun h => by cases h⟩
theorem dX7_readStatement_147 : decode cX7_readStatement 147 = .ok (.return_, 1) := by decide +kernel
theorem dX7_readStatement_103 : decode cX7_readStatement 103 = .ok (.aload_n 0, 1) := by decide +kernel
theorem dX7_readStatement_104 : decode cX7_readStatement 104 = .ok (.getfield 29, 3) := by decide +kernel
theorem fX7_29 : zFld RX7 29 7 19 := ⟨RX7, TX7, 39, rfl, inX7, by decide, rfl, Or.inl (gt_of 777 (by decide +kernel) rfl)⟩
theorem dX7_readStatement_107 : decode cX7_readStatement 107 = .ok (.iload_n 1, 1) := by decide +kernel
theorem dX7_readStatement_108 : decode cX7_readStatement 108 = .ok (.iconst 3, 1) := by decide +kernel
theorem dX7_readStatement_109 : decode cX7_readStatement 109 = .ok (.iadd, 1) := by decide +kernel
theorem dX7_readStatement_110 : decode cX7_readStatement 110 = .ok (.aload_n 0, 1) := by decide +kernel
theorem dX7_readStatement_111 : decode cX7_readStatement 111 = .ok (.bipush 100, 2) := by decide +kernel
theorem dX7_readStatement_113 : decode cX7_readStatement 113 = .ok (.invokevirtual 107, 3) := by decide +kernel
theorem kX7_107 : zLk RX7 107 yX7_hasLetter := Or.inl (gt_of 920 (by decide +kernel) rfl)
theorem vX7_hasLetter : zMi yX7_hasLetter := ⟨gt_of 922 (by decide +kernel) rfl, gt_of 25 (by decide +kernel) rfl⟩
theorem dX7_readStatement_116 : decode cX7_readStatement 116 = .ok (.ifCond .eq 10, 3) := by decide +kernel
theorem dX7_readStatement_119 : decode cX7_readStatement 119 = .ok (.aload_n 0, 1) := by decide +kernel
theorem dX7_readStatement_120 : decode cX7_readStatement 120 = .ok (.invokevirtual 104, 3) := by decide +kernel
theorem kX7_104 : zLk RX7 104 yX7_readNumber := Or.inl (gt_of 910 (by decide +kernel) rfl)
theorem vX7_readNumber : zMi yX7_readNumber := ⟨gt_of 912 (by decide +kernel) rfl, gt_of 23 (by decide +kernel) rfl⟩
theorem dX7_readStatement_123 : decode cX7_readStatement 123 = .ok (.goto 7, 3) := by decide +kernel
theorem dX7_readStatement_126 : decode cX7_readStatement 126 = .ok (.aload_n 0, 1) := by decide +kernel
theorem dX7_readStatement_127 : decode cX7_readStatement 127 = .ok (.getfield 19, 3) := by decide +kernel
theorem dX7_readStatement_75 : decode cX7_readStatement 75 = .ok (.aload_n 0, 1) := by decide +kernel
theorem dX7_readStatement_76 : decode cX7_readStatement 76 = .ok (.getfield 29, 3) := by decide +kernel
theorem dX7_readStatement_79 : decode cX7_readStatement 79 = .ok (.iload_n 1, 1) := by decide +kernel
theorem dX7_readStatement_80 : decode cX7_readStatement 80 = .ok (.iconst 2, 1) := by decide +kernel
theorem dX7_readStatement_81 : decode cX7_readStatement 81 = .ok (.iadd, 1) := by decide +kernel
theorem dX7_readStatement_82 : decode cX7_readStatement 82 = .ok (.aload_n 0, 1) := by decide +kernel
theorem dX7_readStatement_83 : decode cX7_readStatement 83 = .ok (.bipush 108, 2) := by decide +kernel
theorem dX7_readStatement_85 : decode cX7_readStatement 85 = .ok (.invokevirtual 107, 3) := by decide +kernel
theorem dX7_readStatement_88 : decode cX7_readStatement 88 = .ok (.ifCond .eq 10, 3) := by decide +kernel
theorem dX7_readStatement_91 : decode cX7_readStatement 91 = .ok (.aload_n 0, 1) := by decide +kernel
theorem dX7_readStatement_92 : decode cX7_readStatement 92 = .ok (.invokevirtual 94, 3) := by decide +kernel
theorem dX7_readStatement_95 : decode cX7_readStatement 95 = .ok (.goto 7, 3) := by decide +kernel
theorem dX7_readStatement_98 : decode cX7_readStatement 98 = .ok (.aload_n 0, 1) := by decide +kernel
theorem dX7_readStatement_99 : decode cX7_readStatement 99 = .ok (.getfield 70, 3) := by decide +kernel
theorem dX7_readStatement_47 : decode cX7_readStatement 47 = .ok (.aload_n 0, 1) := by decide +kernel
theorem dX7_readStatement_48 : decode cX7_readStatement 48 = .ok (.getfield 29, 3) := by decide +kernel
theorem dX7_readStatement_51 : decode cX7_readStatement 51 = .ok (.iload_n 1, 1) := by decide +kernel
theorem dX7_readStatement_52 : decode cX7_readStatement 52 = .ok (.iconst 1, 1) := by decide +kernel
theorem dX7_readStatement_53 : decode cX7_readStatement 53 = .ok (.iadd, 1) := by decide +kernel
theorem dX7_readStatement_54 : decode cX7_readStatement 54 = .ok (.aload_n 0, 1) := by decide +kernel
theorem dX7_readStatement_55 : decode cX7_readStatement 55 = .ok (.bipush 98, 2) := by decide +kernel
theorem dX7_readStatement_57 : decode cX7_readStatement 57 = .ok (.invokevirtual 107, 3) := by decide +kernel
theorem dX7_readStatement_60 : decode cX7_readStatement 60 = .ok (.ifCond .eq 10, 3) := by decide +kernel
theorem dX7_readStatement_63 : decode cX7_readStatement 63 = .ok (.aload_n 0, 1) := by decide +kernel
theorem dX7_readStatement_64 : decode cX7_readStatement 64 = .ok (.invokevirtual 104, 3) := by decide +kernel
theorem dX7_readStatement_67 : decode cX7_readStatement 67 = .ok (.goto 7, 3) := by decide +kernel
theorem dX7_readStatement_70 : decode cX7_readStatement 70 = .ok (.aload_n 0, 1) := by decide +kernel
theorem dX7_readStatement_71 : decode cX7_readStatement 71 = .ok (.getfield 13, 3) := by decide +kernel
theorem dX7_readStatement_26 : decode cX7_readStatement 26 = .ok (.aload_n 0, 1) := by decide +kernel
theorem dX7_readStatement_27 : decode cX7_readStatement 27 = .ok (.getfield 29, 3) := by decide +kernel
theorem dX7_readStatement_30 : decode cX7_readStatement 30 = .ok (.iload_n 1, 1) := by decide +kernel
theorem dX7_readStatement_31 : decode cX7_readStatement 31 = .ok (.aload_n 0, 1) := by decide +kernel
theorem dX7_readStatement_32 : decode cX7_readStatement 32 = .ok (.getfield 82, 3) := by decide +kernel
theorem dX7_readStatement_35 : decode cX7_readStatement 35 = .ok (.ifCond .eq 7, 3) := by decide +kernel
theorem dX7_readStatement_42 : decode cX7_readStatement 42 = .ok (.aload_n 0, 1) := by decide +kernel
theorem dX7_readStatement_43 : decode cX7_readStatement 43 = .ok (.invokevirtual 104, 3) := by decide +kernel
theorem dX7_readStatement_38 : decode cX7_readStatement 38 = .ok (.iconst 0, 1) := by decide +kernel
theorem dX7_readStatement_39 : decode cX7_readStatement 39 = .ok (.goto 7, 3) := by decide +kernel
set_option maxRecDepth 100000 in
theorem c_X7_readStatement (l : Launch) (D : va_G) (cy : Nat → Nat) (n : Nat) (ad : Nat → Nat) (F : Nat → va_E) (sz : Nat) (b : Stg) (ln tc : Int32) (co : Crs) (th bs en : Int32) (u : Int32 × Int32) (st kk dw ho : Int32) (sv : Crs) (pic ia tk : Int32) (hn : 68 ≤ n) (hM : F 56 = oModel ad b ln tc co th bs en u st kk dw ho sv pic ia tk) (pl : Nat → Int32) (h58 : F 58 = oInts cy 50 pl) (nu : Nat → Int32) (h59 : F 59 = oInts cy 200 nu) (rw0 : Nat → Int64) (h66 : F 66 = oLongs cy 800 rw0) (x0 zn : Nat) (hx0 : x0 + 100 ≤ 800) (hzn : zn ≤ 100) (hbs : bs = nI x0) (hen : en = nI zn) (hu : Gq (zn : Int) u) (hby : ∀ i, i < 100 → -128 ≤ (rw0 (x0 + i)).toInt32.toInt ∧ (rw0 (x0 + i)).toInt32.toInt ≤ 127) (j : Nat) (hj : j < 50) (hst0 : st = nI j) : Met l yX7_readStatement (zw yX7_readStatement cX7_readStatement 2 none) (rmL 3) (zPc D cy n ad F sz [.ref (ad 56)]) (va_Qv (fun F1 => F1 56 = oModel ad b ln tc co th bs en ((sStm (mch rw0 x0 zn) b u).2) (nI (j + 1)) kk dw ho sv pic ia tk ∧ F1 58 = oInts cy 50 (upd pl j u.1) ∧ F1 59 = oInts cy 200 (upd (upd (upd (upd nu (4 * j) (sStm (mch rw0 x0 zn) b u).1.1) (4 * j + 1) (sStm (mch rw0 x0 zn) b u).1.2.1) (4 * j + 2) (sStm (mch rw0 x0 zn) b u).1.2.2.1) (4 * j + 3) (sStm (mch rw0 x0 zn) b u).1.2.2.2) ∧ frP [56, 58, 59] F F1) (zB D n ad) (zA n ad sz)) 0 0 (zA n ad sz) := by
  refine zmet (by decide +kernel) (Nat.le_of_ble_eq_true rfl) (fun p e s m args below meth c ls hC hsz hZ hA hr hlocks hnm hl => ?_)
  have hC : zC p m c cX7_readStatement 2 s args RX7 D cy := hC
  have hx := hC.1.1
  have hb := hC.1.2.1
  have hl : lv_has ls 2 [(0, .ref (ad 56))] := hl
  subst hst0
  refine lv_iconst (v := 4) hx hb dX7_readStatement_0 (by decide) ?_
  refine lv_aload_n hx hb dX7_readStatement_1 rfl (lv_at hl 0 rfl) ?_
  refine zget hC hZ fX7_97 (zlt hn rfl) hM rfl dX7_readStatement_2 ?_
  refine lv_imul hx hb dX7_readStatement_5 ?_
  refine lv_istore_n (lv' := [(1, .int (4 * (nI j))), (0, .ref (ad 56))]) hx hb dX7_readStatement_6 rfl hl (by decide) rfl (fun ls hl => ?_)
  refine lv_aload_n hx hb dX7_readStatement_7 rfl (lv_at hl 1 rfl) ?_
  refine zget hC hZ fX7_26 (zlt hn rfl) hM rfl dX7_readStatement_8 ?_
  refine lv_aload_n hx hb dX7_readStatement_11 rfl (lv_at hl 1 rfl) ?_
  refine zget hC hZ fX7_97 (zlt hn rfl) hM rfl dX7_readStatement_12 ?_
  refine lv_aload_n hx hb dX7_readStatement_15 rfl (lv_at hl 1 rfl) ?_
  refine zget hC hZ fX7_73 (zlt hn rfl) hM rfl dX7_readStatement_16 ?_
  refine ziast hC hZ (zlt hn rfl) h58 rfl hj (by decide) dX7_readStatement_19 (fun F_1 hF_2 H locs hZ => ?_)
  have h_3 := zeq hF_2
  refine lv_aload_n hx hb dX7_readStatement_20 rfl (lv_at hl 1 rfl) ?_
  refine lv_bipush (v := 114) hx hb dX7_readStatement_21 (by decide) ?_
  refine zgov hZ hA (zrunV (As := [.int 114]) (rest := []) (k := 56) hC hZ (c_X7_take l D cy n ad F_1 H.size b ln tc co th bs en u (nI j) kk dw ho sv pic ia tk hn (zne hF_2 (by decide) hM) rw0 (zne hF_2 (by decide) h66) 114 x0 zn hx0 hzn hbs hen hu) mX7_take vX7_take kX7_100 (zRj_of rfl) (zlt hn rfl) (zne hF_2 (by decide) hM) rfl rfl hl.1 rfl (Nat.le_of_ble_eq_true rfl) dX7_readStatement_23 ⟨Nat.le_refl _, Nat.le_refl _⟩) (fun F_4 hp_6 H locs hZ => ?_)
  obtain ⟨y_7, hy_7⟩ : ∃ y, y = (sNeed (mch rw0 x0 zn) 114 u) := ⟨_, rfl⟩
  rw [← hy_7] at hp_6
  have hu_y_7 : Gq (zn : Int) y_7 := by rw [hy_7]; exact ((fun h1 h2 => adv_sNeed (g := 114) h1 (by decide) h2) (mch_PR hzn) hu).1
  have h_8 := zeq hp_6
  refine zjn (D := D) (A := zA n ad sz) (H0 := s.heap) (n := n) (ad := ad) (X := Int32 × Int32 × Int32) 46 (fun x => [.int x.1, .int (4 * nI j), .ref (ad 59)]) (fun x ls F1 => lv_has ls 2 [(1, .int (4 * nI j)), (0, .ref (ad 56))] ∧ x = sNum (mch rw0 x0 zn) y_7 ∧ F1 56 = oModel ad b ln tc co th bs en x.2 (nI j) kk dw ho sv pic ia tk ∧ F1 58 = oInts cy 50 (upd pl j u.1) ∧ F1 59 = oInts cy 200 nu ∧ F1 66 = oLongs cy 800 rw0 ∧ Gq (zn : Int) x.2 ∧ frP [56, 58, 59] F F1) ?_ ?_
  · intro w0 ls F5 H locs hZ hφ
    obtain ⟨hl, hw0, hk0, hp0, hq0, hr0, hu0, hfr0⟩ := hφ
    refine ziast hC hZ (zlt hn rfl) hq0 (nI_4 j) (by omega) (by decide) dX7_readStatement_46 (fun F_9 hF_10 H locs hZ => ?_)
    have h_11 := zeq hF_10
    refine zjn (D := D) (A := zA n ad sz) (H0 := s.heap) (n := n) (ad := ad) (X := Int32 × Int32 × Int32) 74 (fun x => [.int x.1, .int ((4 * nI j) + 1), .ref (ad 59)]) (fun x ls F1 => lv_has ls 2 [(1, .int (4 * nI j)), (0, .ref (ad 56))] ∧ x = sOpt (mch rw0 x0 zn) 98 true b.2.1 w0.2 ∧ F1 56 = oModel ad b ln tc co th bs en x.2 (nI j) kk dw ho sv pic ia tk ∧ F1 58 = oInts cy 50 (upd pl j u.1) ∧ F1 59 = oInts cy 200 (upd nu (4 * j) w0.1) ∧ F1 66 = oLongs cy 800 rw0 ∧ Gq (zn : Int) x.2 ∧ frP [56, 58, 59] F F1) ?_ ?_
    · intro w1 ls F6 H locs hZ hφ
      obtain ⟨hl, hw1, hk1, hp1, hq1, hr1, hu1, hfr1⟩ := hφ
      refine ziast hC hZ (zlt hn rfl) hq1 (by rw [nI_4]; exact nI_c _ 1 _ rfl) (by omega) (by decide) dX7_readStatement_74 (fun F_12 hF_13 H locs hZ => ?_)
      have h_14 := zeq hF_13
      refine zjn (D := D) (A := zA n ad sz) (H0 := s.heap) (n := n) (ad := ad) (X := Int32 × Int32 × Int32) 102 (fun x => [.int x.1, .int ((4 * nI j) + 2), .ref (ad 59)]) (fun x ls F1 => lv_has ls 2 [(1, .int (4 * nI j)), (0, .ref (ad 56))] ∧ x = sOpt (mch rw0 x0 zn) 108 false b.2.2.1 w1.2 ∧ F1 56 = oModel ad b ln tc co th bs en x.2 (nI j) kk dw ho sv pic ia tk ∧ F1 58 = oInts cy 50 (upd pl j u.1) ∧ F1 59 = oInts cy 200 (upd (upd nu (4 * j) w0.1) (4 * j + 1) w1.1) ∧ F1 66 = oLongs cy 800 rw0 ∧ Gq (zn : Int) x.2 ∧ frP [56, 58, 59] F F1) ?_ ?_
      · intro w2 ls F7 H locs hZ hφ
        obtain ⟨hl, hw2, hk2, hp2, hq2, hr2, hu2, hfr2⟩ := hφ
        refine ziast hC hZ (zlt hn rfl) hq2 (by rw [nI_4]; exact nI_c _ 2 _ rfl) (by omega) (by decide) dX7_readStatement_102 (fun F_15 hF_16 H locs hZ => ?_)
        have h_17 := zeq hF_16
        refine zjn (D := D) (A := zA n ad sz) (H0 := s.heap) (n := n) (ad := ad) (X := Int32 × Int32 × Int32) 130 (fun x => [.int x.1, .int ((4 * nI j) + 3), .ref (ad 59)]) (fun x ls F1 => lv_has ls 2 [(1, .int (4 * nI j)), (0, .ref (ad 56))] ∧ x = sOpt (mch rw0 x0 zn) 100 true b.2.2.2 w2.2 ∧ F1 56 = oModel ad b ln tc co th bs en x.2 (nI j) kk dw ho sv pic ia tk ∧ F1 58 = oInts cy 50 (upd pl j u.1) ∧ F1 59 = oInts cy 200 (upd (upd (upd nu (4 * j) w0.1) (4 * j + 1) w1.1) (4 * j + 2) w2.1) ∧ F1 66 = oLongs cy 800 rw0 ∧ Gq (zn : Int) x.2 ∧ frP [56, 58, 59] F F1) ?_ ?_
        · intro w3 ls F8 H locs hZ hφ
          obtain ⟨hl, hw3, hk3, hp3, hq3, hr3, hu3, hfr3⟩ := hφ
          refine ziast hC hZ (zlt hn rfl) hq3 (by rw [nI_4]; exact nI_c _ 3 _ rfl) (by omega) (by decide) dX7_readStatement_130 (fun F_18 hF_19 H locs hZ => ?_)
          have h_20 := zeq hF_19
          refine lv_aload_n hx hb dX7_readStatement_131 rfl (lv_at hl 1 rfl) ?_
          refine lv_bipush (v := 59) hx hb dX7_readStatement_132 (by decide) ?_
          refine zgov hZ hA (zrunV (As := [.int 59]) (rest := []) (k := 56) hC hZ (c_X7_take l D cy n ad F_18 H.size b ln tc co th bs en w3.2 (nI j) kk dw ho sv pic ia tk hn (zne hF_19 (by decide) hk3) rw0 (zne hF_19 (by decide) hr3) 59 x0 zn hx0 hzn hbs hen hu3) mX7_take vX7_take kX7_100 (zRj_of rfl) (zlt hn rfl) (zne hF_19 (by decide) hk3) rfl rfl hl.1 rfl (Nat.le_of_ble_eq_true rfl) dX7_readStatement_134 ⟨Nat.le_refl _, Nat.le_refl _⟩) (fun F_21 hp_23 H locs hZ => ?_)
          obtain ⟨y_24, hy_24⟩ : ∃ y, y = (sNeed (mch rw0 x0 zn) 59 w3.2) := ⟨_, rfl⟩
          rw [← hy_24] at hp_23
          have hu_y_24 : Gq (zn : Int) y_24 := by rw [hy_24]; exact ((fun h1 h2 => adv_sNeed (g := 59) h1 (by decide) h2) (mch_PR hzn) hu3).1
          have h_25 := zeq hp_23
          refine lv_aload_n hx hb dX7_readStatement_137 rfl (lv_at hl 1 rfl) ?_
          refine lv_dup hx hb dX7_readStatement_138 rfl ?_
          refine zget hC hZ fX7_97 (zlt hn rfl) h_25 rfl dX7_readStatement_139 ?_
          refine lv_iconst (v := 1) hx hb dX7_readStatement_142 (by decide) ?_
          refine lv_iadd hx hb dX7_readStatement_143 ?_
          refine zput (E := oModel ad b ln tc co th bs en y_24 ((nI j) + 1) kk dw ho sv pic ia tk) hC hZ pX7_97 (zlt hn rfl) h_25 rfl rfl rfl (Nat.le_of_ble_eq_true rfl) dX7_readStatement_144 (fun F_26 hF_27 H locs hZ => ?_)
          have h_28 := zeq hF_27
          have hst : (sStm (mch rw0 x0 zn) b u) = ((w0.1, w1.1, w2.1, w3.1), y_24) := by unfold sStm; dsimp only; rw [← hy_7, ← hw0, ← hw1, ← hw2, ← hw3, ← hy_24]
          have hj1 : nI j + 1 = nI (j + 1) := nI_1 j
          rw [hj1] at h_28
          exact zvret hC hZ hr hlocks (by rw [hst]; exact ⟨h_28, (zne hF_27 (by decide) (zne hp_23 (by decide) (zne hF_19 (by decide) hp3))), (zne hF_27 (by decide) (zne hp_23 (by decide) h_20)), (frP_up (frP_up (frP_up hfr3 hF_19 (by decide)) hp_23 (by decide)) hF_27 (by decide))⟩) dX7_readStatement_147
        · intro hjoin
          refine lv_aload_n hx hb dX7_readStatement_103 rfl (lv_at hl 1 rfl) ?_
          refine zget hC hZ fX7_29 (zlt hn rfl) (zne hF_16 (by decide) hk2) rfl dX7_readStatement_104 ?_
          refine lv_iload_n hx hb dX7_readStatement_107 rfl (lv_at hl 0 rfl) ?_
          refine lv_iconst (v := 3) hx hb dX7_readStatement_108 (by decide) ?_
          refine lv_iadd hx hb dX7_readStatement_109 ?_
          refine lv_aload_n hx hb dX7_readStatement_110 rfl (lv_at hl 1 rfl) ?_
          refine lv_bipush (v := 100) hx hb dX7_readStatement_111 (by decide) ?_
          refine zgoi hZ hA (zrunV (As := [.int 100]) (rest := [.int ((4 * nI j) + 3), .ref (ad 59)]) (k := 56) hC hZ (c_X7_hasLetter l D cy n ad F_15 H.size b ln tc co th bs en w2.2 (nI j) kk dw ho sv pic ia tk hn (zne hF_16 (by decide) hk2) rw0 (zne hF_16 (by decide) hr2) 100 x0 zn hx0 hzn hbs hen hu2) mX7_hasLetter vX7_hasLetter kX7_107 (zRj_of rfl) (zlt hn rfl) (zne hF_16 (by decide) hk2) rfl rfl hl.1 rfl (Nat.le_of_ble_eq_true rfl) dX7_readStatement_113 ⟨Nat.le_refl _, Nat.le_refl _⟩) (fun r_30 F_29 hp_31 H locs hZ => ?_)
          obtain ⟨h_32, hp_33⟩ := hp_31
          obtain ⟨y_34, hy_34⟩ : ∃ y, y = (sAcc (mch rw0 x0 zn) 100 w2.2) := ⟨_, rfl⟩
          rw [← hy_34] at hp_33
          have hu_y_34 : Gq (zn : Int) y_34 := by rw [hy_34]; exact ((fun h1 h2 => adv_sAcc (g := 100) h1 (by decide) h2) (mch_PR hzn) hu2).1
          have h_35 := zeq hp_33
          by_cases b_36 : bAcc (mch rw0 x0 zn) 100 w2.2
          · rw [if_pos b_36] at h_32
            subst h_32
            refine lv_if_eq (tgt := 126) hx hb dX7_readStatement_116 (by decide) (fun h => absurd (show (1 : Int32) = 0 from h) (by decide)) (fun _ => ?_)
            refine lv_aload_n hx hb dX7_readStatement_119 rfl (lv_at hl 1 rfl) ?_
            refine zgoi hZ hA (zrunV (As := []) (rest := [.int ((4 * nI j) + 3), .ref (ad 59)]) (k := 56) hC hZ (c_X7_readNumber l D cy n ad F_29 H.size b ln tc co th bs en y_34 (nI j) kk dw ho sv pic ia tk hn h_35 rw0 (zne hp_33 (by decide) (zne hF_16 (by decide) hr2)) x0 zn hx0 hzn hbs hen hu_y_34 hby) mX7_readNumber vX7_readNumber kX7_104 (zRj_of rfl) (zlt hn rfl) h_35 rfl rfl hl.1 rfl (Nat.le_of_ble_eq_true rfl) dX7_readStatement_120 ⟨Nat.le_refl _, Nat.le_refl _⟩) (fun r_38 F_37 hp_39 H locs hZ => ?_)
            obtain ⟨y_40, hy_40⟩ : ∃ y, y = (sNum (mch rw0 x0 zn) y_34) := ⟨_, rfl⟩
            rw [← hy_40] at hp_39
            have hu_y_40 : Gq (zn : Int) y_40.2 := by rw [hy_40]; exact (adv_sNum (mch_PR hzn) hu_y_34).1
            obtain ⟨rfl, hp_41⟩ := hp_39
            have h_42 := zeq hp_41
            refine lv_goto (tgt := 130) hx hb dX7_readStatement_123 (by decide) ?_
            exact hjoin (y_40.1, y_40.2) ls _ H locs hZ ⟨hl, (by rw [sOpt_posN b_36, ← hy_34, ← hy_40]), h_42, (zne hp_41 (by decide) (zne hp_33 (by decide) (zne hF_16 (by decide) hp2))), (zne hp_41 (by decide) (zne hp_33 (by decide) h_17)), (zne hp_41 (by decide) (zne hp_33 (by decide) (zne hF_16 (by decide) hr2))), hu_y_40, (frP_up (frP_up (frP_up hfr2 hF_16 (by decide)) hp_33 (by decide)) hp_41 (by decide))⟩
          · rw [if_neg b_36] at h_32
            subst h_32
            refine lv_if_eq (tgt := 126) hx hb dX7_readStatement_116 (by decide) (fun _ => ?_) (fun h => absurd (show (0 : Int32) = 0 by decide) h)
            refine lv_aload_n hx hb dX7_readStatement_126 rfl (lv_at hl 1 rfl) ?_
            refine zget hC hZ fX7_19 (zlt hn rfl) h_35 rfl dX7_readStatement_127 ?_
            exact hjoin (b.2.2.2, y_34) ls _ H locs hZ ⟨hl, (by rw [sOpt_neg b_36, hy_34, sAcc_neg b_36]), h_35, (zne hp_33 (by decide) (zne hF_16 (by decide) hp2)), (zne hp_33 (by decide) h_17), (zne hp_33 (by decide) (zne hF_16 (by decide) hr2)), hu_y_34, (frP_up (frP_up hfr2 hF_16 (by decide)) hp_33 (by decide))⟩
      · intro hjoin
        refine lv_aload_n hx hb dX7_readStatement_75 rfl (lv_at hl 1 rfl) ?_
        refine zget hC hZ fX7_29 (zlt hn rfl) (zne hF_13 (by decide) hk1) rfl dX7_readStatement_76 ?_
        refine lv_iload_n hx hb dX7_readStatement_79 rfl (lv_at hl 0 rfl) ?_
        refine lv_iconst (v := 2) hx hb dX7_readStatement_80 (by decide) ?_
        refine lv_iadd hx hb dX7_readStatement_81 ?_
        refine lv_aload_n hx hb dX7_readStatement_82 rfl (lv_at hl 1 rfl) ?_
        refine lv_bipush (v := 108) hx hb dX7_readStatement_83 (by decide) ?_
        refine zgoi hZ hA (zrunV (As := [.int 108]) (rest := [.int ((4 * nI j) + 2), .ref (ad 59)]) (k := 56) hC hZ (c_X7_hasLetter l D cy n ad F_12 H.size b ln tc co th bs en w1.2 (nI j) kk dw ho sv pic ia tk hn (zne hF_13 (by decide) hk1) rw0 (zne hF_13 (by decide) hr1) 108 x0 zn hx0 hzn hbs hen hu1) mX7_hasLetter vX7_hasLetter kX7_107 (zRj_of rfl) (zlt hn rfl) (zne hF_13 (by decide) hk1) rfl rfl hl.1 rfl (Nat.le_of_ble_eq_true rfl) dX7_readStatement_85 ⟨Nat.le_refl _, Nat.le_refl _⟩) (fun r_44 F_43 hp_45 H locs hZ => ?_)
        obtain ⟨h_46, hp_47⟩ := hp_45
        obtain ⟨y_48, hy_48⟩ : ∃ y, y = (sAcc (mch rw0 x0 zn) 108 w1.2) := ⟨_, rfl⟩
        rw [← hy_48] at hp_47
        have hu_y_48 : Gq (zn : Int) y_48 := by rw [hy_48]; exact ((fun h1 h2 => adv_sAcc (g := 108) h1 (by decide) h2) (mch_PR hzn) hu1).1
        have h_49 := zeq hp_47
        by_cases b_50 : bAcc (mch rw0 x0 zn) 108 w1.2
        · rw [if_pos b_50] at h_46
          subst h_46
          refine lv_if_eq (tgt := 98) hx hb dX7_readStatement_88 (by decide) (fun h => absurd (show (1 : Int32) = 0 from h) (by decide)) (fun _ => ?_)
          refine lv_aload_n hx hb dX7_readStatement_91 rfl (lv_at hl 1 rfl) ?_
          refine zgoi hZ hA (zrunV (As := []) (rest := [.int ((4 * nI j) + 2), .ref (ad 59)]) (k := 56) hC hZ (c_X7_readDigit l D cy n ad F_43 H.size b ln tc co th bs en y_48 (nI j) kk dw ho sv pic ia tk hn h_49 rw0 (zne hp_47 (by decide) (zne hF_13 (by decide) hr1)) x0 zn hx0 hzn hbs hen hu_y_48 hby) mX7_readDigit vX7_readDigit kX7_94 (zRj_of rfl) (zlt hn rfl) h_49 rfl rfl hl.1 rfl (Nat.le_of_ble_eq_true rfl) dX7_readStatement_92 ⟨Nat.le_refl _, Nat.le_refl _⟩) (fun r_52 F_51 hp_53 H locs hZ => ?_)
          obtain ⟨y_54, hy_54⟩ : ∃ y, y = (sDig (mch rw0 x0 zn) y_48) := ⟨_, rfl⟩
          rw [← hy_54] at hp_53
          have hu_y_54 : Gq (zn : Int) y_54.2 := by rw [hy_54]; exact (adv_sDig (mch_PR hzn) hu_y_48).1
          obtain ⟨rfl, hp_55⟩ := hp_53
          have h_56 := zeq hp_55
          refine lv_goto (tgt := 102) hx hb dX7_readStatement_95 (by decide) ?_
          exact hjoin (y_54.1, y_54.2) ls _ H locs hZ ⟨hl, (by rw [sOpt_posD b_50, ← hy_48, ← hy_54]), h_56, (zne hp_55 (by decide) (zne hp_47 (by decide) (zne hF_13 (by decide) hp1))), (zne hp_55 (by decide) (zne hp_47 (by decide) h_14)), (zne hp_55 (by decide) (zne hp_47 (by decide) (zne hF_13 (by decide) hr1))), hu_y_54, (frP_up (frP_up (frP_up hfr1 hF_13 (by decide)) hp_47 (by decide)) hp_55 (by decide))⟩
        · rw [if_neg b_50] at h_46
          subst h_46
          refine lv_if_eq (tgt := 98) hx hb dX7_readStatement_88 (by decide) (fun _ => ?_) (fun h => absurd (show (0 : Int32) = 0 by decide) h)
          refine lv_aload_n hx hb dX7_readStatement_98 rfl (lv_at hl 1 rfl) ?_
          refine zget hC hZ fX7_70 (zlt hn rfl) h_49 rfl dX7_readStatement_99 ?_
          exact hjoin (b.2.2.1, y_48) ls _ H locs hZ ⟨hl, (by rw [sOpt_neg b_50, hy_48, sAcc_neg b_50]), h_49, (zne hp_47 (by decide) (zne hF_13 (by decide) hp1)), (zne hp_47 (by decide) h_14), (zne hp_47 (by decide) (zne hF_13 (by decide) hr1)), hu_y_48, (frP_up (frP_up hfr1 hF_13 (by decide)) hp_47 (by decide))⟩
    · intro hjoin
      refine lv_aload_n hx hb dX7_readStatement_47 rfl (lv_at hl 1 rfl) ?_
      refine zget hC hZ fX7_29 (zlt hn rfl) (zne hF_10 (by decide) hk0) rfl dX7_readStatement_48 ?_
      refine lv_iload_n hx hb dX7_readStatement_51 rfl (lv_at hl 0 rfl) ?_
      refine lv_iconst (v := 1) hx hb dX7_readStatement_52 (by decide) ?_
      refine lv_iadd hx hb dX7_readStatement_53 ?_
      refine lv_aload_n hx hb dX7_readStatement_54 rfl (lv_at hl 1 rfl) ?_
      refine lv_bipush (v := 98) hx hb dX7_readStatement_55 (by decide) ?_
      refine zgoi hZ hA (zrunV (As := [.int 98]) (rest := [.int ((4 * nI j) + 1), .ref (ad 59)]) (k := 56) hC hZ (c_X7_hasLetter l D cy n ad F_9 H.size b ln tc co th bs en w0.2 (nI j) kk dw ho sv pic ia tk hn (zne hF_10 (by decide) hk0) rw0 (zne hF_10 (by decide) hr0) 98 x0 zn hx0 hzn hbs hen hu0) mX7_hasLetter vX7_hasLetter kX7_107 (zRj_of rfl) (zlt hn rfl) (zne hF_10 (by decide) hk0) rfl rfl hl.1 rfl (Nat.le_of_ble_eq_true rfl) dX7_readStatement_57 ⟨Nat.le_refl _, Nat.le_refl _⟩) (fun r_58 F_57 hp_59 H locs hZ => ?_)
      obtain ⟨h_60, hp_61⟩ := hp_59
      obtain ⟨y_62, hy_62⟩ : ∃ y, y = (sAcc (mch rw0 x0 zn) 98 w0.2) := ⟨_, rfl⟩
      rw [← hy_62] at hp_61
      have hu_y_62 : Gq (zn : Int) y_62 := by rw [hy_62]; exact ((fun h1 h2 => adv_sAcc (g := 98) h1 (by decide) h2) (mch_PR hzn) hu0).1
      have h_63 := zeq hp_61
      by_cases b_64 : bAcc (mch rw0 x0 zn) 98 w0.2
      · rw [if_pos b_64] at h_60
        subst h_60
        refine lv_if_eq (tgt := 70) hx hb dX7_readStatement_60 (by decide) (fun h => absurd (show (1 : Int32) = 0 from h) (by decide)) (fun _ => ?_)
        refine lv_aload_n hx hb dX7_readStatement_63 rfl (lv_at hl 1 rfl) ?_
        refine zgoi hZ hA (zrunV (As := []) (rest := [.int ((4 * nI j) + 1), .ref (ad 59)]) (k := 56) hC hZ (c_X7_readNumber l D cy n ad F_57 H.size b ln tc co th bs en y_62 (nI j) kk dw ho sv pic ia tk hn h_63 rw0 (zne hp_61 (by decide) (zne hF_10 (by decide) hr0)) x0 zn hx0 hzn hbs hen hu_y_62 hby) mX7_readNumber vX7_readNumber kX7_104 (zRj_of rfl) (zlt hn rfl) h_63 rfl rfl hl.1 rfl (Nat.le_of_ble_eq_true rfl) dX7_readStatement_64 ⟨Nat.le_refl _, Nat.le_refl _⟩) (fun r_66 F_65 hp_67 H locs hZ => ?_)
        obtain ⟨y_68, hy_68⟩ : ∃ y, y = (sNum (mch rw0 x0 zn) y_62) := ⟨_, rfl⟩
        rw [← hy_68] at hp_67
        have hu_y_68 : Gq (zn : Int) y_68.2 := by rw [hy_68]; exact (adv_sNum (mch_PR hzn) hu_y_62).1
        obtain ⟨rfl, hp_69⟩ := hp_67
        have h_70 := zeq hp_69
        refine lv_goto (tgt := 74) hx hb dX7_readStatement_67 (by decide) ?_
        exact hjoin (y_68.1, y_68.2) ls _ H locs hZ ⟨hl, (by rw [sOpt_posN b_64, ← hy_62, ← hy_68]), h_70, (zne hp_69 (by decide) (zne hp_61 (by decide) (zne hF_10 (by decide) hp0))), (zne hp_69 (by decide) (zne hp_61 (by decide) h_11)), (zne hp_69 (by decide) (zne hp_61 (by decide) (zne hF_10 (by decide) hr0))), hu_y_68, (frP_up (frP_up (frP_up hfr0 hF_10 (by decide)) hp_61 (by decide)) hp_69 (by decide))⟩
      · rw [if_neg b_64] at h_60
        subst h_60
        refine lv_if_eq (tgt := 70) hx hb dX7_readStatement_60 (by decide) (fun _ => ?_) (fun h => absurd (show (0 : Int32) = 0 by decide) h)
        refine lv_aload_n hx hb dX7_readStatement_70 rfl (lv_at hl 1 rfl) ?_
        refine zget hC hZ fX7_13 (zlt hn rfl) h_63 rfl dX7_readStatement_71 ?_
        exact hjoin (b.2.1, y_62) ls _ H locs hZ ⟨hl, (by rw [sOpt_neg b_64, hy_62, sAcc_neg b_64]), h_63, (zne hp_61 (by decide) (zne hF_10 (by decide) hp0)), (zne hp_61 (by decide) h_11), (zne hp_61 (by decide) (zne hF_10 (by decide) hr0)), hu_y_62, (frP_up (frP_up hfr0 hF_10 (by decide)) hp_61 (by decide))⟩
  · intro hjoin
    refine lv_aload_n hx hb dX7_readStatement_26 rfl (lv_at hl 1 rfl) ?_
    refine zget hC hZ fX7_29 (zlt hn rfl) h_8 rfl dX7_readStatement_27 ?_
    refine lv_iload_n hx hb dX7_readStatement_30 rfl (lv_at hl 0 rfl) ?_
    refine lv_aload_n hx hb dX7_readStatement_31 rfl (lv_at hl 1 rfl) ?_
    refine zget hC hZ fX7_82 (zlt hn rfl) h_8 rfl dX7_readStatement_32 ?_
    refine lv_if_eq (tgt := 42) hx hb dX7_readStatement_35 (by decide) (fun c_35 => ?_) (fun c_35 => ?_)
    · refine lv_aload_n hx hb dX7_readStatement_42 rfl (lv_at hl 1 rfl) ?_
      refine zgoi hZ hA (zrunV (As := []) (rest := [.int (4 * (nI j)), .ref (ad 59)]) (k := 56) hC hZ (c_X7_readNumber l D cy n ad F_4 H.size b ln tc co th bs en y_7 (nI j) kk dw ho sv pic ia tk hn h_8 rw0 (zne hp_6 (by decide) (zne hF_2 (by decide) h66)) x0 zn hx0 hzn hbs hen hu_y_7 hby) mX7_readNumber vX7_readNumber kX7_104 (zRj_of rfl) (zlt hn rfl) h_8 rfl rfl hl.1 rfl (Nat.le_of_ble_eq_true rfl) dX7_readStatement_43 ⟨Nat.le_refl _, Nat.le_refl _⟩) (fun r_72 F_71 hp_73 H locs hZ => ?_)
      obtain ⟨y_74, hy_74⟩ : ∃ y, y = (sNum (mch rw0 x0 zn) y_7) := ⟨_, rfl⟩
      rw [← hy_74] at hp_73
      have hu_y_74 : Gq (zn : Int) y_74.2 := by rw [hy_74]; exact (adv_sNum (mch_PR hzn) hu_y_7).1
      obtain ⟨rfl, hp_75⟩ := hp_73
      have h_76 := zeq hp_75
      exact hjoin (y_74.1, y_74.2) ls _ H locs hZ ⟨hl, (by rw [← hy_74]), h_76, (zne hp_75 (by decide) (zne hp_6 (by decide) h_3)), (zne hp_75 (by decide) (zne hp_6 (by decide) (zne hF_2 (by decide) h59))), (zne hp_75 (by decide) (zne hp_6 (by decide) (zne hF_2 (by decide) h66))), hu_y_74, (frP_up (frP_up (frP_up frP_rf hF_2 (by decide)) hp_6 (by decide)) hp_75 (by decide))⟩
    · refine lv_iconst (v := 0) hx hb dX7_readStatement_38 (by decide) ?_
      refine lv_goto (tgt := 46) hx hb dX7_readStatement_39 (by decide) ?_
      exact hjoin (0, y_7) ls _ H locs hZ ⟨hl, (by have hb9 := sNum_bad (ch := (mch rw0 x0 zn)) (q := y_7) c_35; rw [hb9]; have h19 : y_7.2 = 1 := (by rw [hy_7] at c_35 ⊢; exact sNeed_bad c_35); rw [← h19]), h_8, (zne hp_6 (by decide) h_3), (zne hp_6 (by decide) (zne hF_2 (by decide) h59)), (zne hp_6 (by decide) (zne hF_2 (by decide) h66)), hu_y_7, (frP_up (frP_up frP_rf hF_2 (by decide)) hp_6 (by decide))⟩
