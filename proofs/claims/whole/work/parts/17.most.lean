theorem zi10 (a : Nat) : nI (10 * a) + Int32.ofInt 10 = nI (10 * (a + 1)) := by
  have h : Int32.ofInt 10 = nI 10 := by decide
  rw [h, nI_add]; rfl
theorem zgt100 {a : Nat} (ha : a ≤ 1000) (h : ¬ 100 < nI (10 * a)) : a ≤ 10 := by
  rcases Nat.lt_or_ge 10 a with q | q
  · exact absurd (nI_lt (a := 100) (b := 10 * a) (by omega) (by omega)) h
  · exact q
theorem zgt100' {a : Nat} (ha : a ≤ 11) (h : 100 < nI (10 * a)) : a = 11 := by
  rcases Nat.lt_or_ge a 11 with q | q
  · exact absurd h (nI_nlt (a := 100) (b := 10 * a) (by omega) (by omega))
  · omega
theorem sMostB_e {s : Stg} {a b : Nat} {v : Int32 × Int32} (hb : b < 11) (hv : v = s.2.2) : (nI (10 * a), nI (10 * b), v.1, v.2) = sMostB s (11 * a + b) := by
  unfold sMostB
  rw [show (11 * a + b) / 11 = a by omega, show (11 * a + b) % 11 = b by omega, ← hv]
theorem sMostF_p {t : Tal} {s : Stg} {a b : Nat} {bb : Stg} {p : Int32 × Int32} (hb : b < 11) (h : bb = sMostB s (11 * a + b)) (hp : p.1 < sArchAt t bb 0) : (sArchAt t bb 0, nI (10 * a) * 1000 + nI (10 * b)) = sMostF t s (11 * a + b) p := by
  unfold sMostF
  rw [← h, if_pos hp, show (11 * a + b) / 11 = a by omega, show (11 * a + b) % 11 = b by omega]
theorem sMostF_n {t : Tal} {s : Stg} {k : Nat} {bb : Stg} {p : Int32 × Int32} (h : bb = sMostB s k) (hp : ¬ p.1 < sArchAt t bb 0) : p = sMostF t s k p := by
  unfold sMostF
  rw [← h, if_neg hp]
theorem sLayF_p {t : Tal} {s : Stg} {k : Nat} {bb : Stg} {p : Int32 × Int32} (h : bb = sLayB s k) (hp : p.1 < sArchAt t bb 0) : (sArchAt t bb 0, nI k) = sLayF t s k p := by
  unfold sLayF
  rw [← h, if_pos hp]
theorem sLayF_n {t : Tal} {s : Stg} {k : Nat} {bb : Stg} {p : Int32 × Int32} (h : bb = sLayB s k) (hp : ¬ p.1 < sArchAt t bb 0) : p = sLayF t s k p := by
  unfold sLayF
  rw [← h, if_neg hp]

theorem mX6_most : zMd yX6_most cX6_most 8 (some .int) 1 := ⟨by decide +kernel, gt_of 500 (by decide +kernel) rfl, gt_of 45 (by decide +kernel) rfl, by decide⟩
theorem dX6_most_0 : decode cX6_most 0 = .ok (.aload_n 0, 1) := by decide +kernel
theorem dX6_most_1 : decode cX6_most 1 = .ok (.iload_n 1, 1) := by decide +kernel
theorem dX6_most_2 : decode cX6_most 2 = .ok (.invokevirtual 157, 3) := by decide +kernel
theorem dX6_most_5 : decode cX6_most 5 = .ok (.istore_n 2, 1) := by decide +kernel
theorem dX6_most_6 : decode cX6_most 6 = .ok (.iload_n 2, 1) := by decide +kernel
theorem dX6_most_7 : decode cX6_most 7 = .ok (.ifCond .eq 5, 3) := by decide +kernel
theorem dX6_most_12 : decode cX6_most 12 = .ok (.bipush (-4), 2) := by decide +kernel
theorem dX6_most_14 : decode cX6_most 14 = .ok (.istore_n 3, 1) := by decide +kernel
theorem dX6_most_15 : decode cX6_most 15 = .ok (.bipush (-4), 2) := by decide +kernel
theorem dX6_most_17 : decode cX6_most 17 = .ok (.istore 4, 2) := by decide +kernel
theorem dX6_most_19 : decode cX6_most 19 = .ok (.aload_n 0, 1) := by decide +kernel
theorem dX6_most_20 : decode cX6_most 20 = .ok (.getfield 40, 3) := by decide +kernel
theorem fX6_40 : zFld RX6 40 6 5 := ⟨RX6, TX6, 9, rfl, inX6, by decide, rfl, Or.inl (gt_of 233 (by decide +kernel) rfl)⟩
theorem dX6_most_23 : decode cX6_most 23 = .ok (.aload_n 0, 1) := by decide +kernel
theorem dX6_most_24 : decode cX6_most 24 = .ok (.getfield 10, 3) := by decide +kernel
theorem dX6_most_27 : decode cX6_most 27 = .ok (.getfield 93, 3) := by decide +kernel
theorem dX6_most_30 : decode cX6_most 30 = .ok (.invokevirtual 239, 3) := by decide +kernel
theorem kX6_239 : zLk RX6 239 yX3_take := Or.inl (gt_of 501 (by decide +kernel) rfl)
theorem dX6_most_33 : decode cX6_most 33 = .ok (.iconst 0, 1) := by decide +kernel
theorem dX6_most_34 : decode cX6_most 34 = .ok (.istore 5, 2) := by decide +kernel
theorem dX6_most_36 : decode cX6_most 36 = .ok (.iload 5, 2) := by decide +kernel
theorem dX6_most_38 : decode cX6_most 38 = .ok (.bipush 100, 2) := by decide +kernel
theorem dX6_most_40 : decode cX6_most 40 = .ok (.if_icmp .gt 81, 3) := by decide +kernel
theorem dX6_most_121 : decode cX6_most 121 = .ok (.iload 4, 2) := by decide +kernel
theorem dX6_most_123 : decode cX6_most 123 = .ok (.ireturn, 1) := by decide +kernel
theorem dX6_most_43 : decode cX6_most 43 = .ok (.iconst 0, 1) := by decide +kernel
theorem dX6_most_44 : decode cX6_most 44 = .ok (.istore 6, 2) := by decide +kernel
theorem dX6_most_46 : decode cX6_most 46 = .ok (.iload 6, 2) := by decide +kernel
theorem dX6_most_48 : decode cX6_most 48 = .ok (.bipush 100, 2) := by decide +kernel
theorem dX6_most_50 : decode cX6_most 50 = .ok (.if_icmp .gt 65, 3) := by decide +kernel
theorem dX6_most_115 : decode cX6_most 115 = .ok (.iinc 5 10, 3) := by decide +kernel
theorem dX6_most_118 : decode cX6_most 118 = .ok (.goto (-82), 3) := by decide +kernel
theorem dX6_most_53 : decode cX6_most 53 = .ok (.aload_n 0, 1) := by decide +kernel
theorem dX6_most_54 : decode cX6_most 54 = .ok (.getfield 40, 3) := by decide +kernel
theorem dX6_most_57 : decode cX6_most 57 = .ok (.iload 5, 2) := by decide +kernel
theorem dX6_most_59 : decode cX6_most 59 = .ok (.putfield 96, 3) := by decide +kernel
theorem dX6_most_62 : decode cX6_most 62 = .ok (.aload_n 0, 1) := by decide +kernel
theorem dX6_most_63 : decode cX6_most 63 = .ok (.getfield 40, 3) := by decide +kernel
theorem dX6_most_66 : decode cX6_most 66 = .ok (.iload 6, 2) := by decide +kernel
theorem dX6_most_68 : decode cX6_most 68 = .ok (.putfield 99, 3) := by decide +kernel
theorem dX6_most_71 : decode cX6_most 71 = .ok (.aload_n 0, 1) := by decide +kernel
theorem dX6_most_72 : decode cX6_most 72 = .ok (.getfield 25, 3) := by decide +kernel
theorem dX6_most_75 : decode cX6_most 75 = .ok (.iload_n 1, 1) := by decide +kernel
theorem dX6_most_76 : decode cX6_most 76 = .ok (.aaload, 1) := by decide +kernel
theorem dX6_most_77 : decode cX6_most 77 = .ok (.getfield 160, 3) := by decide +kernel
theorem dX6_most_80 : decode cX6_most 80 = .ok (.aload_n 0, 1) := by decide +kernel
theorem dX6_most_81 : decode cX6_most 81 = .ok (.getfield 40, 3) := by decide +kernel
theorem dX6_most_84 : decode cX6_most 84 = .ok (.invokevirtual 202, 3) := by decide +kernel
theorem dX6_most_87 : decode cX6_most 87 = .ok (.istore 7, 2) := by decide +kernel
theorem dX6_most_89 : decode cX6_most 89 = .ok (.iload 7, 2) := by decide +kernel
theorem dX6_most_91 : decode cX6_most 91 = .ok (.iload_n 3, 1) := by decide +kernel
theorem dX6_most_92 : decode cX6_most 92 = .ok (.if_icmp .le 17, 3) := by decide +kernel
theorem dX6_most_109 : decode cX6_most 109 = .ok (.iinc 6 10, 3) := by decide +kernel
theorem dX6_most_112 : decode cX6_most 112 = .ok (.goto (-66), 3) := by decide +kernel
theorem dX6_most_95 : decode cX6_most 95 = .ok (.iload 7, 2) := by decide +kernel
theorem dX6_most_97 : decode cX6_most 97 = .ok (.istore_n 3, 1) := by decide +kernel
theorem dX6_most_98 : decode cX6_most 98 = .ok (.iload 5, 2) := by decide +kernel
theorem dX6_most_100 : decode cX6_most 100 = .ok (.sipush 1000, 3) := by decide +kernel
theorem dX6_most_103 : decode cX6_most 103 = .ok (.imul, 1) := by decide +kernel
theorem dX6_most_104 : decode cX6_most 104 = .ok (.iload 6, 2) := by decide +kernel
theorem dX6_most_106 : decode cX6_most 106 = .ok (.iadd, 1) := by decide +kernel
theorem dX6_most_107 : decode cX6_most 107 = .ok (.istore 4, 2) := by decide +kernel
theorem dX6_most_10 : decode cX6_most 10 = .ok (.iload_n 2, 1) := by decide +kernel
theorem dX6_most_11 : decode cX6_most 11 = .ok (.ireturn, 1) := by decide +kernel
set_option maxRecDepth 100000 in
theorem c_X6_most (l : Launch) (D : va_G) (cy : Nat → Nat) (n : Nat) (ad : Nat → Nat) (F : Nat → va_E) (sz : Nat) (pic : Int32) (sc ps : Scn) (sh : Nat → Shf) (rd : Rdr) (dr : Stg) (fa : Tal) (mi : Crs) (hn : 56 ≤ n) (hX : RX ad cy F pic sc ps sh rd dr fa mi) (hG : gX sc ps sh) (d : Int32) : Met l yX6_most (zw yX6_most cX6_most 8 (some .int)) (rmL 5) (zPc D cy n ad F sz [.ref (ad 0), .int d]) (va_Qi (fun r F1 => r = zr True (sStR sh d) (sMost (sh (iN d)).2.1 sc.1) ∧ ∃ dr1, RX ad cy F1 pic sc ps sh rd dr1 fa mi ∧ fr56 F F1) (zB D n ad) (zA n ad sz)) 0 0 (zA n ad sz) := by
  refine zmet (by decide +kernel) (Nat.le_of_ble_eq_true rfl) (fun p e s m args below meth c ls hC hsz hZ hA hr hlocks hnm hl => ?_)
  have hC : zC p m c cX6_most 8 s args RX6 D cy := hC
  have hx := hC.1.1
  have hb := hC.1.2.1
  have hl : lv_has ls 8 [(0, .ref (ad 0)), (1, .int d)] := hl
  refine lv_aload_n hx hb dX6_most_0 rfl (lv_at hl 0 rfl) ?_
  refine lv_iload_n hx hb dX6_most_1 rfl (lv_at hl 1 rfl) ?_
  refine zgoi hZ hA (zrunV (As := [.int d]) (rest := []) (k := 0) hC hZ (c_X6_storyRefusal l D cy n ad F s.heap.size pic sc ps sh rd dr fa mi hn hX d) mX6_storyRefusal vX6_storyRefusal kX6_157 (zRj_of rfl) (zlt hn rfl) hX.1 rfl rfl hl.1 rfl (Nat.le_of_ble_eq_true rfl) dX6_most_2 ⟨Nat.le_refl _, Nat.le_refl _⟩) (fun r_2 F_1 hp_3 H locs hZ => ?_)
  obtain ⟨rfl, rfl⟩ := hp_3
  refine lv_istore_n (lv' := [(2, .int (sStR sh d)), (0, .ref (ad 0)), (1, .int d)]) hx hb dX6_most_5 rfl hl (by decide) rfl (fun ls hl => ?_)
  refine lv_iload_n hx hb dX6_most_6 rfl (lv_at hl 0 rfl) ?_
  refine lv_if_eq (tgt := 12) hx hb dX6_most_7 (by decide) (fun c_7 => ?_) (fun c_7 => ?_)
  · refine lv_bipush (v := (-4)) hx hb dX6_most_12 (by decide) ?_
    refine lv_istore_n (lv' := [(3, .int (-4)), (2, .int (sStR sh d)), (0, .ref (ad 0)), (1, .int d)]) hx hb dX6_most_14 rfl hl (by decide) rfl (fun ls hl => ?_)
    refine lv_bipush (v := (-4)) hx hb dX6_most_15 (by decide) ?_
    refine lv_istore (lv' := [(4, .int (-4)), (3, .int (-4)), (2, .int (sStR sh d)), (0, .ref (ad 0)), (1, .int d)]) hx hb dX6_most_17 hl (by decide) rfl (fun ls hl => ?_)
    refine lv_aload_n hx hb dX6_most_19 rfl (lv_at hl 3 rfl) ?_
    refine zget hC hZ fX6_40 (zlt hn rfl) hX.1 rfl dX6_most_20 ?_
    refine lv_aload_n hx hb dX6_most_23 rfl (lv_at hl 3 rfl) ?_
    refine zget hC hZ fX6_10 (zlt hn rfl) hX.1 rfl dX6_most_24 ?_
    refine zget hC hZ fX6_93 (zlt hn rfl) hX.2.1.1 rfl dX6_most_27 ?_
    refine zgov hZ hA (zrunV (As := [.ref (ad 2)]) (rest := []) (k := 52) hC hZ (c_X3_take l D cy n ad F H.size 52 dr (zlt hn rfl) hX.2.2.2.2.2.2.1 2 sc.1 (zlt hn rfl) hX.2.1.2.1 (by decide)) mX3_take vX3_take kX6_239 (zRj_of rfl) (zlt hn rfl) hX.2.2.2.2.2.2.1 rfl rfl hl.1 rfl (Nat.le_of_ble_eq_true rfl) dX6_most_30 ⟨Nat.le_refl _, Nat.le_refl _⟩) (fun F_4 hp_6 H locs hZ => ?_)
    have hX_7 := rx_draft hX hp_6
    have hf_8 := fr56_up fr56_rf hp_6 (by decide)
    have hX_7 : RX ad cy F_4 pic sc ps sh rd sc.1 fa mi := hX_7
    refine lv_iconst (v := 0) hx hb dX6_most_33 (by decide) ?_
    refine lv_istore (lv' := [(5, .int 0), (4, .int (-4)), (3, .int (-4)), (2, .int (sStR sh d)), (0, .ref (ad 0)), (1, .int d)]) hx hb dX6_most_34 hl (by decide) rfl (fun ls hl => ?_)
    have hs_9 := sStR_0 c_7
    refine zlp (X := Nat × (Int32 × Int32) × Stg) 36 (fun _ => []) (fun x ls F1 => lv_has ls 8 [(5, .int (nI (10 * x.1))), (4, .int x.2.1.2), (3, .int x.2.1.1), (2, .int (sStR sh d)), (0, .ref (ad 0)), (1, .int d)] ∧ RX ad cy F1 pic sc ps sh rd x.2.2 fa mi ∧ fr56 F F1 ∧ (x.1 ≤ 11) ∧ (x.2.1 = zfold (sMostF (sh (iN d)).2.1 sc.1) (11 * x.1) (-4, -4)) ∧ (x.2.2.2.2 = sc.1.2.2)) (fun x => 11 - x.1) ?_ (0, (-4, -4), sc.1) hZ ⟨hl, hX_7, hf_8, (Nat.zero_le _), rfl, rfl⟩
    intro x ih36 ls F3_36 H locs hZ hφ
    obtain ⟨a, pp, dv⟩ := x
    obtain ⟨hl, hXl, hfl36, ha, hp, hdv⟩ := hφ
    have hl : lv_has ls 8 [(5, .int (nI (10 * a))), (4, .int pp.2), (3, .int pp.1), (2, .int (sStR sh d)), (0, .ref (ad 0)), (1, .int d)] := hl
    have hX36 : RX ad cy F3_36 pic sc ps sh rd dv fa mi := hXl
    have ha : a ≤ 11 := ha
    have hp : pp = zfold (sMostF (sh (iN d)).2.1 sc.1) (11 * a) (-4, -4) := hp
    have hdv : dv.2.2 = sc.1.2.2 := hdv
    refine lv_iload hx hb dX6_most_36 (lv_at hl 0 rfl) ?_
    refine lv_bipush (v := 100) hx hb dX6_most_38 (by decide) ?_
    refine lv_icmp_gt (tgt := 121) hx hb dX6_most_40 (by decide) (fun c_40 => ?_) (fun c_40 => ?_)
    · refine lv_iload hx hb dX6_most_121 (lv_at hl 1 rfl) ?_
      have ha11 : a = 11 := zgt100' ha c_40
      have hv_11 : pp.2 = sMost (sh (iN d)).2.1 sc.1 := by unfold sMost; rw [hp, ha11]
      have hq_10 : pp.2 = zr (True) (sStR sh d) (sMost (sh (iN d)).2.1 sc.1) := hv_11.trans (zr_ok trivial c_7).symm
      exact zireti hC hZ hr hlocks ⟨hq_10, dv, hX36, hfl36⟩ dX6_most_123
    · refine lv_iconst (v := 0) hx hb dX6_most_43 (by decide) ?_
      refine lv_istore (lv' := [(6, .int 0), (5, .int (nI (10 * a))), (4, .int pp.2), (3, .int pp.1), (2, .int (sStR sh d)), (0, .ref (ad 0)), (1, .int d)]) hx hb dX6_most_44 hl (by decide) rfl (fun ls hl => ?_)
      refine zlp (X := Nat × (Int32 × Int32) × Stg) 46 (fun _ => []) (fun x ls F1 => lv_has ls 8 [(6, .int (nI (10 * x.1))), (5, .int (nI (10 * a))), (4, .int x.2.1.2), (3, .int x.2.1.1), (2, .int (sStR sh d)), (0, .ref (ad 0)), (1, .int d)] ∧ RX ad cy F1 pic sc ps sh rd x.2.2 fa mi ∧ fr56 F F1 ∧ (x.1 ≤ 11) ∧ (x.2.1 = zfold (sMostF (sh (iN d)).2.1 sc.1) (11 * a + x.1) (-4, -4)) ∧ (x.2.2.2.2 = sc.1.2.2)) (fun x => 11 - x.1) ?_ (0, pp, dv) hZ ⟨hl, hX36, hfl36, (Nat.zero_le _), hp, hdv⟩
      intro x ih46 ls F3_46 H locs hZ hφ
      obtain ⟨b, qq, ev⟩ := x
      obtain ⟨hl, hXl, hfl46, hb0, hq, hev⟩ := hφ
      have hl : lv_has ls 8 [(6, .int (nI (10 * b))), (5, .int (nI (10 * a))), (4, .int qq.2), (3, .int qq.1), (2, .int (sStR sh d)), (0, .ref (ad 0)), (1, .int d)] := hl
      have hX46 : RX ad cy F3_46 pic sc ps sh rd ev fa mi := hXl
      have hb0 : b ≤ 11 := hb0
      have hq : qq = zfold (sMostF (sh (iN d)).2.1 sc.1) (11 * a + b) (-4, -4) := hq
      have hev : ev.2.2 = sc.1.2.2 := hev
      refine lv_iload hx hb dX6_most_46 (lv_at hl 0 rfl) ?_
      refine lv_bipush (v := 100) hx hb dX6_most_48 (by decide) ?_
      refine lv_icmp_gt (tgt := 115) hx hb dX6_most_50 (by decide) (fun c_50 => ?_) (fun c_50 => ?_)
      · refine lv_iinc (v := nI (10 * (a + 1))) (lv' := [(5, .int (nI (10 * (a + 1)))), (6, .int (nI (10 * b))), (4, .int qq.2), (3, .int qq.1), (2, .int (sStR sh d)), (0, .ref (ad 0)), (1, .int d)]) hx hb dX6_most_115 hl (k := 1) rfl (zi10 a) (by decide) rfl (fun ls hl => ?_)
        refine lv_goto (tgt := 36) hx hb dX6_most_118 (by decide) ?_
        have hb11 : b = 11 := zgt100' hb0 c_50
        have ha10 : a ≤ 10 := zgt100 (by omega) c_40
        exact ih36 ((a + 1), qq, ev) ls _ H locs (by show 11 - (a + 1) < 11 - a; omega) hZ ⟨(lv_sub hl [0, 2, 3, 4, 5, 6] rfl), hX46, hfl46, (by omega), (by rw [hq, hb11]; rfl), hev⟩
      · refine lv_aload_n hx hb dX6_most_53 rfl (lv_at hl 5 rfl) ?_
        refine zget hC hZ fX6_40 (zlt hn rfl) hX46.1 rfl dX6_most_54 ?_
        refine lv_iload hx hb dX6_most_57 (lv_at hl 1 rfl) ?_
        refine zput (E := oSetting (nI (10 * a), ev.2.1, ev.2.2.1, ev.2.2.2)) hC hZ pX6_96 (zlt hn rfl) hX46.2.2.2.2.2.2.1 rfl rfl rfl (Nat.le_of_ble_eq_true rfl) dX6_most_59 (fun F_12 hF_13 H locs hZ => ?_)
        have hX_14 := rx_draft hX46 hF_13
        have hf_15 := fr56_up hfl46 hF_13 (by decide)
        have hX_14 : RX ad cy F_12 pic sc ps sh rd (nI (10 * a), ev.2.1, ev.2.2.1, ev.2.2.2) fa mi := hX_14
        refine lv_aload_n hx hb dX6_most_62 rfl (lv_at hl 5 rfl) ?_
        refine zget hC hZ fX6_40 (zlt hn rfl) hX_14.1 rfl dX6_most_63 ?_
        refine lv_iload hx hb dX6_most_66 (lv_at hl 0 rfl) ?_
        refine zput (E := oSetting ((nI (10 * a)), nI (10 * b), ev.2.2.1, ev.2.2.2)) hC hZ pX6_99 (zlt hn rfl) hX_14.2.2.2.2.2.2.1 rfl rfl rfl (Nat.le_of_ble_eq_true rfl) dX6_most_68 (fun F_16 hF_17 H locs hZ => ?_)
        have hX_18 := rx_draft hX_14 hF_17
        have hf_19 := fr56_up hf_15 hF_17 (by decide)
        have hX_18 : RX ad cy F_16 pic sc ps sh rd ((nI (10 * a)), nI (10 * b), ev.2.2.1, ev.2.2.2) fa mi := hX_18
        have hb10 : b ≤ 10 := zgt100 (by omega) c_50
        have ha10 : a ≤ 10 := zgt100 (by omega) c_40
        obtain ⟨bb, hbb⟩ : ∃ y : Stg, y = ((nI (10 * a)), nI (10 * b), ev.2.2.1, ev.2.2.2) := ⟨_, rfl⟩
        have hbm : bb = sMostB sc.1 (11 * a + b) := by rw [hbb]; exact sMostB_e (by omega) hev
        have hgb : gS bb := by have h := gSm hG.1.1 (x := 10 * a) (y := 10 * b) (by omega) (by omega); rw [← hev] at h; rw [hbb]; exact h
        have hXb : RX ad cy F_16 pic sc ps sh rd bb fa mi := by rw [hbb]; exact hX_18
        refine lv_aload_n hx hb dX6_most_71 rfl (lv_at hl 5 rfl) ?_
        refine zget hC hZ fX6_25 (zlt hn rfl) hXb.1 rfl dX6_most_72 ?_
        refine lv_iload_n hx hb dX6_most_75 rfl (lv_at hl 6 rfl) ?_
        refine zaald hC hZ (zlt hn rfl) hXb.2.2.2.1 (C := RX4) rfl hs_9.1.1 hs_9.1.2 (by decide) rfl dX6_most_76 ?_
        refine zget hC hZ fX6_160 (by have := hs_9.1.2; omega) (hXb.2.2.2.2.1 (iN d) hs_9.1.2).1 rfl dX6_most_77 ?_
        refine lv_aload_n hx hb dX6_most_80 rfl (lv_at hl 5 rfl) ?_
        refine zget hC hZ fX6_40 (zlt hn rfl) hXb.1 rfl dX6_most_81 ?_
        refine zgoi hZ hA (zrunV (As := [.ref (ad 52)]) (rest := []) (k := 26 + 3 * (iN d) + 1) hC hZ (c_X5_arch l D cy n ad F_16 H.size (26 + 3 * (iN d) + 1) (sh (iN d)).2.1 (by have := hs_9.1.2; omega) (hXb.2.2.2.2.1 (iN d) hs_9.1.2).2.1 52 bb (zlt hn rfl) hXb.2.2.2.2.2.2.1 ((hG.2.2 _ hs_9.1.2).1 hs_9.2) hgb) mX5_arch vX5_arch kX6_202 (zRj_of rfl) (by have := hs_9.1.2; omega) (hXb.2.2.2.2.1 (iN d) hs_9.1.2).2.1 rfl rfl hl.1 rfl (Nat.le_of_ble_eq_true rfl) dX6_most_84 ⟨Nat.le_refl _, Nat.le_refl _⟩) (fun r_21 F_20 hp_22 H locs hZ => ?_)
        obtain ⟨rfl, rfl⟩ := hp_22
        refine lv_istore (lv' := [(7, .int (sArchAt (sh (iN d)).2.1 bb 0)), (6, .int (nI (10 * b))), (5, .int (nI (10 * a))), (4, .int qq.2), (3, .int qq.1), (2, .int (sStR sh d)), (0, .ref (ad 0)), (1, .int d)]) hx hb dX6_most_87 hl (by decide) rfl (fun ls hl => ?_)
        refine lv_iload hx hb dX6_most_89 (lv_at hl 0 rfl) ?_
        refine lv_iload_n hx hb dX6_most_91 rfl (lv_at hl 4 rfl) ?_
        refine lv_icmp_le (tgt := 109) hx hb dX6_most_92 (by decide) (fun c_92 => ?_) (fun c_92 => ?_)
        · refine lv_iinc (v := nI (10 * (b + 1))) (lv' := [(6, .int (nI (10 * (b + 1)))), (7, .int (sArchAt (sh (iN d)).2.1 bb 0)), (5, .int (nI (10 * a))), (4, .int qq.2), (3, .int qq.1), (2, .int (sStR sh d)), (0, .ref (ad 0)), (1, .int d)]) hx hb dX6_most_109 hl (k := 1) rfl (zi10 b) (by decide) rfl (fun ls hl => ?_)
          refine lv_goto (tgt := 46) hx hb dX6_most_112 (by decide) ?_
          have hb10 : b ≤ 10 := zgt100 (by omega) c_50
          exact ih46 ((b + 1), qq, bb) ls _ H locs (by show 11 - (b + 1) < 11 - b; omega) hZ ⟨(lv_sub hl [0, 2, 3, 4, 5, 6, 7] rfl), hXb, hf_19, (by omega), (by show qq = (sMostF (sh (iN d)).2.1 sc.1) (11 * a + b) (zfold (sMostF (sh (iN d)).2.1 sc.1) (11 * a + b) (-4, -4)); rw [← hq]; exact sMostF_n hbm (Int32.not_lt.mpr c_92)), (by rw [hbb]; exact hev)⟩
        · refine lv_iload hx hb dX6_most_95 (lv_at hl 0 rfl) ?_
          refine lv_istore_n (lv' := [(3, .int (sArchAt (sh (iN d)).2.1 bb 0)), (7, .int (sArchAt (sh (iN d)).2.1 bb 0)), (6, .int (nI (10 * b))), (5, .int (nI (10 * a))), (4, .int qq.2), (2, .int (sStR sh d)), (0, .ref (ad 0)), (1, .int d)]) hx hb dX6_most_97 rfl hl (by decide) rfl (fun ls hl => ?_)
          refine lv_iload hx hb dX6_most_98 (lv_at hl 3 rfl) ?_
          refine lv_sipush (v := 1000) hx hb dX6_most_100 (by decide) ?_
          refine lv_imul hx hb dX6_most_103 ?_
          refine lv_iload hx hb dX6_most_104 (lv_at hl 2 rfl) ?_
          refine lv_iadd hx hb dX6_most_106 ?_
          refine lv_istore (lv' := [(4, .int ((nI (10 * a) * 1000) + nI (10 * b))), (3, .int (sArchAt (sh (iN d)).2.1 bb 0)), (7, .int (sArchAt (sh (iN d)).2.1 bb 0)), (6, .int (nI (10 * b))), (5, .int (nI (10 * a))), (2, .int (sStR sh d)), (0, .ref (ad 0)), (1, .int d)]) hx hb dX6_most_107 hl (by decide) rfl (fun ls hl => ?_)
          refine lv_iinc (v := nI (10 * (b + 1))) (lv' := [(6, .int (nI (10 * (b + 1)))), (4, .int ((nI (10 * a) * 1000) + nI (10 * b))), (3, .int (sArchAt (sh (iN d)).2.1 bb 0)), (7, .int (sArchAt (sh (iN d)).2.1 bb 0)), (5, .int (nI (10 * a))), (2, .int (sStR sh d)), (0, .ref (ad 0)), (1, .int d)]) hx hb dX6_most_109 hl (k := 3) rfl (zi10 b) (by decide) rfl (fun ls hl => ?_)
          refine lv_goto (tgt := 46) hx hb dX6_most_112 (by decide) ?_
          have hb10 : b ≤ 10 := zgt100 (by omega) c_50
          exact ih46 ((b + 1), ((sArchAt (sh (iN d)).2.1 bb 0), ((nI (10 * a) * 1000) + nI (10 * b))), bb) ls _ H locs (by show 11 - (b + 1) < 11 - b; omega) hZ ⟨(lv_sub hl [0, 4, 1, 2, 5, 6, 7] rfl), hXb, hf_19, (by omega), (by show _ = (sMostF (sh (iN d)).2.1 sc.1) (11 * a + b) (zfold (sMostF (sh (iN d)).2.1 sc.1) (11 * a + b) (-4, -4)); rw [← hq]; exact sMostF_p (by omega) hbm (Int32.not_le.mp c_92)), (by rw [hbb]; exact hev)⟩
  · refine lv_iload_n hx hb dX6_most_10 rfl (lv_at hl 0 rfl) ?_
    have hq_23 : (sStR sh d) = zr (True) (sStR sh d) (sMost (sh (iN d)).2.1 sc.1) := (zr_rf trivial c_7).symm
    exact zireti hC hZ hr hlocks ⟨hq_23, dr, hX, fr56_rf⟩ dX6_most_11

theorem mX6_lays : zMd yX6_lays cX6_lays 7 (some .int) 1 := ⟨by decide +kernel, gt_of 505 (by decide +kernel) rfl, gt_of 45 (by decide +kernel) rfl, by decide⟩
theorem dX6_lays_0 : decode cX6_lays 0 = .ok (.aload_n 0, 1) := by decide +kernel
theorem dX6_lays_1 : decode cX6_lays 1 = .ok (.iload_n 1, 1) := by decide +kernel
theorem dX6_lays_2 : decode cX6_lays 2 = .ok (.invokevirtual 157, 3) := by decide +kernel
theorem dX6_lays_5 : decode cX6_lays 5 = .ok (.istore_n 2, 1) := by decide +kernel
theorem dX6_lays_6 : decode cX6_lays 6 = .ok (.iload_n 2, 1) := by decide +kernel
theorem dX6_lays_7 : decode cX6_lays 7 = .ok (.ifCond .eq 5, 3) := by decide +kernel
theorem dX6_lays_12 : decode cX6_lays 12 = .ok (.bipush (-4), 2) := by decide +kernel
theorem dX6_lays_14 : decode cX6_lays 14 = .ok (.istore_n 3, 1) := by decide +kernel
theorem dX6_lays_15 : decode cX6_lays 15 = .ok (.bipush (-4), 2) := by decide +kernel
theorem dX6_lays_17 : decode cX6_lays 17 = .ok (.istore 4, 2) := by decide +kernel
theorem dX6_lays_19 : decode cX6_lays 19 = .ok (.aload_n 0, 1) := by decide +kernel
theorem dX6_lays_20 : decode cX6_lays 20 = .ok (.getfield 40, 3) := by decide +kernel
theorem dX6_lays_23 : decode cX6_lays 23 = .ok (.aload_n 0, 1) := by decide +kernel
theorem dX6_lays_24 : decode cX6_lays 24 = .ok (.getfield 10, 3) := by decide +kernel
theorem dX6_lays_27 : decode cX6_lays 27 = .ok (.getfield 93, 3) := by decide +kernel
theorem dX6_lays_30 : decode cX6_lays 30 = .ok (.invokevirtual 239, 3) := by decide +kernel
theorem dX6_lays_33 : decode cX6_lays 33 = .ok (.iconst 0, 1) := by decide +kernel
theorem dX6_lays_34 : decode cX6_lays 34 = .ok (.istore 5, 2) := by decide +kernel
theorem dX6_lays_36 : decode cX6_lays 36 = .ok (.iload 5, 2) := by decide +kernel
theorem dX6_lays_38 : decode cX6_lays 38 = .ok (.iconst 2, 1) := by decide +kernel
theorem dX6_lays_39 : decode cX6_lays 39 = .ok (.if_icmp .gt 49, 3) := by decide +kernel
theorem dX6_lays_88 : decode cX6_lays 88 = .ok (.iload 4, 2) := by decide +kernel
theorem dX6_lays_90 : decode cX6_lays 90 = .ok (.ireturn, 1) := by decide +kernel
theorem dX6_lays_42 : decode cX6_lays 42 = .ok (.aload_n 0, 1) := by decide +kernel
theorem dX6_lays_43 : decode cX6_lays 43 = .ok (.getfield 40, 3) := by decide +kernel
theorem dX6_lays_46 : decode cX6_lays 46 = .ok (.iload 5, 2) := by decide +kernel
theorem dX6_lays_48 : decode cX6_lays 48 = .ok (.putfield 102, 3) := by decide +kernel
theorem dX6_lays_51 : decode cX6_lays 51 = .ok (.aload_n 0, 1) := by decide +kernel
theorem dX6_lays_52 : decode cX6_lays 52 = .ok (.getfield 25, 3) := by decide +kernel
theorem dX6_lays_55 : decode cX6_lays 55 = .ok (.iload_n 1, 1) := by decide +kernel
theorem dX6_lays_56 : decode cX6_lays 56 = .ok (.aaload, 1) := by decide +kernel
theorem dX6_lays_57 : decode cX6_lays 57 = .ok (.getfield 160, 3) := by decide +kernel
theorem dX6_lays_60 : decode cX6_lays 60 = .ok (.aload_n 0, 1) := by decide +kernel
theorem dX6_lays_61 : decode cX6_lays 61 = .ok (.getfield 40, 3) := by decide +kernel
theorem dX6_lays_64 : decode cX6_lays 64 = .ok (.invokevirtual 202, 3) := by decide +kernel
theorem dX6_lays_67 : decode cX6_lays 67 = .ok (.istore 6, 2) := by decide +kernel
theorem dX6_lays_69 : decode cX6_lays 69 = .ok (.iload 6, 2) := by decide +kernel
theorem dX6_lays_71 : decode cX6_lays 71 = .ok (.iload_n 3, 1) := by decide +kernel
theorem dX6_lays_72 : decode cX6_lays 72 = .ok (.if_icmp .le 10, 3) := by decide +kernel
theorem dX6_lays_82 : decode cX6_lays 82 = .ok (.iinc 5 1, 3) := by decide +kernel
theorem dX6_lays_85 : decode cX6_lays 85 = .ok (.goto (-49), 3) := by decide +kernel
theorem dX6_lays_75 : decode cX6_lays 75 = .ok (.iload 6, 2) := by decide +kernel
theorem dX6_lays_77 : decode cX6_lays 77 = .ok (.istore_n 3, 1) := by decide +kernel
theorem dX6_lays_78 : decode cX6_lays 78 = .ok (.iload 5, 2) := by decide +kernel
theorem dX6_lays_80 : decode cX6_lays 80 = .ok (.istore 4, 2) := by decide +kernel
theorem dX6_lays_10 : decode cX6_lays 10 = .ok (.iload_n 2, 1) := by decide +kernel
theorem dX6_lays_11 : decode cX6_lays 11 = .ok (.ireturn, 1) := by decide +kernel
set_option maxRecDepth 100000 in
theorem c_X6_lays (l : Launch) (D : va_G) (cy : Nat → Nat) (n : Nat) (ad : Nat → Nat) (F : Nat → va_E) (sz : Nat) (pic : Int32) (sc ps : Scn) (sh : Nat → Shf) (rd : Rdr) (dr : Stg) (fa : Tal) (mi : Crs) (hn : 56 ≤ n) (hX : RX ad cy F pic sc ps sh rd dr fa mi) (hG : gX sc ps sh) (d : Int32) : Met l yX6_lays (zw yX6_lays cX6_lays 7 (some .int)) (rmL 5) (zPc D cy n ad F sz [.ref (ad 0), .int d]) (va_Qi (fun r F1 => r = zr True (sStR sh d) (sLays (sh (iN d)).2.1 sc.1) ∧ ∃ dr1, RX ad cy F1 pic sc ps sh rd dr1 fa mi ∧ fr56 F F1) (zB D n ad) (zA n ad sz)) 0 0 (zA n ad sz) := by
  refine zmet (by decide +kernel) (Nat.le_of_ble_eq_true rfl) (fun p e s m args below meth c ls hC hsz hZ hA hr hlocks hnm hl => ?_)
  have hC : zC p m c cX6_lays 7 s args RX6 D cy := hC
  have hx := hC.1.1
  have hb := hC.1.2.1
  have hl : lv_has ls 7 [(0, .ref (ad 0)), (1, .int d)] := hl
  refine lv_aload_n hx hb dX6_lays_0 rfl (lv_at hl 0 rfl) ?_
  refine lv_iload_n hx hb dX6_lays_1 rfl (lv_at hl 1 rfl) ?_
  refine zgoi hZ hA (zrunV (As := [.int d]) (rest := []) (k := 0) hC hZ (c_X6_storyRefusal l D cy n ad F s.heap.size pic sc ps sh rd dr fa mi hn hX d) mX6_storyRefusal vX6_storyRefusal kX6_157 (zRj_of rfl) (zlt hn rfl) hX.1 rfl rfl hl.1 rfl (Nat.le_of_ble_eq_true rfl) dX6_lays_2 ⟨Nat.le_refl _, Nat.le_refl _⟩) (fun r_2 F_1 hp_3 H locs hZ => ?_)
  obtain ⟨rfl, rfl⟩ := hp_3
  refine lv_istore_n (lv' := [(2, .int (sStR sh d)), (0, .ref (ad 0)), (1, .int d)]) hx hb dX6_lays_5 rfl hl (by decide) rfl (fun ls hl => ?_)
  refine lv_iload_n hx hb dX6_lays_6 rfl (lv_at hl 0 rfl) ?_
  refine lv_if_eq (tgt := 12) hx hb dX6_lays_7 (by decide) (fun c_7 => ?_) (fun c_7 => ?_)
  · refine lv_bipush (v := (-4)) hx hb dX6_lays_12 (by decide) ?_
    refine lv_istore_n (lv' := [(3, .int (-4)), (2, .int (sStR sh d)), (0, .ref (ad 0)), (1, .int d)]) hx hb dX6_lays_14 rfl hl (by decide) rfl (fun ls hl => ?_)
    refine lv_bipush (v := (-4)) hx hb dX6_lays_15 (by decide) ?_
    refine lv_istore (lv' := [(4, .int (-4)), (3, .int (-4)), (2, .int (sStR sh d)), (0, .ref (ad 0)), (1, .int d)]) hx hb dX6_lays_17 hl (by decide) rfl (fun ls hl => ?_)
    refine lv_aload_n hx hb dX6_lays_19 rfl (lv_at hl 3 rfl) ?_
    refine zget hC hZ fX6_40 (zlt hn rfl) hX.1 rfl dX6_lays_20 ?_
    refine lv_aload_n hx hb dX6_lays_23 rfl (lv_at hl 3 rfl) ?_
    refine zget hC hZ fX6_10 (zlt hn rfl) hX.1 rfl dX6_lays_24 ?_
    refine zget hC hZ fX6_93 (zlt hn rfl) hX.2.1.1 rfl dX6_lays_27 ?_
    refine zgov hZ hA (zrunV (As := [.ref (ad 2)]) (rest := []) (k := 52) hC hZ (c_X3_take l D cy n ad F H.size 52 dr (zlt hn rfl) hX.2.2.2.2.2.2.1 2 sc.1 (zlt hn rfl) hX.2.1.2.1 (by decide)) mX3_take vX3_take kX6_239 (zRj_of rfl) (zlt hn rfl) hX.2.2.2.2.2.2.1 rfl rfl hl.1 rfl (Nat.le_of_ble_eq_true rfl) dX6_lays_30 ⟨Nat.le_refl _, Nat.le_refl _⟩) (fun F_4 hp_6 H locs hZ => ?_)
    have hX_7 := rx_draft hX hp_6
    have hf_8 := fr56_up fr56_rf hp_6 (by decide)
    have hX_7 : RX ad cy F_4 pic sc ps sh rd sc.1 fa mi := hX_7
    refine lv_iconst (v := 0) hx hb dX6_lays_33 (by decide) ?_
    refine lv_istore (lv' := [(5, .int 0), (4, .int (-4)), (3, .int (-4)), (2, .int (sStR sh d)), (0, .ref (ad 0)), (1, .int d)]) hx hb dX6_lays_34 hl (by decide) rfl (fun ls hl => ?_)
    have hs_9 := sStR_0 c_7
    refine zlp (X := Nat × (Int32 × Int32) × Stg) 36 (fun _ => []) (fun x ls F1 => lv_has ls 7 [(5, .int (nI x.1)), (4, .int x.2.1.2), (3, .int x.2.1.1), (2, .int (sStR sh d)), (0, .ref (ad 0)), (1, .int d)] ∧ RX ad cy F1 pic sc ps sh rd x.2.2 fa mi ∧ fr56 F F1 ∧ (x.1 ≤ 3) ∧ (x.2.1 = zfold (sLayF (sh (iN d)).2.1 sc.1) x.1 (-4, -4)) ∧ (x.2.2.1 = sc.1.1 ∧ x.2.2.2.1 = sc.1.2.1 ∧ x.2.2.2.2.2 = sc.1.2.2.2)) (fun x => 3 - x.1) ?_ (0, (-4, -4), sc.1) hZ ⟨hl, hX_7, hf_8, (Nat.zero_le _), rfl, ⟨rfl, rfl, rfl⟩⟩
    intro x ih36 ls F3_36 H locs hZ hφ
    obtain ⟨a, pp, dv⟩ := x
    obtain ⟨hl, hXl, hfl36, ha, hp, hdv⟩ := hφ
    have hl : lv_has ls 7 [(5, .int (nI a)), (4, .int pp.2), (3, .int pp.1), (2, .int (sStR sh d)), (0, .ref (ad 0)), (1, .int d)] := hl
    have hX36 : RX ad cy F3_36 pic sc ps sh rd dv fa mi := hXl
    have ha : a ≤ 3 := ha
    have hp : pp = zfold (sLayF (sh (iN d)).2.1 sc.1) a (-4, -4) := hp
    have hdv : dv.1 = sc.1.1 ∧ dv.2.1 = sc.1.2.1 ∧ dv.2.2.2 = sc.1.2.2.2 := hdv
    refine lv_iload hx hb dX6_lays_36 (lv_at hl 0 rfl) ?_
    refine lv_iconst (v := 2) hx hb dX6_lays_38 (by decide) ?_
    refine lv_icmp_gt (tgt := 88) hx hb dX6_lays_39 (by decide) (fun c_39 => ?_) (fun c_39 => ?_)
    · refine lv_iload hx hb dX6_lays_88 (lv_at hl 1 rfl) ?_
      have ha3 : a = 3 := by rcases Nat.lt_or_ge 2 a with h | h; omega; exact absurd c_39 (nI_nlt (a := 2) (b := a) h (by omega))
      have hv_11 : pp.2 = sLays (sh (iN d)).2.1 sc.1 := by unfold sLays; rw [hp, ha3]
      have hq_10 : pp.2 = zr (True) (sStR sh d) (sLays (sh (iN d)).2.1 sc.1) := hv_11.trans (zr_ok trivial c_7).symm
      exact zireti hC hZ hr hlocks ⟨hq_10, dv, hX36, hfl36⟩ dX6_lays_90
    · refine lv_aload_n hx hb dX6_lays_42 rfl (lv_at hl 4 rfl) ?_
      refine zget hC hZ fX6_40 (zlt hn rfl) hX36.1 rfl dX6_lays_43 ?_
      refine lv_iload hx hb dX6_lays_46 (lv_at hl 0 rfl) ?_
      refine zput (E := oSetting (dv.1, dv.2.1, nI a, dv.2.2.2)) hC hZ pX6_102 (zlt hn rfl) hX36.2.2.2.2.2.2.1 rfl rfl rfl (Nat.le_of_ble_eq_true rfl) dX6_lays_48 (fun F_12 hF_13 H locs hZ => ?_)
      have hX_14 := rx_draft hX36 hF_13
      have hf_15 := fr56_up hfl36 hF_13 (by decide)
      have hX_14 : RX ad cy F_12 pic sc ps sh rd (dv.1, dv.2.1, nI a, dv.2.2.2) fa mi := hX_14
      have ha2 : a ≤ 2 := by rcases Nat.lt_or_ge 2 a with h | h; exact absurd (nI_lt (a := 2) (b := a) h (by omega)) c_39; exact h
      obtain ⟨bb, hbb⟩ : ∃ y : Stg, y = (dv.1, dv.2.1, nI a, dv.2.2.2) := ⟨_, rfl⟩
      have hbm : bb = sLayB sc.1 a := by rw [hbb, hdv.1, hdv.2.1, hdv.2.2]; rfl
      have hgb : gS bb := by rw [hbm]; exact gSl hG.1.1 (by omega)
      have hXb : RX ad cy F_12 pic sc ps sh rd bb fa mi := by rw [hbb]; exact hX_14
      refine lv_aload_n hx hb dX6_lays_51 rfl (lv_at hl 4 rfl) ?_
      refine zget hC hZ fX6_25 (zlt hn rfl) hXb.1 rfl dX6_lays_52 ?_
      refine lv_iload_n hx hb dX6_lays_55 rfl (lv_at hl 5 rfl) ?_
      refine zaald hC hZ (zlt hn rfl) hXb.2.2.2.1 (C := RX4) rfl hs_9.1.1 hs_9.1.2 (by decide) rfl dX6_lays_56 ?_
      refine zget hC hZ fX6_160 (by have := hs_9.1.2; omega) (hXb.2.2.2.2.1 (iN d) hs_9.1.2).1 rfl dX6_lays_57 ?_
      refine lv_aload_n hx hb dX6_lays_60 rfl (lv_at hl 4 rfl) ?_
      refine zget hC hZ fX6_40 (zlt hn rfl) hXb.1 rfl dX6_lays_61 ?_
      refine zgoi hZ hA (zrunV (As := [.ref (ad 52)]) (rest := []) (k := 26 + 3 * (iN d) + 1) hC hZ (c_X5_arch l D cy n ad F_12 H.size (26 + 3 * (iN d) + 1) (sh (iN d)).2.1 (by have := hs_9.1.2; omega) (hXb.2.2.2.2.1 (iN d) hs_9.1.2).2.1 52 bb (zlt hn rfl) hXb.2.2.2.2.2.2.1 ((hG.2.2 _ hs_9.1.2).1 hs_9.2) hgb) mX5_arch vX5_arch kX6_202 (zRj_of rfl) (by have := hs_9.1.2; omega) (hXb.2.2.2.2.1 (iN d) hs_9.1.2).2.1 rfl rfl hl.1 rfl (Nat.le_of_ble_eq_true rfl) dX6_lays_64 ⟨Nat.le_refl _, Nat.le_refl _⟩) (fun r_17 F_16 hp_18 H locs hZ => ?_)
      obtain ⟨rfl, rfl⟩ := hp_18
      refine lv_istore (lv' := [(6, .int (sArchAt (sh (iN d)).2.1 bb 0)), (5, .int (nI a)), (4, .int pp.2), (3, .int pp.1), (2, .int (sStR sh d)), (0, .ref (ad 0)), (1, .int d)]) hx hb dX6_lays_67 hl (by decide) rfl (fun ls hl => ?_)
      refine lv_iload hx hb dX6_lays_69 (lv_at hl 0 rfl) ?_
      refine lv_iload_n hx hb dX6_lays_71 rfl (lv_at hl 3 rfl) ?_
      refine lv_icmp_le (tgt := 82) hx hb dX6_lays_72 (by decide) (fun c_72 => ?_) (fun c_72 => ?_)
      · refine lv_iinc (v := nI (a + 1)) (lv' := [(5, .int (nI (a + 1))), (6, .int (sArchAt (sh (iN d)).2.1 bb 0)), (4, .int pp.2), (3, .int pp.1), (2, .int (sStR sh d)), (0, .ref (ad 0)), (1, .int d)]) hx hb dX6_lays_82 hl (k := 1) rfl (nI_1 a) (by decide) rfl (fun ls hl => ?_)
        refine lv_goto (tgt := 36) hx hb dX6_lays_85 (by decide) ?_
        have ha2 : a ≤ 2 := by rcases Nat.lt_or_ge 2 a with h | h; exact absurd (nI_lt (a := 2) (b := a) h (by omega)) c_39; exact h
        exact ih36 ((a + 1), pp, bb) ls _ H locs (by show 3 - (a + 1) < 3 - a; omega) hZ ⟨(lv_sub hl [0, 2, 3, 4, 5, 6] rfl), hXb, hf_15, (by omega), (by show pp = (sLayF (sh (iN d)).2.1 sc.1) a (zfold (sLayF (sh (iN d)).2.1 sc.1) a (-4, -4)); rw [← hp]; exact sLayF_n hbm (Int32.not_lt.mpr c_72)), (by rw [hbm]; exact ⟨rfl, rfl, rfl⟩)⟩
      · refine lv_iload hx hb dX6_lays_75 (lv_at hl 0 rfl) ?_
        refine lv_istore_n (lv' := [(3, .int (sArchAt (sh (iN d)).2.1 bb 0)), (6, .int (sArchAt (sh (iN d)).2.1 bb 0)), (5, .int (nI a)), (4, .int pp.2), (2, .int (sStR sh d)), (0, .ref (ad 0)), (1, .int d)]) hx hb dX6_lays_77 rfl hl (by decide) rfl (fun ls hl => ?_)
        refine lv_iload hx hb dX6_lays_78 (lv_at hl 2 rfl) ?_
        refine lv_istore (lv' := [(4, .int (nI a)), (3, .int (sArchAt (sh (iN d)).2.1 bb 0)), (6, .int (sArchAt (sh (iN d)).2.1 bb 0)), (5, .int (nI a)), (2, .int (sStR sh d)), (0, .ref (ad 0)), (1, .int d)]) hx hb dX6_lays_80 hl (by decide) rfl (fun ls hl => ?_)
        refine lv_iinc (v := nI (a + 1)) (lv' := [(5, .int (nI (a + 1))), (4, .int (nI a)), (3, .int (sArchAt (sh (iN d)).2.1 bb 0)), (6, .int (sArchAt (sh (iN d)).2.1 bb 0)), (2, .int (sStR sh d)), (0, .ref (ad 0)), (1, .int d)]) hx hb dX6_lays_82 hl (k := 3) rfl (nI_1 a) (by decide) rfl (fun ls hl => ?_)
        refine lv_goto (tgt := 36) hx hb dX6_lays_85 (by decide) ?_
        have ha2 : a ≤ 2 := by rcases Nat.lt_or_ge 2 a with h | h; exact absurd (nI_lt (a := 2) (b := a) h (by omega)) c_39; exact h
        exact ih36 ((a + 1), ((sArchAt (sh (iN d)).2.1 bb 0), nI a), bb) ls _ H locs (by show 3 - (a + 1) < 3 - a; omega) hZ ⟨(lv_sub hl [0, 1, 2, 4, 5, 6] rfl), hXb, hf_15, (by omega), (by show _ = (sLayF (sh (iN d)).2.1 sc.1) a (zfold (sLayF (sh (iN d)).2.1 sc.1) a (-4, -4)); rw [← hp]; exact sLayF_p hbm (Int32.not_le.mp c_72)), (by rw [hbm]; exact ⟨rfl, rfl, rfl⟩)⟩
  · refine lv_iload_n hx hb dX6_lays_10 rfl (lv_at hl 0 rfl) ?_
    have hq_19 : (sStR sh d) = zr (True) (sStR sh d) (sLays (sh (iN d)).2.1 sc.1) := (zr_rf trivial c_7).symm
    exact zireti hC hZ hr hlocks ⟨hq_19, dr, hX, fr56_rf⟩ dX6_lays_11

theorem mX6_judge : zMd yX6_judge cX6_judge 6 (some .int) 2 := ⟨by decide +kernel, gt_of 543 (by decide +kernel) rfl, gt_of 45 (by decide +kernel) rfl, by decide⟩
theorem dX6_judge_0 : decode cX6_judge 0 = .ok (.aload_n 0, 1) := by decide +kernel
theorem dX6_judge_1 : decode cX6_judge 1 = .ok (.iload_n 1, 1) := by decide +kernel
theorem dX6_judge_2 : decode cX6_judge 2 = .ok (.invokevirtual 157, 3) := by decide +kernel
theorem dX6_judge_5 : decode cX6_judge 5 = .ok (.aload_n 0, 1) := by decide +kernel
theorem dX6_judge_6 : decode cX6_judge 6 = .ok (.iload_n 2, 1) := by decide +kernel
theorem dX6_judge_7 : decode cX6_judge 7 = .ok (.invokevirtual 115, 3) := by decide +kernel
theorem dX6_judge_10 : decode cX6_judge 10 = .ok (.invokestatic 204, 3) := by decide +kernel
theorem dX6_judge_13 : decode cX6_judge 13 = .ok (.istore_n 3, 1) := by decide +kernel
theorem dX6_judge_14 : decode cX6_judge 14 = .ok (.iload_n 3, 1) := by decide +kernel
theorem dX6_judge_15 : decode cX6_judge 15 = .ok (.ifCond .eq 5, 3) := by decide +kernel
theorem dX6_judge_20 : decode cX6_judge 20 = .ok (.aload_n 0, 1) := by decide +kernel
theorem dX6_judge_21 : decode cX6_judge 21 = .ok (.getfield 57, 3) := by decide +kernel
theorem dX6_judge_24 : decode cX6_judge 24 = .ok (.invokevirtual 181, 3) := by decide +kernel
theorem dX6_judge_27 : decode cX6_judge 27 = .ok (.aload_n 0, 1) := by decide +kernel
theorem dX6_judge_28 : decode cX6_judge 28 = .ok (.getfield 25, 3) := by decide +kernel
theorem dX6_judge_31 : decode cX6_judge 31 = .ok (.iload_n 2, 1) := by decide +kernel
theorem dX6_judge_32 : decode cX6_judge 32 = .ok (.aaload, 1) := by decide +kernel
theorem dX6_judge_33 : decode cX6_judge 33 = .ok (.astore 4, 2) := by decide +kernel
theorem dX6_judge_35 : decode cX6_judge 35 = .ok (.iconst 0, 1) := by decide +kernel
theorem dX6_judge_36 : decode cX6_judge 36 = .ok (.istore 5, 2) := by decide +kernel
theorem dX6_judge_38 : decode cX6_judge 38 = .ok (.iload 5, 2) := by decide +kernel
theorem dX6_judge_40 : decode cX6_judge 40 = .ok (.aload 4, 2) := by decide +kernel
theorem dX6_judge_42 : decode cX6_judge 42 = .ok (.getfield 225, 3) := by decide +kernel
theorem dX6_judge_45 : decode cX6_judge 45 = .ok (.if_icmp .ge 66, 3) := by decide +kernel
theorem dX6_judge_111 : decode cX6_judge 111 = .ok (.bipush (-4), 2) := by decide +kernel
theorem dX6_judge_113 : decode cX6_judge 113 = .ok (.ireturn, 1) := by decide +kernel
theorem dX6_judge_48 : decode cX6_judge 48 = .ok (.iload 5, 2) := by decide +kernel
theorem dX6_judge_50 : decode cX6_judge 50 = .ok (.bipush 100, 2) := by decide +kernel
theorem dX6_judge_52 : decode cX6_judge 52 = .ok (.if_icmp .ge 59, 3) := by decide +kernel
theorem dX6_judge_55 : decode cX6_judge 55 = .ok (.aload_n 0, 1) := by decide +kernel
theorem dX6_judge_56 : decode cX6_judge 56 = .ok (.getfield 10, 3) := by decide +kernel
theorem dX6_judge_59 : decode cX6_judge 59 = .ok (.aload_n 0, 1) := by decide +kernel
theorem dX6_judge_60 : decode cX6_judge 60 = .ok (.getfield 57, 3) := by decide +kernel
theorem dX6_judge_63 : decode cX6_judge 63 = .ok (.aload_n 0, 1) := by decide +kernel
theorem dX6_judge_64 : decode cX6_judge 64 = .ok (.getfield 25, 3) := by decide +kernel
theorem dX6_judge_67 : decode cX6_judge 67 = .ok (.iload_n 1, 1) := by decide +kernel
theorem dX6_judge_68 : decode cX6_judge 68 = .ok (.aaload, 1) := by decide +kernel
theorem dX6_judge_69 : decode cX6_judge 69 = .ok (.getfield 160, 3) := by decide +kernel
theorem dX6_judge_72 : decode cX6_judge 72 = .ok (.invokevirtual 177, 3) := by decide +kernel
theorem dX6_judge_75 : decode cX6_judge 75 = .ok (.aload 4, 2) := by decide +kernel
theorem dX6_judge_77 : decode cX6_judge 77 = .ok (.iload 5, 2) := by decide +kernel
theorem dX6_judge_79 : decode cX6_judge 79 = .ok (.invokevirtual 228, 3) := by decide +kernel
theorem dX6_judge_82 : decode cX6_judge 82 = .ok (.ifCond .eq 23, 3) := by decide +kernel
theorem dX6_judge_85 : decode cX6_judge 85 = .ok (.aload 4, 2) := by decide +kernel
theorem dX6_judge_87 : decode cX6_judge 87 = .ok (.iload 5, 2) := by decide +kernel
theorem dX6_judge_89 : decode cX6_judge 89 = .ok (.invokevirtual 231, 3) := by decide +kernel
theorem dX6_judge_92 : decode cX6_judge 92 = .ok (.aload_n 0, 1) := by decide +kernel
theorem dX6_judge_93 : decode cX6_judge 93 = .ok (.getfield 57, 3) := by decide +kernel
theorem dX6_judge_96 : decode cX6_judge 96 = .ok (.getfield 184, 3) := by decide +kernel
theorem dX6_judge_99 : decode cX6_judge 99 = .ok (.if_icmp .eq 6, 3) := by decide +kernel
theorem dX6_judge_105 : decode cX6_judge 105 = .ok (.iinc 5 1, 3) := by decide +kernel
theorem dX6_judge_108 : decode cX6_judge 108 = .ok (.goto (-70), 3) := by decide +kernel
theorem dX6_judge_102 : decode cX6_judge 102 = .ok (.iload 5, 2) := by decide +kernel
theorem dX6_judge_104 : decode cX6_judge 104 = .ok (.ireturn, 1) := by decide +kernel
theorem dX6_judge_18 : decode cX6_judge 18 = .ok (.iload_n 3, 1) := by decide +kernel
theorem dX6_judge_19 : decode cX6_judge 19 = .ok (.ireturn, 1) := by decide +kernel
set_option maxRecDepth 100000 in
theorem c_X6_judge (l : Launch) (D : va_G) (cy : Nat → Nat) (n : Nat) (ad : Nat → Nat) (F : Nat → va_E) (sz : Nat) (pic : Int32) (sc ps : Scn) (sh : Nat → Shf) (rd : Rdr) (dr : Stg) (fa : Tal) (mi : Crs) (hn : 56 ≤ n) (hX : RX ad cy F pic sc ps sh rd dr fa mi) (hG : gX sc ps sh) (d e0 : Int32) : Met l yX6_judge (zw yX6_judge cX6_judge 6 (some .int)) (rmL 4) (zPc D cy n ad F sz [.ref (ad 0), .int d, .int e0]) (va_Qi (fun r F1 => r = zr True (sFirst (sStR sh d) (sRowR sh e0)) (sJudge (sh (iN d)).2.1 sc (sh (iN e0))) ∧ ∃ mi1, RX ad cy F1 pic sc ps sh rd dr fa mi1 ∧ fr56 F F1) (zB D n ad) (zA n ad sz)) 0 0 (zA n ad sz) := by
  refine zmet (by decide +kernel) (Nat.le_of_ble_eq_true rfl) (fun p e s m args below meth c ls hC hsz hZ hA hr hlocks hnm hl => ?_)
  have hC : zC p m c cX6_judge 6 s args RX6 D cy := hC
  have hx := hC.1.1
  have hb := hC.1.2.1
  have hl : lv_has ls 6 [(0, .ref (ad 0)), (1, .int d), (2, .int e0)] := hl
  refine lv_aload_n hx hb dX6_judge_0 rfl (lv_at hl 0 rfl) ?_
  refine lv_iload_n hx hb dX6_judge_1 rfl (lv_at hl 1 rfl) ?_
  refine zgoi hZ hA (zrunV (As := [.int d]) (rest := []) (k := 0) hC hZ (c_X6_storyRefusal l D cy n ad F s.heap.size pic sc ps sh rd dr fa mi hn hX d) mX6_storyRefusal vX6_storyRefusal kX6_157 (zRj_of rfl) (zlt hn rfl) hX.1 rfl rfl hl.1 rfl (Nat.le_of_ble_eq_true rfl) dX6_judge_2 ⟨Nat.le_refl _, Nat.le_refl _⟩) (fun r_2 F_1 hp_3 H locs hZ => ?_)
  obtain ⟨rfl, rfl⟩ := hp_3
  refine lv_aload_n hx hb dX6_judge_5 rfl (lv_at hl 0 rfl) ?_
  refine lv_iload_n hx hb dX6_judge_6 rfl (lv_at hl 2 rfl) ?_
  refine zgoi hZ hA (zrunV (As := [.int e0]) (rest := [.int (sStR sh d)]) (k := 0) hC hZ (c_X6_rowRefusal l D cy n ad F H.size pic sc ps sh rd dr fa mi hn hX e0) mX6_rowRefusal vX6_rowRefusal kX6_115 (zRj_of rfl) (zlt hn rfl) hX.1 rfl rfl hl.1 rfl (Nat.le_of_ble_eq_true rfl) dX6_judge_7 ⟨Nat.le_refl _, Nat.le_refl _⟩) (fun r_5 F_4 hp_6 H locs hZ => ?_)
  obtain ⟨rfl, rfl⟩ := hp_6
  refine zgoi hZ hA (zrunS (As := [.int (sStR sh d), .int (sRowR sh e0)]) (rest := []) hC hZ (c_X6_firstRefusal l D cy n ad F H.size (sStR sh d) (sRowR sh e0)) mX6_firstRefusal sX6_firstRefusal kX6_204 (zRj_of rfl) rfl hl.1 rfl (Nat.le_of_ble_eq_true rfl) dX6_judge_10 ⟨Nat.le_refl _, Nat.le_refl _⟩) (fun r_8 F_7 hp_9 H locs hZ => ?_)
  obtain ⟨rfl, rfl⟩ := hp_9
  refine lv_istore_n (lv' := [(3, .int (sFirst (sStR sh d) (sRowR sh e0))), (0, .ref (ad 0)), (1, .int d), (2, .int e0)]) hx hb dX6_judge_13 rfl hl (by decide) rfl (fun ls hl => ?_)
  refine lv_iload_n hx hb dX6_judge_14 rfl (lv_at hl 0 rfl) ?_
  refine lv_if_eq (tgt := 20) hx hb dX6_judge_15 (by decide) (fun c_15 => ?_) (fun c_15 => ?_)
  · refine lv_aload_n hx hb dX6_judge_20 rfl (lv_at hl 1 rfl) ?_
    refine zget hC hZ fX6_57 (zlt hn rfl) hX.1 rfl dX6_judge_21 ?_
    refine zgov hZ hA (zrunV (As := []) (rest := []) (k := 55) hC hZ (c_X0_clear l D cy n ad F H.size 55 mi (zlt hn rfl) hX.2.2.2.2.2.2.2.2.2) mX0_clear vX0_clear kX6_181 (zRj_of rfl) (zlt hn rfl) hX.2.2.2.2.2.2.2.2.2 rfl rfl hl.1 rfl (Nat.le_of_ble_eq_true rfl) dX6_judge_24 ⟨Nat.le_refl _, Nat.le_refl _⟩) (fun F_10 hp_12 H locs hZ => ?_)
    have hX_13 := rx_mind hX hp_12
    have hf_14 := fr56_up fr56_rf hp_12 (by decide)
    have hX_13 : RX ad cy F_10 pic sc ps sh rd dr fa (0, 0, 0, 0, 0) := hX_13
    refine lv_aload_n hx hb dX6_judge_27 rfl (lv_at hl 1 rfl) ?_
    refine zget hC hZ fX6_25 (zlt hn rfl) hX_13.1 rfl dX6_judge_28 ?_
    refine lv_iload_n hx hb dX6_judge_31 rfl (lv_at hl 3 rfl) ?_
    have hz := sFirst_0 (sStR_le sh d) (sRowR_le sh e0) c_15
    have hsd := sStR_0 hz.1
    have hse := sRowR_0 hz.2
    refine zaald hC hZ (zlt hn rfl) hX_13.2.2.2.1 (C := RX4) rfl hse.1.1 hse.1.2 (by decide) rfl dX6_judge_32 ?_
    refine lv_astore (lv' := [(4, .ref (ad (26 + 3 * (iN e0)))), (3, .int (sFirst (sStR sh d) (sRowR sh e0))), (0, .ref (ad 0)), (1, .int d), (2, .int e0)]) hx hb dX6_judge_33 hl (by decide) rfl (fun ls hl => ?_)
    refine lv_iconst (v := 0) hx hb dX6_judge_35 (by decide) ?_
    refine lv_istore (lv' := [(5, .int 0), (4, .ref (ad (26 + 3 * (iN e0)))), (3, .int (sFirst (sStR sh d) (sRowR sh e0))), (0, .ref (ad 0)), (1, .int d), (2, .int e0)]) hx hb dX6_judge_36 hl (by decide) rfl (fun ls hl => ?_)
    have hge := hG.2.2 _ hse.1.2
    have hz0 := iN_b (N := 100) hge.2.1 hge.2.2.1
    refine zlp (X := Nat) 38 (fun _ => []) (fun x ls F1 => lv_has ls 6 [(5, .int (nI x)), (4, .ref (ad (26 + 3 * (iN e0)))), (3, .int (sFirst (sStR sh d) (sRowR sh e0))), (0, .ref (ad 0)), (1, .int d), (2, .int e0)] ∧ RX ad cy F1 pic sc ps sh rd dr fa (sIt (sF (sh (iN d)).2.1 sc) x sCC) ∧ fr56 F F1 ∧ (x ≤ iN (sh (iN e0)).2.2.2.1) ∧ (zfind (sJudP (sh (iN d)).2.1 sc (sh (iN e0))) (iN (sh (iN e0)).2.2.2.1 - x) x = sJudge (sh (iN d)).2.1 sc (sh (iN e0)))) (fun x => iN (sh (iN e0)).2.2.2.1 - x) ?_ 0 hZ ⟨hl, hX_13, hf_14, (Nat.zero_le _), rfl⟩
    intro j ih38 ls F3_38 H locs hZ hφ
    obtain ⟨hl, hXl, hfl38, hj, hT⟩ := hφ
    have hl : lv_has ls 6 [(5, .int (nI j)), (4, .ref (ad (26 + 3 * (iN e0)))), (3, .int (sFirst (sStR sh d) (sRowR sh e0))), (0, .ref (ad 0)), (1, .int d), (2, .int e0)] := hl
    have hX38 : RX ad cy F3_38 pic sc ps sh rd dr fa (sIt (sF (sh (iN d)).2.1 sc) j sCC) := hXl
    have hj : j ≤ iN (sh (iN e0)).2.2.2.1 := hj
    have hT : zfind (sJudP (sh (iN d)).2.1 sc (sh (iN e0))) (iN (sh (iN e0)).2.2.2.1 - j) j = sJudge (sh (iN d)).2.1 sc (sh (iN e0)) := hT
    refine lv_iload hx hb dX6_judge_38 (lv_at hl 0 rfl) ?_
    refine lv_aload hx hb dX6_judge_40 (lv_at hl 1 rfl) ?_
    refine zget hC hZ fX6_225 (by have := hse.1.2; omega) (hX38.2.2.2.2.1 (iN e0) hse.1.2).1 rfl dX6_judge_42 ?_
    refine lv_icmp_ge (tgt := 111) hx hb dX6_judge_45 (by decide) (fun c_45 => ?_) (fun c_45 => ?_)
    · refine lv_bipush (v := (-4)) hx hb dX6_judge_111 (by decide) ?_
      have hjz : j = iN (sh (iN e0)).2.2.2.1 := zge hz0.1 (by omega) hj c_45
      have hv_16 : (-4 : Int32) = sJudge (sh (iN d)).2.1 sc (sh (iN e0)) := by rw [← hT, hjz, Nat.sub_self]; rfl
      have hq_15 : (-4 : Int32) = zr (True) ((sFirst (sStR sh d) (sRowR sh e0))) (sJudge (sh (iN d)).2.1 sc (sh (iN e0))) := hv_16.trans (zr_ok trivial c_15).symm
      exact zireti hC hZ hr hlocks ⟨hq_15, (sIt (sF (sh (iN d)).2.1 sc) j sCC), hX38, hfl38⟩ dX6_judge_113
    · refine lv_iload hx hb dX6_judge_48 (lv_at hl 0 rfl) ?_
      refine lv_bipush (v := 100) hx hb dX6_judge_50 (by decide) ?_
      have hlt0 := zlt2 hz0.1 (by omega) c_45
      refine lv_icmp_ge (tgt := 111) hx hb dX6_judge_52 (by decide) (fun h => absurd h (by rw [Int32.not_le]; exact nI_lt (a := j) (b := 100) (by omega) (by omega))) (fun _ => ?_)
      refine lv_aload_n hx hb dX6_judge_55 rfl (lv_at hl 3 rfl) ?_
      refine zget hC hZ fX6_10 (zlt hn rfl) hX38.1 rfl dX6_judge_56 ?_
      refine lv_aload_n hx hb dX6_judge_59 rfl (lv_at hl 3 rfl) ?_
      refine zget hC hZ fX6_57 (zlt hn rfl) hX38.1 rfl dX6_judge_60 ?_
      refine lv_aload_n hx hb dX6_judge_63 rfl (lv_at hl 3 rfl) ?_
      refine zget hC hZ fX6_25 (zlt hn rfl) hX38.1 rfl dX6_judge_64 ?_
      refine lv_iload_n hx hb dX6_judge_67 rfl (lv_at hl 4 rfl) ?_
      refine zaald hC hZ (zlt hn rfl) hX38.2.2.2.1 (C := RX4) rfl hsd.1.1 hsd.1.2 (by decide) rfl dX6_judge_68 ?_
      refine zget hC hZ fX6_160 (by have := hsd.1.2; omega) (hX38.2.2.2.2.1 (iN d) hsd.1.2).1 rfl dX6_judge_69 ?_
      refine zgov hZ hA (zrunV (As := [.ref (ad 55), .ref (ad (26 + 3 * (iN d) + 1))]) (rest := []) (k := 1) hC hZ (c_X2_step l D cy n ad F3_38 H.size 1 sc (by omega) hX38.2.1 55 (sIt (sF (sh (iN d)).2.1 sc) j sCC) (zlt hn rfl) hX38.2.2.2.2.2.2.2.2.2 (26 + 3 * (iN d) + 1) (sh (iN d)).2.1 (by have := hsd.1.2; omega) (hX38.2.2.2.2.1 (iN d) hsd.1.2).2.1) mX2_step vX2_step kX6_177 (zRj_of rfl) (zlt hn rfl) hX38.2.1.1 rfl rfl hl.1 rfl (Nat.le_of_ble_eq_true rfl) dX6_judge_72 ⟨Nat.le_refl _, Nat.le_refl _⟩) (fun F_17 hp_19 H locs hZ => ?_)
      have hX_20 := rx_mind hX38 hp_19
      have hf_21 := fr56_up hfl38 hp_19 (by decide)
      have hX_20 : RX ad cy F_17 pic sc ps sh rd dr fa (sStep (sKick (sh (iN d)).2.1 sc.1) (sLess (sh (iN d)).2.1 sc.1) sc.1.2.2.2 sc.2.1 (sIt (sF (sh (iN d)).2.1 sc) j sCC)) := hX_20
      refine lv_aload hx hb dX6_judge_75 (lv_at hl 1 rfl) ?_
      refine lv_iload hx hb dX6_judge_77 (lv_at hl 0 rfl) ?_
      refine zgoi hZ hA (zrunV (As := [.int (nI j)]) (rest := []) (k := 26 + 3 * (iN e0)) hC hZ (c_X4_tells l D cy n ad F_17 H.size (26 + 3 * (iN e0)) (sh (iN e0)) (by have := hse.1.2; omega) (hX_20.2.2.2.2.1 (iN e0) hse.1.2) (nI j)) mX4_tells vX4_tells kX6_228 (zRj_of rfl) (by have := hse.1.2; omega) (hX_20.2.2.2.2.1 (iN e0) hse.1.2).1 rfl rfl hl.1 rfl (Nat.le_of_ble_eq_true rfl) dX6_judge_79 ⟨Nat.le_refl _, Nat.le_refl _⟩) (fun r_23 F_22 hp_24 H locs hZ => ?_)
      obtain ⟨hp_24, rfl⟩ := hp_24
      by_cases b_25 : bTells (sh (iN e0)).2.2.1 (sh (iN e0)).2.2.2.1 (sh (iN e0)).2.2.2.2 (nI j)
      · rw [if_pos b_25] at hp_24
        subst hp_24
        refine lv_if_eq (tgt := 105) hx hb dX6_judge_82 (by decide) (fun h => absurd (show (1 : Int32) = 0 from h) (by decide)) (fun _ => ?_)
        refine lv_aload hx hb dX6_judge_85 (lv_at hl 1 rfl) ?_
        refine lv_iload hx hb dX6_judge_87 (lv_at hl 0 rfl) ?_
        refine zgoi hZ hA (zrunV (As := [.int (nI j)]) (rest := []) (k := 26 + 3 * (iN e0)) hC hZ (c_X4_at l D cy n ad F_17 H.size (26 + 3 * (iN e0)) (sh (iN e0)) (by have := hse.1.2; omega) (hX_20.2.2.2.2.1 (iN e0) hse.1.2) (nI j)) mX4_at vX4_at kX6_231 (zRj_of rfl) (by have := hse.1.2; omega) (hX_20.2.2.2.2.1 (iN e0) hse.1.2).1 rfl rfl hl.1 rfl (Nat.le_of_ble_eq_true rfl) dX6_judge_89 ⟨Nat.le_refl _, Nat.le_refl _⟩) (fun r_27 F_26 hp_28 H locs hZ => ?_)
        obtain ⟨rfl, rfl⟩ := hp_28
        refine lv_aload_n hx hb dX6_judge_92 rfl (lv_at hl 3 rfl) ?_
        refine zget hC hZ fX6_57 (zlt hn rfl) hX_20.1 rfl dX6_judge_93 ?_
        refine zget hC hZ fX6_184 (zlt hn rfl) hX_20.2.2.2.2.2.2.2.2.2 rfl dX6_judge_96 ?_
        refine lv_icmp_eq (tgt := 105) hx hb dX6_judge_99 (by decide) (fun c_99 => ?_) (fun c_99 => ?_)
        · refine lv_iinc (v := nI (j + 1)) (lv' := [(5, .int (nI (j + 1))), (4, .ref (ad (26 + 3 * (iN e0)))), (3, .int (sFirst (sStR sh d) (sRowR sh e0))), (0, .ref (ad 0)), (1, .int d), (2, .int e0)]) hx hb dX6_judge_105 hl (k := 0) rfl (nI_1 j) (by decide) rfl (fun ls hl => ?_)
          refine lv_goto (tgt := 38) hx hb dX6_judge_108 (by decide) ?_
          have hlt := zlt2 hz0.1 (by omega) c_45
          have hnx := zfind_next (P := sJudP (sh (iN d)).2.1 sc (sh (iN e0))) (f := iN (sh (iN e0)).2.2.2.1 - (j + 1)) (g := iN (sh (iN e0)).2.2.2.1 - j) (i := j) (by omega) (fun h => (of_decide_eq_true h).2 c_99)
          exact ih38 (j + 1) ls _ H locs (by show iN (sh (iN e0)).2.2.2.1 - (j + 1) < iN (sh (iN e0)).2.2.2.1 - j; omega) hZ ⟨hl, hX_20, hf_21, hlt, (hnx.symm.trans hT)⟩
        · refine lv_iload hx hb dX6_judge_102 (lv_at hl 0 rfl) ?_
          have hlt := zlt2 hz0.1 (by omega) c_45
          have hv_30 : nI j = sJudge (sh (iN d)).2.1 sc (sh (iN e0)) := by rw [← hT]; exact (zfind_hit (f := iN (sh (iN e0)).2.2.2.1 - (j + 1)) (by omega) (decide_eq_true ⟨b_25, c_99⟩)).symm
          have hq_29 : nI j = zr (True) ((sFirst (sStR sh d) (sRowR sh e0))) (sJudge (sh (iN d)).2.1 sc (sh (iN e0))) := hv_30.trans (zr_ok trivial c_15).symm
          exact zireti hC hZ hr hlocks ⟨hq_29, (sStep (sKick (sh (iN d)).2.1 sc.1) (sLess (sh (iN d)).2.1 sc.1) sc.1.2.2.2 sc.2.1 (sIt (sF (sh (iN d)).2.1 sc) j sCC)), hX_20, hf_21⟩ dX6_judge_104
      · rw [if_neg b_25] at hp_24
        subst hp_24
        refine lv_if_eq (tgt := 105) hx hb dX6_judge_82 (by decide) (fun _ => ?_) (fun h => absurd (show (0 : Int32) = 0 by decide) h)
        refine lv_iinc (v := nI (j + 1)) (lv' := [(5, .int (nI (j + 1))), (4, .ref (ad (26 + 3 * (iN e0)))), (3, .int (sFirst (sStR sh d) (sRowR sh e0))), (0, .ref (ad 0)), (1, .int d), (2, .int e0)]) hx hb dX6_judge_105 hl (k := 0) rfl (nI_1 j) (by decide) rfl (fun ls hl => ?_)
        refine lv_goto (tgt := 38) hx hb dX6_judge_108 (by decide) ?_
        have hlt := zlt2 hz0.1 (by omega) c_45
        have hnx := zfind_next (P := sJudP (sh (iN d)).2.1 sc (sh (iN e0))) (f := iN (sh (iN e0)).2.2.2.1 - (j + 1)) (g := iN (sh (iN e0)).2.2.2.1 - j) (i := j) (by omega) (fun h => b_25 (of_decide_eq_true h).1)
        exact ih38 (j + 1) ls _ H locs (by show iN (sh (iN e0)).2.2.2.1 - (j + 1) < iN (sh (iN e0)).2.2.2.1 - j; omega) hZ ⟨hl, hX_20, hf_21, hlt, (hnx.symm.trans hT)⟩
  · refine lv_iload_n hx hb dX6_judge_18 rfl (lv_at hl 0 rfl) ?_
    have hq_31 : (sFirst (sStR sh d) (sRowR sh e0)) = zr (True) ((sFirst (sStR sh d) (sRowR sh e0))) (sJudge (sh (iN d)).2.1 sc (sh (iN e0))) := (zr_rf trivial c_15).symm
    exact zireti hC hZ hr hlocks ⟨hq_31, mi, hX, fr56_rf⟩ dX6_judge_19
