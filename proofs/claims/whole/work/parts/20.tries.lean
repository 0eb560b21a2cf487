theorem mX6_readTries : zMd yX6_readTries cX6_readTries 6 (some .int) 1 := ⟨by decide +kernel, gt_of 288 (by decide +kernel) rfl, gt_of 45 (by decide +kernel) rfl, by decide⟩
theorem dX6_readTries_0 : decode cX6_readTries 0 = .ok (.iconst 0, 1) := by decide +kernel
theorem dX6_readTries_1 : decode cX6_readTries 1 = .ok (.istore_n 2, 1) := by decide +kernel
theorem dX6_readTries_2 : decode cX6_readTries 2 = .ok (.iconst (-1), 1) := by decide +kernel
theorem dX6_readTries_3 : decode cX6_readTries 3 = .ok (.istore_n 3, 1) := by decide +kernel
theorem dX6_readTries_4 : decode cX6_readTries 4 = .ok (.aload_n 0, 1) := by decide +kernel
theorem dX6_readTries_5 : decode cX6_readTries 5 = .ok (.getfield 33, 3) := by decide +kernel
theorem fX6_33 : zFld RX6 33 6 4 := ⟨RX6, TX6, 9, rfl, inX6, by decide, rfl, Or.inl (gt_of 232 (by decide +kernel) rfl)⟩
theorem dX6_readTries_8 : decode cX6_readTries 8 = .ok (.aload_n 1, 1) := by decide +kernel
theorem dX6_readTries_9 : decode cX6_readTries 9 = .ok (.invokevirtual 125, 3) := by decide +kernel
theorem kX6_125 : zLk RX6 125 yX1_open := Or.inl (gt_of 289 (by decide +kernel) rfl)
theorem vX1_open : zMi yX1_open := ⟨gt_of 290 (by decide +kernel) rfl, gt_of 291 (by decide +kernel) rfl⟩
theorem dX6_readTries_12 : decode cX6_readTries 12 = .ok (.iconst 0, 1) := by decide +kernel
theorem dX6_readTries_13 : decode cX6_readTries 13 = .ok (.istore 4, 2) := by decide +kernel
theorem dX6_readTries_15 : decode cX6_readTries 15 = .ok (.iload 4, 2) := by decide +kernel
theorem dX6_readTries_17 : decode cX6_readTries 17 = .ok (.bipush 100, 2) := by decide +kernel
theorem dX6_readTries_19 : decode cX6_readTries 19 = .ok (.if_icmp .ge 96, 3) := by decide +kernel
theorem dX6_readTries_22 : decode cX6_readTries 22 = .ok (.aload_n 0, 1) := by decide +kernel
theorem dX6_readTries_23 : decode cX6_readTries 23 = .ok (.getfield 33, 3) := by decide +kernel
theorem dX6_readTries_26 : decode cX6_readTries 26 = .ok (.getfield 129, 3) := by decide +kernel
theorem fX6_129 : zFld RX6 129 1 2 := ⟨RX1, TX1, 4, rfl, inX1, by decide, rfl, Or.inr ⟨"ChainLeap", List.mem_of_getElem? (i := 210) (by decide +kernel)⟩⟩
theorem dX6_readTries_29 : decode cX6_readTries 29 = .ok (.istore 5, 2) := by decide +kernel
theorem dX6_readTries_31 : decode cX6_readTries 31 = .ok (.aload_n 0, 1) := by decide +kernel
theorem dX6_readTries_32 : decode cX6_readTries 32 = .ok (.getfield 33, 3) := by decide +kernel
theorem dX6_readTries_35 : decode cX6_readTries 35 = .ok (.aload_n 0, 1) := by decide +kernel
theorem dX6_readTries_36 : decode cX6_readTries 36 = .ok (.getfield 10, 3) := by decide +kernel
theorem dX6_readTries_39 : decode cX6_readTries 39 = .ok (.getfield 93, 3) := by decide +kernel
theorem dX6_readTries_42 : decode cX6_readTries 42 = .ok (.aload_n 0, 1) := by decide +kernel
theorem dX6_readTries_43 : decode cX6_readTries 43 = .ok (.getfield 40, 3) := by decide +kernel
theorem dX6_readTries_46 : decode cX6_readTries 46 = .ok (.invokevirtual 132, 3) := by decide +kernel
theorem kX6_132 : zLk RX6 132 yX1_readStatement := Or.inl (gt_of 304 (by decide +kernel) rfl)
theorem vX1_readStatement : zMi yX1_readStatement := ⟨gt_of 305 (by decide +kernel) rfl, gt_of 306 (by decide +kernel) rfl⟩
theorem dX6_readTries_49 : decode cX6_readTries 49 = .ok (.aload_n 0, 1) := by decide +kernel
theorem dX6_readTries_50 : decode cX6_readTries 50 = .ok (.getfield 33, 3) := by decide +kernel
theorem dX6_readTries_53 : decode cX6_readTries 53 = .ok (.getfield 136, 3) := by decide +kernel
theorem fX6_136 : zFld RX6 136 1 3 := ⟨RX1, TX1, 4, rfl, inX1, by decide, rfl, Or.inr ⟨"ChainLeap", List.mem_of_getElem? (i := 212) (by decide +kernel)⟩⟩
theorem dX6_readTries_56 : decode cX6_readTries 56 = .ok (.ifCond .eq 15, 3) := by decide +kernel
theorem dX6_readTries_71 : decode cX6_readTries 71 = .ok (.iload_n 3, 1) := by decide +kernel
theorem dX6_readTries_72 : decode cX6_readTries 72 = .ok (.ifCond .ge 21, 3) := by decide +kernel
theorem dX6_readTries_93 : decode cX6_readTries 93 = .ok (.iinc 2 1, 3) := by decide +kernel
theorem dX6_readTries_96 : decode cX6_readTries 96 = .ok (.aload_n 0, 1) := by decide +kernel
theorem dX6_readTries_97 : decode cX6_readTries 97 = .ok (.getfield 33, 3) := by decide +kernel
theorem dX6_readTries_100 : decode cX6_readTries 100 = .ok (.invokevirtual 143, 3) := by decide +kernel
theorem kX6_143 : zLk RX6 143 yX1_isAtEnd := Or.inl (gt_of 345 (by decide +kernel) rfl)
theorem vX1_isAtEnd : zMi yX1_isAtEnd := ⟨gt_of 346 (by decide +kernel) rfl, gt_of 347 (by decide +kernel) rfl⟩
theorem dX6_readTries_103 : decode cX6_readTries 103 = .ok (.ifCond .eq 6, 3) := by decide +kernel
theorem dX6_readTries_106 : decode cX6_readTries 106 = .ok (.goto 9, 3) := by decide +kernel
theorem dX6_readTries_115 : decode cX6_readTries 115 = .ok (.iload_n 3, 1) := by decide +kernel
theorem dX6_readTries_116 : decode cX6_readTries 116 = .ok (.ifCond .lt 9, 3) := by decide +kernel
theorem dX6_readTries_119 : decode cX6_readTries 119 = .ok (.sipush (-2000), 3) := by decide +kernel
theorem dX6_readTries_122 : decode cX6_readTries 122 = .ok (.iload_n 3, 1) := by decide +kernel
theorem dX6_readTries_123 : decode cX6_readTries 123 = .ok (.isub, 1) := by decide +kernel
theorem dX6_readTries_124 : decode cX6_readTries 124 = .ok (.ireturn, 1) := by decide +kernel
theorem dX6_readTries_109 : decode cX6_readTries 109 = .ok (.iinc 4 1, 3) := by decide +kernel
theorem dX6_readTries_112 : decode cX6_readTries 112 = .ok (.goto (-97), 3) := by decide +kernel
theorem dX6_readTries_75 : decode cX6_readTries 75 = .ok (.aload_n 0, 1) := by decide +kernel
theorem dX6_readTries_76 : decode cX6_readTries 76 = .ok (.getfield 10, 3) := by decide +kernel
theorem dX6_readTries_79 : decode cX6_readTries 79 = .ok (.aload_n 0, 1) := by decide +kernel
theorem dX6_readTries_80 : decode cX6_readTries 80 = .ok (.getfield 40, 3) := by decide +kernel
theorem dX6_readTries_83 : decode cX6_readTries 83 = .ok (.iload_n 2, 1) := by decide +kernel
theorem dX6_readTries_84 : decode cX6_readTries 84 = .ok (.invokevirtual 139, 3) := by decide +kernel
theorem kX6_139 : zLk RX6 139 yX2_writes := Or.inl (gt_of 332 (by decide +kernel) rfl)
theorem vX2_writes : zMi yX2_writes := ⟨gt_of 333 (by decide +kernel) rfl, gt_of 334 (by decide +kernel) rfl⟩
theorem dX6_readTries_87 : decode cX6_readTries 87 = .ok (.ifCond .ne 6, 3) := by decide +kernel
theorem dX6_readTries_125 : decode cX6_readTries 125 = .ok (.aload_n 0, 1) := by decide +kernel
theorem dX6_readTries_126 : decode cX6_readTries 126 = .ok (.getfield 10, 3) := by decide +kernel
theorem dX6_readTries_129 : decode cX6_readTries 129 = .ok (.dup, 1) := by decide +kernel
theorem dX6_readTries_130 : decode cX6_readTries 130 = .ok (.getfield 147, 3) := by decide +kernel
theorem dX6_readTries_133 : decode cX6_readTries 133 = .ok (.iload_n 2, 1) := by decide +kernel
theorem dX6_readTries_134 : decode cX6_readTries 134 = .ok (.iadd, 1) := by decide +kernel
theorem dX6_readTries_135 : decode cX6_readTries 135 = .ok (.putfield 147, 3) := by decide +kernel
theorem dX6_readTries_138 : decode cX6_readTries 138 = .ok (.iload_n 2, 1) := by decide +kernel
theorem dX6_readTries_139 : decode cX6_readTries 139 = .ok (.ireturn, 1) := by decide +kernel
theorem dX6_readTries_90 : decode cX6_readTries 90 = .ok (.iload 5, 2) := by decide +kernel
theorem dX6_readTries_92 : decode cX6_readTries 92 = .ok (.istore_n 3, 1) := by decide +kernel
theorem dX6_readTries_59 : decode cX6_readTries 59 = .ok (.sipush (-1000), 3) := by decide +kernel
theorem dX6_readTries_62 : decode cX6_readTries 62 = .ok (.aload_n 0, 1) := by decide +kernel
theorem dX6_readTries_63 : decode cX6_readTries 63 = .ok (.getfield 33, 3) := by decide +kernel
theorem dX6_readTries_66 : decode cX6_readTries 66 = .ok (.getfield 129, 3) := by decide +kernel
theorem dX6_readTries_69 : decode cX6_readTries 69 = .ok (.isub, 1) := by decide +kernel
theorem dX6_readTries_70 : decode cX6_readTries 70 = .ok (.ireturn, 1) := by decide +kernel
set_option maxRecDepth 100000 in
theorem c_X6_readTries (l : Launch) (D : va_G) (cy : Nat → Nat) (n : Nat) (ad : Nat → Nat) (F : Nat → va_E) (sz : Nat) (pic : Int32) (sc ps : Scn) (sh : Nat → Shf) (rd : Rdr) (dr : Stg) (fa : Tal) (mi : Crs) (hn : 56 ≤ n) (hX : RX ad cy F pic sc ps sh rd dr fa mi) (hG : gX sc ps sh) (d zn : Nat) (hd : d < 8) (hzn : zn ≤ 100) (hz : (sh d).2.2.2.1 = nI zn) : Met l yX6_readTries (zw yX6_readTries cX6_readTries 6 (some .int)) (rmL 5) (zPc D cy n ad F sz [.ref (ad 0), .ref (ad (26 + 3 * d))]) (va_Qi (fun r F1 => ∃ tr1 tc1, TPost (sNext (sh d).2.2.2.2 (nI zn)) sc.1 (nI zn) sc.2.2.2.1 sc.2.2.1 r tr1 tc1 ∧ ∃ rd1 dr1, RX ad cy F1 pic (sc.1, sc.2.1, tr1, tc1, sc.2.2.2.2) ps sh rd1 dr1 fa mi ∧ fr56 F F1) (zB D n ad) (zA n ad sz)) 0 0 (zA n ad sz) := by
  refine zmet (by decide +kernel) (Nat.le_of_ble_eq_true rfl) (fun p e s m args below meth c ls hC hsz hZ hA hr hlocks hnm hl => ?_)
  have hC : zC p m c cX6_readTries 6 s args RX6 D cy := hC
  have hx := hC.1.1
  have hb := hC.1.2.1
  have hl : lv_has ls 6 [(0, .ref (ad 0)), (1, .ref (ad (26 + 3 * d)))] := hl
  have htc := tc_n hG.1
  have hPR : PR (sNext (sh d).2.2.2.2 (nI zn)) (zn : Int) := sNext_PR hzn
  have hUG := fun j => sU_G (t := sc.1) (Int.natCast_nonneg zn) hPR j
  have hU0 : ∀ k, 0 ≤ (sU (sNext (sh d).2.2.2.2 (nI zn)) sc.1 k).1 := fun k => i32le.mpr (hUG k).1.1
  have hch : sNext (zcop (sh d).2.2.2.2 rd.1 zn) (nI zn) = (sNext (sh d).2.2.2.2 (nI zn)) := sNext_zcop hzn
  refine lv_iconst (v := 0) hx hb dX6_readTries_0 (by decide) ?_
  refine lv_istore_n (lv' := [(2, .int 0), (0, .ref (ad 0)), (1, .ref (ad (26 + 3 * d)))]) hx hb dX6_readTries_1 rfl hl (by decide) rfl (fun ls hl => ?_)
  refine lv_iconst (v := (-1)) hx hb dX6_readTries_2 (by decide) ?_
  refine lv_istore_n (lv' := [(3, .int (-1)), (2, .int 0), (0, .ref (ad 0)), (1, .ref (ad (26 + 3 * d)))]) hx hb dX6_readTries_3 rfl hl (by decide) rfl (fun ls hl => ?_)
  refine lv_aload_n hx hb dX6_readTries_4 rfl (lv_at hl 2 rfl) ?_
  refine zget hC hZ fX6_33 (zlt hn rfl) hX.1 rfl dX6_readTries_5 ?_
  refine lv_aload_n hx hb dX6_readTries_8 rfl (lv_at hl 3 rfl) ?_
  refine zgov hZ hA (zrunV (As := [.ref (ad (26 + 3 * d))]) (rest := []) (k := 50) hC hZ (c_X1_open l D cy n ad F s.heap.size 50 rd.1 rd.2.1 rd.2.2 (by omega) hX.2.2.2.2.2.1.1 hX.2.2.2.2.2.1.2 (26 + 3 * d) (sh d) (by have := hd; omega) (hX.2.2.2.2.1 d hd) (by omega) zn hzn hz) mX1_open vX1_open kX6_125 (zRj_of rfl) (zlt hn rfl) hX.2.2.2.2.2.1.1 rfl rfl hl.1 rfl (Nat.le_of_ble_eq_true rfl) dX6_readTries_9 ⟨Nat.le_refl _, Nat.le_refl _⟩) (fun F_1 hp_3 H locs hZ => ?_)
  have hX_4 := rx_open hX hp_3
  have hf_5 := fr56_bl fr56_rf hp_3.2.2 (by decide)
  refine lv_iconst (v := 0) hx hb dX6_readTries_12 (by decide) ?_
  refine lv_istore (lv' := [(4, .int 0), (3, .int (-1)), (2, .int 0), (0, .ref (ad 0)), (1, .ref (ad (26 + 3 * d)))]) hx hb dX6_readTries_13 hl (by decide) rfl (fun ls hl => ?_)
  refine zlp (X := Nat × Int32 × (Nat → Stg) × Stg) 15 (fun _ => []) (fun x ls F1 => lv_has ls 6 [(4, .int (nI x.1)), (3, .int x.2.1), (2, .int (nI x.1)), (0, .ref (ad 0)), (1, .ref (ad (26 + 3 * d)))] ∧ RX ad cy F1 pic (sc.1, sc.2.1, x.2.2.1, sc.2.2.2.1, sc.2.2.2.2) ps sh (zcop (sh d).2.2.2.2 rd.1 zn, nI zn, (sU (sNext (sh d).2.2.2.2 (nI zn)) sc.1 x.1).1, (sU (sNext (sh d).2.2.2.2 (nI zn)) sc.1 x.1).2) x.2.2.2 fa mi ∧ fr56 F F1 ∧ (∀ i, 1 ≤ i → i ≤ x.1 → (sU (sNext (sh d).2.2.2.2 (nI zn)) sc.1 i).2 = 0 ∧ (sU (sNext (sh d).2.2.2.2 (nI zn)) sc.1 i).1 < nI zn) ∧ (TI (sNext (sh d).2.2.2.2 (nI zn)) sc.1 sc.2.2.2.1 sc.2.2.1 x.1 x.2.1 x.2.2.1)) (fun x => 100 - x.1) ?_ (0, (-1), sc.2.2.1, dr) hZ ⟨hl, hX_4, hf_5, (fun i h1 h2 => by omega), (TI_0 hG.1.2.2.2.1)⟩
  intro x ih15 ls F3_15 H locs hZ hφ
  obtain ⟨j, wv, tr1, dv⟩ := x
  obtain ⟨hl, hXl, hfl15, hAA, hTI⟩ := hφ
  have hl : lv_has ls 6 [(4, .int (nI j)), (3, .int wv), (2, .int (nI j)), (0, .ref (ad 0)), (1, .ref (ad (26 + 3 * d)))] := hl
  have hX15 : RX ad cy F3_15 pic (sc.1, sc.2.1, tr1, sc.2.2.2.1, sc.2.2.2.2) ps sh (zcop (sh d).2.2.2.2 rd.1 zn, nI zn, (sU (sNext (sh d).2.2.2.2 (nI zn)) sc.1 j).1, (sU (sNext (sh d).2.2.2.2 (nI zn)) sc.1 j).2) dv fa mi := hXl
  have hAA : ∀ i, 1 ≤ i → i ≤ j → (sU (sNext (sh d).2.2.2.2 (nI zn)) sc.1 i).2 = 0 ∧ (sU (sNext (sh d).2.2.2.2 (nI zn)) sc.1 i).1 < nI zn := hAA
  have hTI : TI (sNext (sh d).2.2.2.2 (nI zn)) sc.1 sc.2.2.2.1 sc.2.2.1 j wv tr1 := hTI
  have hj34 : j ≤ 33 := by rcases Nat.eq_zero_or_pos j with h | h; omega; have h1 := hAA j h (Nat.le_refl j); have h2 := (hUG j).2 h1.1; have h3 := i32lt.mp h1.2; rw [nI_toInt (by omega)] at h3; omega
  refine lv_iload hx hb dX6_readTries_15 (lv_at hl 0 rfl) ?_
  refine lv_bipush (v := 100) hx hb dX6_readTries_17 (by decide) ?_
  refine lv_icmp_ge (tgt := 115) hx hb dX6_readTries_19 (by decide) (fun h => absurd h (by rw [Int32.not_le]; exact nI_lt (a := j) (b := 100) (by omega) (by omega))) (fun _ => ?_)
  refine lv_aload_n hx hb dX6_readTries_22 rfl (lv_at hl 3 rfl) ?_
  refine zget hC hZ fX6_33 (zlt hn rfl) hX15.1 rfl dX6_readTries_23 ?_
  refine zget hC hZ fX6_129 (zlt hn rfl) hX15.2.2.2.2.2.1.1 rfl dX6_readTries_26 ?_
  refine lv_istore (lv' := [(5, .int ((sU (sNext (sh d).2.2.2.2 (nI zn)) sc.1 j).1)), (4, .int (nI j)), (3, .int wv), (2, .int (nI j)), (0, .ref (ad 0)), (1, .ref (ad (26 + 3 * d)))]) hx hb dX6_readTries_29 hl (by decide) rfl (fun ls hl => ?_)
  refine lv_aload_n hx hb dX6_readTries_31 rfl (lv_at hl 4 rfl) ?_
  refine zget hC hZ fX6_33 (zlt hn rfl) hX15.1 rfl dX6_readTries_32 ?_
  refine lv_aload_n hx hb dX6_readTries_35 rfl (lv_at hl 4 rfl) ?_
  refine zget hC hZ fX6_10 (zlt hn rfl) hX15.1 rfl dX6_readTries_36 ?_
  refine zget hC hZ fX6_93 (zlt hn rfl) hX15.2.1.1 rfl dX6_readTries_39 ?_
  refine lv_aload_n hx hb dX6_readTries_42 rfl (lv_at hl 4 rfl) ?_
  refine zget hC hZ fX6_40 (zlt hn rfl) hX15.1 rfl dX6_readTries_43 ?_
  refine zgov hZ hA (zrunV (As := [.ref (ad 2), .ref (ad 52)]) (rest := []) (k := 50) hC hZ (c_X1_readStatement l D cy n ad F3_15 H.size 50 (zcop (sh d).2.2.2.2 rd.1 zn) (nI zn) (sU (sNext (sh d).2.2.2.2 (nI zn)) sc.1 j) (by omega) hX15.2.2.2.2.2.1.1 hX15.2.2.2.2.2.1.2 2 sc.1 (zlt hn rfl) hX15.2.1.2.1 52 dv (zlt hn rfl) hX15.2.2.2.2.2.2.1 (by decide) (by decide) (by decide) (by decide)) mX1_readStatement vX1_readStatement kX6_132 (zRj_of rfl) (zlt hn rfl) hX15.2.2.2.2.2.1.1 rfl rfl hl.1 rfl (Nat.le_of_ble_eq_true rfl) dX6_readTries_46 ⟨Nat.le_refl _, Nat.le_refl _⟩) (fun F_6 hp_8 H locs hZ => ?_)
  rw [hch] at hp_8
  obtain ⟨u1, hu1⟩ : ∃ y, y = (sU (sNext (sh d).2.2.2.2 (nI zn)) sc.1 (j + 1)) := ⟨_, rfl⟩
  obtain ⟨t1, ht1⟩ : ∃ y, y = (sTS (sNext (sh d).2.2.2.2 (nI zn)) sc.1 j) := ⟨_, rfl⟩
  have hu1s : u1 = (sStm (sNext (sh d).2.2.2.2 (nI zn)) sc.1 (sU (sNext (sh d).2.2.2.2 (nI zn)) sc.1 j)).2 := hu1
  have ht1s : t1 = (sStm (sNext (sh d).2.2.2.2 (nI zn)) sc.1 (sU (sNext (sh d).2.2.2.2 (nI zn)) sc.1 j)).1 := ht1
  rw [← hu1s, ← ht1s] at hp_8
  have hX_9 : RX ad cy F_6 pic (sc.1, sc.2.1, tr1, sc.2.2.2.1, sc.2.2.2.2) ps sh (zcop (sh d).2.2.2.2 rd.1 zn, nI zn, u1.1, u1.2) t1 fa mi := rx_stm (u := u1) hX15 hp_8
  have hf_10 : fr56 F F_6 := fun q hq => (hp_8.2.2 q (by omega) (by omega)).trans (hfl15 q hq)
  refine lv_aload_n hx hb dX6_readTries_49 rfl (lv_at hl 4 rfl) ?_
  refine zget hC hZ fX6_33 (zlt hn rfl) hX_9.1 rfl dX6_readTries_50 ?_
  refine zget hC hZ fX6_136 (zlt hn rfl) hX_9.2.2.2.2.2.1.1 rfl dX6_readTries_53 ?_
  refine lv_if_eq (tgt := 71) hx hb dX6_readTries_56 (by decide) (fun c_56 => ?_) (fun c_56 => ?_)
  · refine lv_iload_n hx hb dX6_readTries_71 rfl (lv_at hl 2 rfl) ?_
    refine lv_if_ge (tgt := 93) hx hb dX6_readTries_72 (by decide) (fun c_72 => ?_) (fun c_72 => ?_)
    · refine lv_iinc (v := nI (j + 1)) (lv' := [(2, .int (nI (j + 1))), (5, .int ((sU (sNext (sh d).2.2.2.2 (nI zn)) sc.1 j).1)), (4, .int (nI j)), (3, .int wv), (0, .ref (ad 0)), (1, .ref (ad (26 + 3 * d)))]) hx hb dX6_readTries_93 hl (k := 3) rfl (nI_1 j) (by decide) rfl (fun ls hl => ?_)
      refine lv_aload_n hx hb dX6_readTries_96 rfl (lv_at hl 4 rfl) ?_
      refine zget hC hZ fX6_33 (zlt hn rfl) hX_9.1 rfl dX6_readTries_97 ?_
      refine zgoi hZ hA (zrunV (As := []) (rest := []) (k := 50) hC hZ (c_X1_isAtEnd l D cy n ad F_6 H.size 50 (zcop (sh d).2.2.2.2 rd.1 zn) (nI zn) u1 (by omega) hX_9.2.2.2.2.2.1.1 hX_9.2.2.2.2.2.1.2) mX1_isAtEnd vX1_isAtEnd kX6_143 (zRj_of rfl) (zlt hn rfl) hX_9.2.2.2.2.2.1.1 rfl rfl hl.1 rfl (Nat.le_of_ble_eq_true rfl) dX6_readTries_100 ⟨Nat.le_refl _, Nat.le_refl _⟩) (fun r_13 F_12 hp_14 H locs hZ => ?_)
      obtain ⟨hp_14, rfl⟩ := hp_14
      by_cases b_15 : (nI zn) ≤ u1.1
      · rw [if_pos b_15] at hp_14
        subst hp_14
        refine lv_if_eq (tgt := 109) hx hb dX6_readTries_103 (by decide) (fun h => absurd (show (1 : Int32) = 0 from h) (by decide)) (fun _ => ?_)
        refine lv_goto (tgt := 115) hx hb dX6_readTries_106 (by decide) ?_
        refine lv_iload_n hx hb dX6_readTries_115 rfl (lv_at hl 3 rfl) ?_
        refine lv_if_lt (tgt := 125) hx hb dX6_readTries_116 (by decide) (fun h => absurd h (Int32.not_lt.mpr c_72)) (fun _ => ?_)
        refine lv_sipush (v := (-2000)) hx hb dX6_readTries_119 (by decide) ?_
        refine lv_iload_n hx hb dX6_readTries_122 rfl (lv_at hl 3 rfl) ?_
        refine lv_isub hx hb dX6_readTries_123 ?_
        have hS : Stop (sNext (sh d).2.2.2.2 (nI zn)) sc.1 (nI zn) (j + 1) := ⟨by omega, fun i h1 h2 => hAA i h1 (by omega), Or.inr (by rw [← hu1]; exact b_15)⟩
        have hti := (TI_skip hTI c_72)
        have hP := TPost_bad hti hS (by omega) (by rw [← hu1]; exact c_56) c_72
        exact zireti hC hZ hr hlocks ⟨tr1, sc.2.2.2.1, hP, (zcop (sh d).2.2.2.2 rd.1 zn, nI zn, u1.1, u1.2), t1, hX_9, hf_10⟩ dX6_readTries_124
      · rw [if_neg b_15] at hp_14
        subst hp_14
        refine lv_if_eq (tgt := 109) hx hb dX6_readTries_103 (by decide) (fun _ => ?_) (fun h => absurd (show (0 : Int32) = 0 by decide) h)
        refine lv_iinc (v := nI (j + 1)) (lv' := [(4, .int (nI (j + 1))), (2, .int (nI (j + 1))), (5, .int ((sU (sNext (sh d).2.2.2.2 (nI zn)) sc.1 j).1)), (3, .int wv), (0, .ref (ad 0)), (1, .ref (ad (26 + 3 * d)))]) hx hb dX6_readTries_109 hl (k := 2) rfl (nI_1 j) (by decide) rfl (fun ls hl => ?_)
        refine lv_goto (tgt := 15) hx hb dX6_readTries_112 (by decide) ?_
        have hti := (TI_skip hTI c_72)
        have hXf : RX ad cy F_6 pic (sc.1, sc.2.1, tr1, sc.2.2.2.1, sc.2.2.2.2) ps sh (zcop (sh d).2.2.2.2 rd.1 zn, nI zn, (sU (sNext (sh d).2.2.2.2 (nI zn)) sc.1 (j + 1)).1, (sU (sNext (sh d).2.2.2.2 (nI zn)) sc.1 (j + 1)).2) t1 fa mi := by rw [← hu1]; exact hX_9
        have hc56 : (sU (sNext (sh d).2.2.2.2 (nI zn)) sc.1 (j + 1)).2 = 0 ∧ (sU (sNext (sh d).2.2.2.2 (nI zn)) sc.1 (j + 1)).1 < nI zn := by rw [← hu1]; exact ⟨c_56, Int32.not_le.mp b_15⟩
        exact ih15 ((j + 1), wv, tr1, t1) ls _ H locs (by show 100 - (j + 1) < 100 - j; omega) hZ ⟨(lv_sub hl [0, 3, 1, 4, 5] rfl), hXf, hf_10, (fun i h1 h2 => by rcases Nat.lt_or_ge j i with h | h; have e : i = j + 1 := (by omega); rw [e]; exact hc56; exact hAA i h1 h), hti⟩
    · refine lv_aload_n hx hb dX6_readTries_75 rfl (lv_at hl 4 rfl) ?_
      refine zget hC hZ fX6_10 (zlt hn rfl) hX_9.1 rfl dX6_readTries_76 ?_
      refine lv_aload_n hx hb dX6_readTries_79 rfl (lv_at hl 4 rfl) ?_
      refine zget hC hZ fX6_40 (zlt hn rfl) hX_9.1 rfl dX6_readTries_80 ?_
      refine lv_iload_n hx hb dX6_readTries_83 rfl (lv_at hl 3 rfl) ?_
      refine zgoi hZ hA (zrunV (As := [.ref (ad 52), .int (nI j)]) (rest := []) (k := 1) hC hZ (c_X2_writes l D cy n ad F_6 H.size 1 (sc.1, sc.2.1, tr1, sc.2.2.2.1, sc.2.2.2.2) (by omega) hX_9.2.1 52 t1 (zlt hn rfl) hX_9.2.2.2.2.2.2.1 (by intro i hi; omega) (nI j)) mX2_writes vX2_writes kX6_139 (zRj_of rfl) (zlt hn rfl) hX_9.2.1.1 rfl rfl hl.1 rfl (Nat.le_of_ble_eq_true rfl) dX6_readTries_84 ⟨Nat.le_refl _, Nat.le_refl _⟩) (fun r_17 F_16 hp_18 H locs hZ => ?_)
      rcases hp_18 with ⟨hok, rfl, hF9⟩ | ⟨hok, rfl, rfl⟩
      · have hok : bOk (sNext (sh d).2.2.2.2 (nI zn)) sc.1 sc.2.2.2.1 j := by rw [ht1] at hok; exact hok
        have hi8 : iN (sc.2.2.2.1 + nI j) < 8 := (iN_at (N := 8) hok.2.1 hok.2.2 rfl).2
        have hX_19 : RX ad cy F_16 pic (sc.1, sc.2.1, va_up tr1 (iN (sc.2.2.2.1 + nI j)) t1, sc.2.2.2.1, sc.2.2.2.2) ps sh (zcop (sh d).2.2.2.2 rd.1 zn, nI zn, u1.1, u1.2) t1 fa mi := rx_try hi8 hX_9 hF9
        have hf_20 := fr56_up hf_10 hF9 (show 1 + 4 + iN (sc.2.2.2.1 + nI j) < 56 by omega)
        refine lv_if_ne (tgt := 93) hx hb dX6_readTries_87 (by decide) (fun _ => ?_) (fun h => absurd (show (1 : Int32) = 0 from h) (by decide))
        refine lv_iinc (v := nI (j + 1)) (lv' := [(2, .int (nI (j + 1))), (5, .int ((sU (sNext (sh d).2.2.2.2 (nI zn)) sc.1 j).1)), (4, .int (nI j)), (3, .int wv), (0, .ref (ad 0)), (1, .ref (ad (26 + 3 * d)))]) hx hb dX6_readTries_93 hl (k := 3) rfl (nI_1 j) (by decide) rfl (fun ls hl => ?_)
        refine lv_aload_n hx hb dX6_readTries_96 rfl (lv_at hl 4 rfl) ?_
        refine zget hC hZ fX6_33 (zlt hn rfl) hX_19.1 rfl dX6_readTries_97 ?_
        refine zgoi hZ hA (zrunV (As := []) (rest := []) (k := 50) hC hZ (c_X1_isAtEnd l D cy n ad F_16 H.size 50 (zcop (sh d).2.2.2.2 rd.1 zn) (nI zn) u1 (by omega) hX_19.2.2.2.2.2.1.1 hX_19.2.2.2.2.2.1.2) mX1_isAtEnd vX1_isAtEnd kX6_143 (zRj_of rfl) (zlt hn rfl) hX_19.2.2.2.2.2.1.1 rfl rfl hl.1 rfl (Nat.le_of_ble_eq_true rfl) dX6_readTries_100 ⟨Nat.le_refl _, Nat.le_refl _⟩) (fun r_22 F_21 hp_23 H locs hZ => ?_)
        obtain ⟨hp_23, rfl⟩ := hp_23
        by_cases b_24 : (nI zn) ≤ u1.1
        · rw [if_pos b_24] at hp_23
          subst hp_23
          refine lv_if_eq (tgt := 109) hx hb dX6_readTries_103 (by decide) (fun h => absurd (show (1 : Int32) = 0 from h) (by decide)) (fun _ => ?_)
          refine lv_goto (tgt := 115) hx hb dX6_readTries_106 (by decide) ?_
          refine lv_iload_n hx hb dX6_readTries_115 rfl (lv_at hl 3 rfl) ?_
          refine lv_if_lt (tgt := 125) hx hb dX6_readTries_116 (by decide) (fun _ => ?_) (fun h => absurd (Int32.not_le.mp c_72) h)
          refine lv_aload_n hx hb dX6_readTries_125 rfl (lv_at hl 4 rfl) ?_
          refine zget hC hZ fX6_10 (zlt hn rfl) hX_19.1 rfl dX6_readTries_126 ?_
          refine lv_dup hx hb dX6_readTries_129 rfl ?_
          refine zget hC hZ fX6_147 (zlt hn rfl) hX_19.2.1.1 rfl dX6_readTries_130 ?_
          refine lv_iload_n hx hb dX6_readTries_133 rfl (lv_at hl 0 rfl) ?_
          refine lv_iadd hx hb dX6_readTries_134 ?_
          refine zput (E := oScene ad 1 sc.2.1 (sc.2.2.2.1 + nI (j + 1))) hC hZ pX6_147 (zlt hn rfl) hX_19.2.1.1 rfl rfl rfl (Nat.le_of_ble_eq_true rfl) dX6_readTries_135 (fun F_25 hF_26 H locs hZ => ?_)
          have hX_27 := rx_self hX_19 hF_26
          have hf_28 := fr56_up hf_20 hF_26 (by decide)
          have hX_27 : RX ad cy F_25 pic (sc.1, sc.2.1, (va_up tr1 (iN (sc.2.2.2.1 + nI j)) t1), (sc.2.2.2.1 + nI (j + 1)), sc.2.2.2.2) ps sh (zcop (sh d).2.2.2.2 rd.1 zn, nI zn, u1.1, u1.2) t1 fa mi := hX_27
          refine lv_iload_n hx hb dX6_readTries_138 rfl (lv_at hl 0 rfl) ?_
          have hS : Stop (sNext (sh d).2.2.2.2 (nI zn)) sc.1 (nI zn) (j + 1) := ⟨by omega, fun i h1 h2 => hAA i h1 (by omega), Or.inr (by rw [← hu1]; exact b_24)⟩
          have hti := (TI_ok hTI c_72 hU0 hok (tc_add htc.1 htc.2 (by omega)))
          rw [← ht1] at hti
          have hP := TPost_good hti hS (by omega) (by rw [← hu1]; exact c_56) c_72 hU0
          exact zireti hC hZ hr hlocks ⟨(va_up tr1 (iN (sc.2.2.2.1 + nI j)) t1), (sc.2.2.2.1 + nI (j + 1)), hP, (zcop (sh d).2.2.2.2 rd.1 zn, nI zn, u1.1, u1.2), t1, hX_27, hf_28⟩ dX6_readTries_139
        · rw [if_neg b_24] at hp_23
          subst hp_23
          refine lv_if_eq (tgt := 109) hx hb dX6_readTries_103 (by decide) (fun _ => ?_) (fun h => absurd (show (0 : Int32) = 0 by decide) h)
          refine lv_iinc (v := nI (j + 1)) (lv' := [(4, .int (nI (j + 1))), (2, .int (nI (j + 1))), (5, .int ((sU (sNext (sh d).2.2.2.2 (nI zn)) sc.1 j).1)), (3, .int wv), (0, .ref (ad 0)), (1, .ref (ad (26 + 3 * d)))]) hx hb dX6_readTries_109 hl (k := 2) rfl (nI_1 j) (by decide) rfl (fun ls hl => ?_)
          refine lv_goto (tgt := 15) hx hb dX6_readTries_112 (by decide) ?_
          have hti := (TI_ok hTI c_72 hU0 hok (tc_add htc.1 htc.2 (by omega)))
          rw [← ht1] at hti
          have hXf : RX ad cy F_16 pic (sc.1, sc.2.1, va_up tr1 (iN (sc.2.2.2.1 + nI j)) t1, sc.2.2.2.1, sc.2.2.2.2) ps sh (zcop (sh d).2.2.2.2 rd.1 zn, nI zn, (sU (sNext (sh d).2.2.2.2 (nI zn)) sc.1 (j + 1)).1, (sU (sNext (sh d).2.2.2.2 (nI zn)) sc.1 (j + 1)).2) t1 fa mi := by rw [← hu1]; exact hX_19
          have hc56 : (sU (sNext (sh d).2.2.2.2 (nI zn)) sc.1 (j + 1)).2 = 0 ∧ (sU (sNext (sh d).2.2.2.2 (nI zn)) sc.1 (j + 1)).1 < nI zn := by rw [← hu1]; exact ⟨c_56, Int32.not_le.mp b_24⟩
          exact ih15 ((j + 1), wv, (va_up tr1 (iN (sc.2.2.2.1 + nI j)) t1), t1) ls _ H locs (by show 100 - (j + 1) < 100 - j; omega) hZ ⟨(lv_sub hl [0, 3, 1, 4, 5] rfl), hXf, hf_20, (fun i h1 h2 => by rcases Nat.lt_or_ge j i with h | h; have e : i = j + 1 := (by omega); rw [e]; exact hc56; exact hAA i h1 h), hti⟩
      · have hok : ¬ bOk (sNext (sh d).2.2.2.2 (nI zn)) sc.1 sc.2.2.2.1 j := by rw [ht1] at hok; exact hok
        refine lv_if_ne (tgt := 93) hx hb dX6_readTries_87 (by decide) (fun h => absurd (show (0 : Int32) = 0 by decide) h) (fun _ => ?_)
        refine lv_iload hx hb dX6_readTries_90 (lv_at hl 0 rfl) ?_
        refine lv_istore_n (lv' := [(3, .int ((sU (sNext (sh d).2.2.2.2 (nI zn)) sc.1 j).1)), (5, .int ((sU (sNext (sh d).2.2.2.2 (nI zn)) sc.1 j).1)), (4, .int (nI j)), (2, .int (nI j)), (0, .ref (ad 0)), (1, .ref (ad (26 + 3 * d)))]) hx hb dX6_readTries_92 rfl hl (by decide) rfl (fun ls hl => ?_)
        refine lv_iinc (v := nI (j + 1)) (lv' := [(2, .int (nI (j + 1))), (3, .int ((sU (sNext (sh d).2.2.2.2 (nI zn)) sc.1 j).1)), (5, .int ((sU (sNext (sh d).2.2.2.2 (nI zn)) sc.1 j).1)), (4, .int (nI j)), (0, .ref (ad 0)), (1, .ref (ad (26 + 3 * d)))]) hx hb dX6_readTries_93 hl (k := 3) rfl (nI_1 j) (by decide) rfl (fun ls hl => ?_)
        refine lv_aload_n hx hb dX6_readTries_96 rfl (lv_at hl 4 rfl) ?_
        refine zget hC hZ fX6_33 (zlt hn rfl) hX_9.1 rfl dX6_readTries_97 ?_
        refine zgoi hZ hA (zrunV (As := []) (rest := []) (k := 50) hC hZ (c_X1_isAtEnd l D cy n ad F_6 H.size 50 (zcop (sh d).2.2.2.2 rd.1 zn) (nI zn) u1 (by omega) hX_9.2.2.2.2.2.1.1 hX_9.2.2.2.2.2.1.2) mX1_isAtEnd vX1_isAtEnd kX6_143 (zRj_of rfl) (zlt hn rfl) hX_9.2.2.2.2.2.1.1 rfl rfl hl.1 rfl (Nat.le_of_ble_eq_true rfl) dX6_readTries_100 ⟨Nat.le_refl _, Nat.le_refl _⟩) (fun r_30 F_29 hp_31 H locs hZ => ?_)
        obtain ⟨hp_31, rfl⟩ := hp_31
        by_cases b_32 : (nI zn) ≤ u1.1
        · rw [if_pos b_32] at hp_31
          subst hp_31
          refine lv_if_eq (tgt := 109) hx hb dX6_readTries_103 (by decide) (fun h => absurd (show (1 : Int32) = 0 from h) (by decide)) (fun _ => ?_)
          refine lv_goto (tgt := 115) hx hb dX6_readTries_106 (by decide) ?_
          refine lv_iload_n hx hb dX6_readTries_115 rfl (lv_at hl 1 rfl) ?_
          refine lv_if_lt (tgt := 125) hx hb dX6_readTries_116 (by decide) (fun h => absurd h (Int32.not_lt.mpr (hU0 j))) (fun _ => ?_)
          refine lv_sipush (v := (-2000)) hx hb dX6_readTries_119 (by decide) ?_
          refine lv_iload_n hx hb dX6_readTries_122 rfl (lv_at hl 1 rfl) ?_
          refine lv_isub hx hb dX6_readTries_123 ?_
          have hS : Stop (sNext (sh d).2.2.2.2 (nI zn)) sc.1 (nI zn) (j + 1) := ⟨by omega, fun i h1 h2 => hAA i h1 (by omega), Or.inr (by rw [← hu1]; exact b_32)⟩
          have hti := (TI_bad hTI c_72 hU0 hok)
          have hP := TPost_bad hti hS (by omega) (by rw [← hu1]; exact c_56) (hU0 j)
          exact zireti hC hZ hr hlocks ⟨tr1, sc.2.2.2.1, hP, (zcop (sh d).2.2.2.2 rd.1 zn, nI zn, u1.1, u1.2), t1, hX_9, hf_10⟩ dX6_readTries_124
        · rw [if_neg b_32] at hp_31
          subst hp_31
          refine lv_if_eq (tgt := 109) hx hb dX6_readTries_103 (by decide) (fun _ => ?_) (fun h => absurd (show (0 : Int32) = 0 by decide) h)
          refine lv_iinc (v := nI (j + 1)) (lv' := [(4, .int (nI (j + 1))), (2, .int (nI (j + 1))), (3, .int ((sU (sNext (sh d).2.2.2.2 (nI zn)) sc.1 j).1)), (5, .int ((sU (sNext (sh d).2.2.2.2 (nI zn)) sc.1 j).1)), (0, .ref (ad 0)), (1, .ref (ad (26 + 3 * d)))]) hx hb dX6_readTries_109 hl (k := 3) rfl (nI_1 j) (by decide) rfl (fun ls hl => ?_)
          refine lv_goto (tgt := 15) hx hb dX6_readTries_112 (by decide) ?_
          have hti := (TI_bad hTI c_72 hU0 hok)
          have hXf : RX ad cy F_6 pic (sc.1, sc.2.1, tr1, sc.2.2.2.1, sc.2.2.2.2) ps sh (zcop (sh d).2.2.2.2 rd.1 zn, nI zn, (sU (sNext (sh d).2.2.2.2 (nI zn)) sc.1 (j + 1)).1, (sU (sNext (sh d).2.2.2.2 (nI zn)) sc.1 (j + 1)).2) t1 fa mi := by rw [← hu1]; exact hX_9
          have hc56 : (sU (sNext (sh d).2.2.2.2 (nI zn)) sc.1 (j + 1)).2 = 0 ∧ (sU (sNext (sh d).2.2.2.2 (nI zn)) sc.1 (j + 1)).1 < nI zn := by rw [← hu1]; exact ⟨c_56, Int32.not_le.mp b_32⟩
          exact ih15 ((j + 1), ((sU (sNext (sh d).2.2.2.2 (nI zn)) sc.1 j).1), tr1, t1) ls _ H locs (by show 100 - (j + 1) < 100 - j; omega) hZ ⟨(lv_sub hl [0, 2, 1, 4, 5] rfl), hXf, hf_10, (fun i h1 h2 => by rcases Nat.lt_or_ge j i with h | h; have e : i = j + 1 := (by omega); rw [e]; exact hc56; exact hAA i h1 h), hti⟩
  · refine lv_sipush (v := (-1000)) hx hb dX6_readTries_59 (by decide) ?_
    refine lv_aload_n hx hb dX6_readTries_62 rfl (lv_at hl 4 rfl) ?_
    refine zget hC hZ fX6_33 (zlt hn rfl) hX_9.1 rfl dX6_readTries_63 ?_
    refine zget hC hZ fX6_129 (zlt hn rfl) hX_9.2.2.2.2.2.1.1 rfl dX6_readTries_66 ?_
    refine lv_isub hx hb dX6_readTries_69 ?_
    have hS : Stop (sNext (sh d).2.2.2.2 (nI zn)) sc.1 (nI zn) (j + 1) := ⟨by omega, fun i h1 h2 => hAA i h1 (by omega), Or.inl (by rw [← hu1]; exact c_56)⟩
    have hP := TPost_broken hTI hS (by omega) (by rw [← hu1]; exact c_56)
    rw [← hu1] at hP
    exact zireti hC hZ hr hlocks ⟨tr1, sc.2.2.2.1, hP, (zcop (sh d).2.2.2.2 rd.1 zn, nI zn, u1.1, u1.2), t1, hX_9, hf_10⟩ dX6_readTries_70

theorem mX6_tries : zMd yX6_tries cX6_tries 3 (some .int) 1 := ⟨by decide +kernel, gt_of 273 (by decide +kernel) rfl, gt_of 45 (by decide +kernel) rfl, by decide⟩
theorem dX6_tries_0 : decode cX6_tries 0 = .ok (.aload_n 0, 1) := by decide +kernel
theorem dX6_tries_1 : decode cX6_tries 1 = .ok (.iload_n 1, 1) := by decide +kernel
theorem dX6_tries_2 : decode cX6_tries 2 = .ok (.invokevirtual 115, 3) := by decide +kernel
theorem dX6_tries_5 : decode cX6_tries 5 = .ok (.istore_n 2, 1) := by decide +kernel
theorem dX6_tries_6 : decode cX6_tries 6 = .ok (.iload_n 2, 1) := by decide +kernel
theorem dX6_tries_7 : decode cX6_tries 7 = .ok (.ifCond .eq 5, 3) := by decide +kernel
theorem dX6_tries_12 : decode cX6_tries 12 = .ok (.aload_n 0, 1) := by decide +kernel
theorem dX6_tries_13 : decode cX6_tries 13 = .ok (.getfield 25, 3) := by decide +kernel
theorem dX6_tries_16 : decode cX6_tries 16 = .ok (.iload_n 1, 1) := by decide +kernel
theorem dX6_tries_17 : decode cX6_tries 17 = .ok (.aaload, 1) := by decide +kernel
theorem dX6_tries_18 : decode cX6_tries 18 = .ok (.getfield 118, 3) := by decide +kernel
theorem dX6_tries_21 : decode cX6_tries 21 = .ok (.ifCond .eq 6, 3) := by decide +kernel
theorem dX6_tries_27 : decode cX6_tries 27 = .ok (.aload_n 0, 1) := by decide +kernel
theorem dX6_tries_28 : decode cX6_tries 28 = .ok (.aload_n 0, 1) := by decide +kernel
theorem dX6_tries_29 : decode cX6_tries 29 = .ok (.getfield 25, 3) := by decide +kernel
theorem dX6_tries_32 : decode cX6_tries 32 = .ok (.iload_n 1, 1) := by decide +kernel
theorem dX6_tries_33 : decode cX6_tries 33 = .ok (.aaload, 1) := by decide +kernel
theorem dX6_tries_34 : decode cX6_tries 34 = .ok (.invokevirtual 121, 3) := by decide +kernel
theorem kX6_121 : zLk RX6 121 yX6_readTries := Or.inl (gt_of 285 (by decide +kernel) rfl)
theorem vX6_readTries : zMi yX6_readTries := ⟨gt_of 287 (by decide +kernel) rfl, gt_of 3 (by decide +kernel) rfl⟩
theorem dX6_tries_37 : decode cX6_tries 37 = .ok (.ireturn, 1) := by decide +kernel
theorem dX6_tries_24 : decode cX6_tries 24 = .ok (.bipush (-12), 2) := by decide +kernel
theorem dX6_tries_26 : decode cX6_tries 26 = .ok (.ireturn, 1) := by decide +kernel
theorem dX6_tries_10 : decode cX6_tries 10 = .ok (.iload_n 2, 1) := by decide +kernel
theorem dX6_tries_11 : decode cX6_tries 11 = .ok (.ireturn, 1) := by decide +kernel
set_option maxRecDepth 100000 in
theorem c_X6_tries (l : Launch) (D : va_G) (cy : Nat → Nat) (n : Nat) (ad : Nat → Nat) (F : Nat → va_E) (sz : Nat) (pic : Int32) (sc ps : Scn) (sh : Nat → Shf) (rd : Rdr) (dr : Stg) (fa : Tal) (mi : Crs) (hn : 56 ≤ n) (hX : RX ad cy F pic sc ps sh rd dr fa mi) (hG : gX sc ps sh) (d : Int32) : Met l yX6_tries (zw yX6_tries cX6_tries 3 (some .int)) (rmL 6) (zPc D cy n ad F sz [.ref (ad 0), .int d]) (va_Qi (fun r F1 => ∃ tr1 tc1, ((((¬ sRowR sh d = 0 ∧ r = sRowR sh d) ∨ (sRowR sh d = 0 ∧ ¬ (sh (iN d)).2.2.1 = 0 ∧ r = -12)) ∧ tr1 = sc.2.2.1 ∧ tc1 = sc.2.2.2.1) ∨ (sRowR sh d = 0 ∧ (sh (iN d)).2.2.1 = 0 ∧ TPost (sNext (sh (iN d)).2.2.2.2 (nI (iN (sh (iN d)).2.2.2.1))) sc.1 (nI (iN (sh (iN d)).2.2.2.1)) sc.2.2.2.1 sc.2.2.1 r tr1 tc1)) ∧ ∃ rd1 dr1, RX ad cy F1 pic (sc.1, sc.2.1, tr1, tc1, sc.2.2.2.2) ps sh rd1 dr1 fa mi ∧ fr56 F F1) (zB D n ad) (zA n ad sz)) 0 0 (zA n ad sz) := by
  refine zmet (by decide +kernel) (Nat.le_of_ble_eq_true rfl) (fun p e s m args below meth c ls hC hsz hZ hA hr hlocks hnm hl => ?_)
  have hC : zC p m c cX6_tries 3 s args RX6 D cy := hC
  have hx := hC.1.1
  have hb := hC.1.2.1
  have hl : lv_has ls 3 [(0, .ref (ad 0)), (1, .int d)] := hl
  refine lv_aload_n hx hb dX6_tries_0 rfl (lv_at hl 0 rfl) ?_
  refine lv_iload_n hx hb dX6_tries_1 rfl (lv_at hl 1 rfl) ?_
  refine zgoi hZ hA (zrunV (As := [.int d]) (rest := []) (k := 0) hC hZ (c_X6_rowRefusal l D cy n ad F s.heap.size pic sc ps sh rd dr fa mi hn hX d) mX6_rowRefusal vX6_rowRefusal kX6_115 (zRj_of rfl) (zlt hn rfl) hX.1 rfl rfl hl.1 rfl (Nat.le_of_ble_eq_true rfl) dX6_tries_2 ⟨Nat.le_refl _, Nat.le_refl _⟩) (fun r_2 F_1 hp_3 H locs hZ => ?_)
  obtain ⟨rfl, rfl⟩ := hp_3
  refine lv_istore_n (lv' := [(2, .int (sRowR sh d)), (0, .ref (ad 0)), (1, .int d)]) hx hb dX6_tries_5 rfl hl (by decide) rfl (fun ls hl => ?_)
  refine lv_iload_n hx hb dX6_tries_6 rfl (lv_at hl 0 rfl) ?_
  refine lv_if_eq (tgt := 12) hx hb dX6_tries_7 (by decide) (fun c_7 => ?_) (fun c_7 => ?_)
  · refine lv_aload_n hx hb dX6_tries_12 rfl (lv_at hl 1 rfl) ?_
    refine zget hC hZ fX6_25 (zlt hn rfl) hX.1 rfl dX6_tries_13 ?_
    refine lv_iload_n hx hb dX6_tries_16 rfl (lv_at hl 2 rfl) ?_
    have hs_4 := sRowR_0 c_7
    refine zaald hC hZ (zlt hn rfl) hX.2.2.2.1 (C := RX4) rfl hs_4.1.1 hs_4.1.2 (by decide) rfl dX6_tries_17 ?_
    refine zget hC hZ fX6_118 (by have := hs_4.1.2; omega) (hX.2.2.2.2.1 (iN d) hs_4.1.2).1 rfl dX6_tries_18 ?_
    refine lv_if_eq (tgt := 27) hx hb dX6_tries_21 (by decide) (fun c_21 => ?_) (fun c_21 => ?_)
    · refine lv_aload_n hx hb dX6_tries_27 rfl (lv_at hl 1 rfl) ?_
      refine lv_aload_n hx hb dX6_tries_28 rfl (lv_at hl 1 rfl) ?_
      refine zget hC hZ fX6_25 (zlt hn rfl) hX.1 rfl dX6_tries_29 ?_
      refine lv_iload_n hx hb dX6_tries_32 rfl (lv_at hl 2 rfl) ?_
      refine zaald hC hZ (zlt hn rfl) hX.2.2.2.1 (C := RX4) rfl hs_4.1.1 hs_4.1.2 (by decide) rfl dX6_tries_33 ?_
      have hgs := hG.2.2 _ hs_4.1.2
      have hz0 := iN_b (N := 100) hgs.2.1 hgs.2.2.1
      refine zgoi hZ hA (zrunV (As := [.ref (ad (26 + 3 * (iN d)))]) (rest := []) (k := 0) hC hZ (c_X6_readTries l D cy n ad F H.size pic sc ps sh rd dr fa mi hn hX hG (iN d) (iN (sh (iN d)).2.2.2.1) hs_4.1.2 hz0.2 hz0.1) mX6_readTries vX6_readTries kX6_121 (zRj_of rfl) (zlt hn rfl) hX.1 rfl rfl hl.1 rfl (Nat.le_of_ble_eq_true rfl) dX6_tries_34 ⟨Nat.le_refl _, Nat.le_refl _⟩) (fun r_6 F_5 hp_7 H locs hZ => ?_)
      obtain ⟨tr1, tc1, hTP, rd1, dr1, hX9, hf9⟩ := hp_7
      exact zireti hC hZ hr hlocks ⟨tr1, tc1, Or.inr ⟨c_7, c_21, hTP⟩, rd1, dr1, hX9, hf9⟩ dX6_tries_37
    · refine lv_bipush (v := (-12)) hx hb dX6_tries_24 (by decide) ?_
      exact zireti hC hZ hr hlocks ⟨sc.2.2.1, sc.2.2.2.1, Or.inl ⟨Or.inr ⟨c_7, c_21, rfl⟩, rfl, rfl⟩, rd, dr, hX, fr56_rf⟩ dX6_tries_26
  · refine lv_iload_n hx hb dX6_tries_10 rfl (lv_at hl 0 rfl) ?_
    exact zireti hC hZ hr hlocks ⟨sc.2.2.1, sc.2.2.2.1, Or.inl ⟨Or.inl ⟨c_7, rfl⟩, rfl, rfl⟩, rd, dr, hX, fr56_rf⟩ dX6_tries_11
